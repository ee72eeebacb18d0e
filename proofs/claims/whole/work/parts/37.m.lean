def f_X11_readLaw_92 (F : Nat) (rec2 : Int32 → nd_Mem → nd_Res) (x1 : Int32) (x2 : Int32) (σ : nd_Mem) : nd_Res := (if x2 < 0 ∨ 48 ≤ (x2).toNatClampNeg then none else (nd_let (nd_up σ 71 (x2).toNatClampNeg (σ 60 23)) fun σ1 => (nd_bind (f_X11_isSign F (59 : Int32) σ1) fun r2 σ3 => (if r2 = 0 then (nd_bind (f_X11_errs F (1 : Int32) σ3) fun r8 σ9 => (some (r8, σ9))) else (nd_bind (f_X11_reads F σ3) fun r5 σ6 => (rec2 (x1 + (1 : Int32)) σ6))))))
def f_X11_readLaw_2_b (F : Nat) (rec2 : Int32 → nd_Mem → nd_Res) (x1 : Int32) (σ : nd_Mem) : nd_Res := (nd_bind (f_X11_isLineWord F σ) fun r1 σ2 => (if r1 = 0 then (if (σ2 60 12) = 0 then (some (x1, σ2)) else (nd_bind (f_X11_errs F (1 : Int32) σ2) fun r4 σ5 => (some (r4, σ5)))) else (if x1 = (16 : Int32) then (nd_bind (f_X11_errs F (3 : Int32) σ2) fun r25 σ26 => (some (r25, σ26))) else (if ((32 : Int32) + x1) < 0 ∨ 48 ≤ (((32 : Int32) + x1)).toNatClampNeg then none else (nd_let (nd_up σ2 68 (((32 : Int32) + x1)).toNatClampNeg (σ2 60 13)) fun σ7 => (nd_bind (f_X11_reads F σ7) fun r8 σ9 => (if ((32 : Int32) + x1) < 0 ∨ 48 ≤ (((32 : Int32) + x1)).toNatClampNeg then none else (nd_let (nd_up σ9 69 (((32 : Int32) + x1)).toNatClampNeg (σ9 60 23)) fun σ11 => (nd_bind (f_X11_readSum F σ11) fun r12 σ13 => (if r12 = (-1 : Int32) then (some ((-1 : Int32), σ13)) else (if ((32 : Int32) + x1) < 0 ∨ 48 ≤ (((32 : Int32) + x1)).toNatClampNeg then none else (nd_let (nd_up σ13 70 (((32 : Int32) + x1)).toNatClampNeg (σ13 60 23)) fun σ15 => (nd_bind (f_X11_isWord F (3 : Int32) σ15) fun r16 σ17 => (if r16 = 0 then (f_X11_readLaw_92 F rec2 x1 ((32 : Int32) + x1) σ17) else (nd_bind (f_X11_reads F σ17) fun r19 σ20 => (nd_bind (f_X11_readAny F σ20) fun r22 σ23 => (if r22 = (-1 : Int32) then (some ((-1 : Int32), σ23)) else (f_X11_readLaw_92 F rec2 x1 ((32 : Int32) + x1) σ23))))))))))))))))))
def f_X11_readLaw_2 (F : Nat) : Nat → Int32 → nd_Mem → nd_Res
  | 0, _, _ => none
  | m9 + 1, x1, σ => f_X11_readLaw_2_b F (f_X11_readLaw_2 F m9) x1 σ
def f_X11_readLaw (F : Nat) (σ : nd_Mem) : nd_Res := (f_X11_readLaw_2 F F (0 : Int32) σ)
set_option maxRecDepth 100000 in
set_option maxHeartbeats 4000000 in
theorem b_X11_readLaw_92 (F : Nat) (rec2 : Int32 → nd_Mem → nd_Res) (t : List nd_S) (hL : (nd_SH ++ t).length < nd_ro) {z : Int32 × nd_Mem} (hrec2 : ∀ (x1 : Int32) (σ : nd_Mem), rec2 x1 σ = some z → nd_V M_X11_readLaw (nd_rm 8) (nd_Pi (nd_SH ++ t) z) 0 0 2 [(0, .ref 60), (1, .int x1)] [] (nd_SH ++ t) σ) (x1 : Int32) (x2 : Int32) (σ : nd_Mem) (h : f_X11_readLaw_92 F rec2 x1 x2 σ = some z) : nd_V M_X11_readLaw (nd_rm 8) (nd_Pi (nd_SH ++ t) z) 0 0 92 [(0, .ref 60), (1, .int x1), (2, .int x2)] [] (nd_SH ++ t) σ := by
  unfold f_X11_readLaw_92 at h
  refine nd_aload_n dX11_readLaw_92 0 rfl ?_
  refine nd_get dX11_readLaw_93 gf_X11_40 (sh_60 t) rfl ?_
  refine nd_iload_n dX11_readLaw_96 2 rfl ?_
  refine nd_aload_n dX11_readLaw_97 0 rfl ?_
  refine nd_get dX11_readLaw_98 gf_X11_197 (sh_60 t) rfl ?_
  refine nd_iastoreN dX11_readLaw_101 (sh_71 t) h (fun σ1 h => ?_)
  refine nd_aload_n dX11_readLaw_102 0 rfl ?_
  refine nd_bipush dX11_readLaw_103 ib_59 ?_
  obtain ⟨r2, σ3, hc4, h⟩ := nd_bind_e h
  refine nd_cvi [.int (59 : Int32)] [] dX11_readLaw_105 cl_X11_217 (sh_60 t) ⟨Nat.le_of_ble_eq_true rfl, Nat.le_of_ble_eq_true rfl⟩ rfl (Nat.le_of_ble_eq_true rfl) hL (t_X11_isSign F t hL _ _ hc4) ?_
  refine nd_if_neN dX11_readLaw_108 117 (by decide) h (fun h => ?_) (fun h => ?_)
  · refine nd_aload_n dX11_readLaw_117 0 rfl ?_
    obtain ⟨r5, σ6, hc7, h⟩ := nd_bind_e h
    refine nd_cvv [] [] dX11_readLaw_118 cl_X11_210 (sh_60 t) ⟨Nat.le_of_ble_eq_true rfl, Nat.le_of_ble_eq_true rfl⟩ rfl (Nat.le_of_ble_eq_true rfl) hL (t_X11_reads F t hL _ hc7) ?_
    refine nd_iload_n dX11_readLaw_121 1 rfl ?_
    refine nd_iconst dX11_readLaw_122 ic_1 ?_
    refine nd_iadd dX11_readLaw_123 ?_
    refine nd_istore_n (ls' := [(1, .int (x1 + (1 : Int32))), (0, .ref 60), (2, .int x2)]) dX11_readLaw_124 (by decide) rfl ?_
    refine nd_goto dX11_readLaw_125 2 (by decide) ?_
    refine nd_sub [1, 0] rfl ?_
    exact hrec2 _ _ h
  · refine nd_aload_n dX11_readLaw_111 0 rfl ?_
    refine nd_iconst dX11_readLaw_112 ic_1 ?_
    obtain ⟨r8, σ9, hc10, h⟩ := nd_bind_e h
    refine nd_cvi [.int (1 : Int32)] [] dX11_readLaw_113 cl_X11_203 (sh_60 t) ⟨Nat.le_of_ble_eq_true rfl, Nat.le_of_ble_eq_true rfl⟩ rfl (Nat.le_of_ble_eq_true rfl) hL (t_X11_errs F t hL _ _ hc10) ?_
    exact nd_iret dX11_readLaw_116 (Nat.zero_le _) (Nat.zero_le _) (vp_nar_int _) (by cases h; exact ⟨rfl, rfl, rfl⟩)
set_option maxRecDepth 100000 in
set_option maxHeartbeats 4000000 in
theorem b_X11_readLaw_2 (F : Nat) (t : List nd_S) (hL : (nd_SH ++ t).length < nd_ro) {z : Int32 × nd_Mem} (m9 : Nat) : ∀ (x1 : Int32) (σ : nd_Mem), f_X11_readLaw_2 F m9 x1 σ = some z → nd_V M_X11_readLaw (nd_rm 8) (nd_Pi (nd_SH ++ t) z) 0 0 2 [(0, .ref 60), (1, .int x1)] [] (nd_SH ++ t) σ := by
  induction m9 with
  | zero =>
    intro x1 σ h
    have h : none = some z := h
    cases h
  | succ m9 hrec2 =>
    intro x1 σ h
    have h : f_X11_readLaw_2_b F (f_X11_readLaw_2 F m9) x1 σ = some z := h
    unfold f_X11_readLaw_2_b at h
    refine nd_aload_n dX11_readLaw_2 0 rfl ?_
    obtain ⟨r1, σ2, hc3, h⟩ := nd_bind_e h
    refine nd_cvi [] [] dX11_readLaw_3 cl_X11_244 (sh_60 t) ⟨Nat.le_of_ble_eq_true rfl, Nat.le_of_ble_eq_true rfl⟩ rfl (Nat.le_of_ble_eq_true rfl) hL (t_X11_isLineWord F t hL _ hc3) ?_
    refine nd_if_eqN dX11_readLaw_6 128 (by decide) h (fun h => ?_) (fun h => ?_)
    · refine nd_aload_n dX11_readLaw_128 0 rfl ?_
      refine nd_get dX11_readLaw_129 gf_X11_172 (sh_60 t) rfl ?_
      refine nd_if_neN dX11_readLaw_132 139 (by decide) h (fun h => ?_) (fun h => ?_)
      · refine nd_aload_n dX11_readLaw_139 0 rfl ?_
        refine nd_iconst dX11_readLaw_140 ic_1 ?_
        obtain ⟨r4, σ5, hc6, h⟩ := nd_bind_e h
        refine nd_cvi [.int (1 : Int32)] [] dX11_readLaw_141 cl_X11_203 (sh_60 t) ⟨Nat.le_of_ble_eq_true rfl, Nat.le_of_ble_eq_true rfl⟩ rfl (Nat.le_of_ble_eq_true rfl) hL (t_X11_errs F t hL _ _ hc6) ?_
        exact nd_iret dX11_readLaw_144 (Nat.zero_le _) (Nat.zero_le _) (vp_nar_int _) (by cases h; exact ⟨rfl, rfl, rfl⟩)
      · refine nd_iload_n dX11_readLaw_135 1 rfl ?_
        refine nd_goto dX11_readLaw_136 144 (by decide) ?_
        exact nd_iret dX11_readLaw_144 (Nat.zero_le _) (Nat.zero_le _) (vp_nar_int _) (by cases h; exact ⟨rfl, rfl, rfl⟩)
    · refine nd_iload_n dX11_readLaw_9 1 rfl ?_
      refine nd_bipush dX11_readLaw_10 ib_16 ?_
      refine nd_icmp_neN dX11_readLaw_12 21 (by decide) h (fun h => ?_) (fun h => ?_)
      · refine nd_bipush dX11_readLaw_21 ib_32 ?_
        refine nd_iload_n dX11_readLaw_23 1 rfl ?_
        refine nd_iadd dX11_readLaw_24 ?_
        refine nd_istore_n (ls' := [(2, .int ((32 : Int32) + x1)), (0, .ref 60), (1, .int x1)]) dX11_readLaw_25 (by decide) rfl ?_
        refine nd_aload_n dX11_readLaw_26 1 rfl ?_
        refine nd_get dX11_readLaw_27 gf_X11_31 (sh_60 t) rfl ?_
        refine nd_iload_n dX11_readLaw_30 0 rfl ?_
        refine nd_aload_n dX11_readLaw_31 1 rfl ?_
        refine nd_get dX11_readLaw_32 gf_X11_175 (sh_60 t) rfl ?_
        refine nd_iastoreN dX11_readLaw_35 (sh_68 t) h (fun σ7 h => ?_)
        refine nd_aload_n dX11_readLaw_36 1 rfl ?_
        obtain ⟨r8, σ9, hc10, h⟩ := nd_bind_e h
        refine nd_cvv [] [] dX11_readLaw_37 cl_X11_210 (sh_60 t) ⟨Nat.le_of_ble_eq_true rfl, Nat.le_of_ble_eq_true rfl⟩ rfl (Nat.le_of_ble_eq_true rfl) hL (t_X11_reads F t hL _ hc10) ?_
        refine nd_aload_n dX11_readLaw_40 1 rfl ?_
        refine nd_get dX11_readLaw_41 gf_X11_34 (sh_60 t) rfl ?_
        refine nd_iload_n dX11_readLaw_44 0 rfl ?_
        refine nd_aload_n dX11_readLaw_45 1 rfl ?_
        refine nd_get dX11_readLaw_46 gf_X11_197 (sh_60 t) rfl ?_
        refine nd_iastoreN dX11_readLaw_49 (sh_69 t) h (fun σ11 h => ?_)
        refine nd_aload_n dX11_readLaw_50 1 rfl ?_
        obtain ⟨r12, σ13, hc14, h⟩ := nd_bind_e h
        refine nd_cvi [] [] dX11_readLaw_51 cl_X11_223 (sh_60 t) ⟨Nat.le_of_ble_eq_true rfl, Nat.le_of_ble_eq_true rfl⟩ rfl (Nat.le_of_ble_eq_true rfl) hL (t_X11_readSum F t hL _ hc14) ?_
        refine nd_iconst dX11_readLaw_54 ic_m1 ?_
        refine nd_icmp_neN dX11_readLaw_55 60 (by decide) h (fun h => ?_) (fun h => ?_)
        · refine nd_aload_n dX11_readLaw_60 1 rfl ?_
          refine nd_get dX11_readLaw_61 gf_X11_37 (sh_60 t) rfl ?_
          refine nd_iload_n dX11_readLaw_64 0 rfl ?_
          refine nd_aload_n dX11_readLaw_65 1 rfl ?_
          refine nd_get dX11_readLaw_66 gf_X11_197 (sh_60 t) rfl ?_
          refine nd_iastoreN dX11_readLaw_69 (sh_70 t) h (fun σ15 h => ?_)
          refine nd_aload_n dX11_readLaw_70 1 rfl ?_
          refine nd_iconst dX11_readLaw_71 ic_3 ?_
          obtain ⟨r16, σ17, hc18, h⟩ := nd_bind_e h
          refine nd_cvi [.int (3 : Int32)] [] dX11_readLaw_72 cl_X11_232 (sh_60 t) ⟨Nat.le_of_ble_eq_true rfl, Nat.le_of_ble_eq_true rfl⟩ rfl (Nat.le_of_ble_eq_true rfl) hL (t_X11_isWord F t hL _ _ hc18) ?_
          refine nd_if_eqN dX11_readLaw_75 92 (by decide) h (fun h => ?_) (fun h => ?_)
          · refine nd_sub [1, 2, 0] rfl ?_
            exact b_X11_readLaw_92 F _ t hL hrec2 _ _ _ h
          · refine nd_aload_n dX11_readLaw_78 1 rfl ?_
            obtain ⟨r19, σ20, hc21, h⟩ := nd_bind_e h
            refine nd_cvv [] [] dX11_readLaw_79 cl_X11_210 (sh_60 t) ⟨Nat.le_of_ble_eq_true rfl, Nat.le_of_ble_eq_true rfl⟩ rfl (Nat.le_of_ble_eq_true rfl) hL (t_X11_reads F t hL _ hc21) ?_
            refine nd_aload_n dX11_readLaw_82 1 rfl ?_
            obtain ⟨r22, σ23, hc24, h⟩ := nd_bind_e h
            refine nd_cvi [] [] dX11_readLaw_83 cl_X11_248 (sh_60 t) ⟨Nat.le_of_ble_eq_true rfl, Nat.le_of_ble_eq_true rfl⟩ rfl (Nat.le_of_ble_eq_true rfl) hL (t_X11_readAny F t hL _ hc24) ?_
            refine nd_iconst dX11_readLaw_86 ic_m1 ?_
            refine nd_icmp_neN dX11_readLaw_87 92 (by decide) h (fun h => ?_) (fun h => ?_)
            · refine nd_sub [1, 2, 0] rfl ?_
              exact b_X11_readLaw_92 F _ t hL hrec2 _ _ _ h
            · refine nd_iconst dX11_readLaw_90 ic_m1 ?_
              exact nd_iret dX11_readLaw_91 (Nat.zero_le _) (Nat.zero_le _) (vp_nar_int _) (by cases h; exact ⟨rfl, rfl, rfl⟩)
        · refine nd_iconst dX11_readLaw_58 ic_m1 ?_
          exact nd_iret dX11_readLaw_59 (Nat.zero_le _) (Nat.zero_le _) (vp_nar_int _) (by cases h; exact ⟨rfl, rfl, rfl⟩)
      · refine nd_aload_n dX11_readLaw_15 0 rfl ?_
        refine nd_iconst dX11_readLaw_16 ic_3 ?_
        obtain ⟨r25, σ26, hc27, h⟩ := nd_bind_e h
        refine nd_cvi [.int (3 : Int32)] [] dX11_readLaw_17 cl_X11_203 (sh_60 t) ⟨Nat.le_of_ble_eq_true rfl, Nat.le_of_ble_eq_true rfl⟩ rfl (Nat.le_of_ble_eq_true rfl) hL (t_X11_errs F t hL _ _ hc27) ?_
        exact nd_iret dX11_readLaw_20 (Nat.zero_le _) (Nat.zero_le _) (vp_nar_int _) (by cases h; exact ⟨rfl, rfl, rfl⟩)
set_option maxRecDepth 100000 in
set_option maxHeartbeats 4000000 in
theorem t_X11_readLaw (F : Nat) (t : List nd_S) (hL : (nd_SH ++ t).length < nd_ro) {z : Int32 × nd_Mem} (σ : nd_Mem) (h : f_X11_readLaw F σ = some z) : nd_Fn M_X11_readLaw (nd_rm 8) [.ref 60] (nd_SH ++ t) σ (nd_Pi (nd_SH ++ t) z) := by
  refine nd_Fn.ofV (ls := [(0, .ref 60)]) pl_X11_readLaw rfl (fun _ => Nat.le_of_ble_eq_true rfl) (fun _ => rfl) ?_
  unfold f_X11_readLaw at h
  refine nd_iconst dX11_readLaw_0 ic_0 ?_
  refine nd_istore_n (ls' := [(1, .int (0 : Int32)), (0, .ref 60)]) dX11_readLaw_1 (by decide) rfl ?_
  refine nd_sub [1, 0] rfl ?_
  exact b_X11_readLaw_2 F t hL F _ _ h
def f_X11_years_30 (F : Nat) (σ : nd_Mem) : nd_Res := (some ((-1 : Int32), σ))
def f_X11_years_36_b (F : Nat) (rec36 : Int32 → Int32 → Int32 → nd_Mem → nd_Res) (x1 : Int32) (x2 : Int32) (x3 : Int32) (σ : nd_Mem) : nd_Res := (if x1 ≤ x3 then (some (x2, σ)) else (nd_bind (f_X11_keepsAhead F σ) fun r1 σ2 => (nd_bind (f_X11_goesBy F σ2) fun r4 σ5 => (rec36 x1 (x2 + r4) (x3 + (1 : Int32)) σ5))))
def f_X11_years_36 (F : Nat) : Nat → Int32 → Int32 → Int32 → nd_Mem → nd_Res
  | 0, _, _, _, _ => none
  | m9 + 1, x1, x2, x3, σ => f_X11_years_36_b F (f_X11_years_36 F m9) x1 x2 x3 σ
def f_X11_years (F : Nat) (x1 : Int32) (σ : nd_Mem) : nd_Res := (nd_let (nd_up σ 60 0 (0 : Int32)) fun σ1 => (nd_bind (f_X11_isIn F x1 (1 : Int32) (60 : Int32) σ1) fun r2 σ3 => (if r2 = 0 then (f_X11_years_30 F σ3) else (if (0 : Int32) < 0 ∨ 103 ≤ ((0 : Int32)).toNatClampNeg then none else (if ((σ3 61 ((0 : Int32)).toNatClampNeg) + x1) ≤ (9999 : Int32) then (f_X11_years_36 F F x1 (0 : Int32) (0 : Int32) σ3) else (f_X11_years_30 F σ3))))))
set_option maxRecDepth 100000 in
set_option maxHeartbeats 4000000 in
theorem b_X11_years_30 (F : Nat) (t : List nd_S) (hL : (nd_SH ++ t).length < nd_ro) {z : Int32 × nd_Mem} (σ : nd_Mem) (h : f_X11_years_30 F σ = some z) : nd_V M_X11_years (nd_rm 8) (nd_Pi (nd_SH ++ t) z) 0 0 30 [(0, .ref 60)] [] (nd_SH ++ t) σ := by
  unfold f_X11_years_30 at h
  refine nd_iconst dX11_years_30 ic_m1 ?_
  exact nd_iret dX11_years_31 (Nat.zero_le _) (Nat.zero_le _) (vp_nar_int _) (by cases h; exact ⟨rfl, rfl, rfl⟩)
set_option maxRecDepth 100000 in
set_option maxHeartbeats 4000000 in
theorem b_X11_years_36 (F : Nat) (t : List nd_S) (hL : (nd_SH ++ t).length < nd_ro) {z : Int32 × nd_Mem} (m9 : Nat) : ∀ (x1 : Int32) (x2 : Int32) (x3 : Int32) (σ : nd_Mem), f_X11_years_36 F m9 x1 x2 x3 σ = some z → nd_V M_X11_years (nd_rm 8) (nd_Pi (nd_SH ++ t) z) 0 0 36 [(0, .ref 60), (1, .int x1), (2, .int x2), (3, .int x3)] [] (nd_SH ++ t) σ := by
  induction m9 with
  | zero =>
    intro x1 x2 x3 σ h
    have h : none = some z := h
    cases h
  | succ m9 hrec36 =>
    intro x1 x2 x3 σ h
    have h : f_X11_years_36_b F (f_X11_years_36 F m9) x1 x2 x3 σ = some z := h
    unfold f_X11_years_36_b at h
    refine nd_iload_n dX11_years_36 3 rfl ?_
    refine nd_iload_n dX11_years_37 1 rfl ?_
    refine nd_icmp_geN dX11_years_38 58 (by decide) h (fun h => ?_) (fun h => ?_)
    · refine nd_iload_n dX11_years_58 2 rfl ?_
      exact nd_iret dX11_years_59 (Nat.zero_le _) (Nat.zero_le _) (vp_nar_int _) (by cases h; exact ⟨rfl, rfl, rfl⟩)
    · refine nd_aload_n dX11_years_41 0 rfl ?_
      obtain ⟨r1, σ2, hc3, h⟩ := nd_bind_e h
      refine nd_cvv [] [] dX11_years_42 cl_X11_351 (sh_60 t) ⟨Nat.le_of_ble_eq_true rfl, Nat.le_of_ble_eq_true rfl⟩ rfl (Nat.le_of_ble_eq_true rfl) hL (t_X11_keepsAhead F t hL _ hc3) ?_
      refine nd_iload_n dX11_years_45 2 rfl ?_
      refine nd_aload_n dX11_years_46 0 rfl ?_
      obtain ⟨r4, σ5, hc6, h⟩ := nd_bind_e h
      refine nd_cvi [] [.int x2] dX11_years_47 cl_X11_378 (sh_60 t) ⟨Nat.le_of_ble_eq_true rfl, Nat.le_of_ble_eq_true rfl⟩ rfl (Nat.le_of_ble_eq_true rfl) hL (t_X11_goesBy F t hL _ hc6) ?_
      refine nd_iadd dX11_years_50 ?_
      refine nd_istore_n (ls' := [(2, .int (x2 + r4)), (0, .ref 60), (1, .int x1), (3, .int x3)]) dX11_years_51 (by decide) rfl ?_
      refine nd_iinc (v := (x3 + (1 : Int32))) (ls' := [(3, .int (x3 + (1 : Int32))), (2, .int (x2 + r4)), (0, .ref 60), (1, .int x1)]) dX11_years_52 3 rfl (congrArg (HAdd.hAdd _) ic_1) (by decide) rfl ?_
      refine nd_goto dX11_years_55 36 (by decide) ?_
      refine nd_sub [2, 3, 1, 0] rfl ?_
      exact hrec36 _ _ _ _ h
set_option maxRecDepth 100000 in
set_option maxHeartbeats 4000000 in
theorem t_X11_years (F : Nat) (t : List nd_S) (hL : (nd_SH ++ t).length < nd_ro) {z : Int32 × nd_Mem} (x1 : Int32) (σ : nd_Mem) (h : f_X11_years F x1 σ = some z) : nd_Fn M_X11_years (nd_rm 8) [.ref 60, .int x1] (nd_SH ++ t) σ (nd_Pi (nd_SH ++ t) z) := by
  refine nd_Fn.ofV (ls := [(0, .ref 60), (1, .int x1)]) pl_X11_years rfl (fun _ => Nat.le_of_ble_eq_true rfl) (fun _ => rfl) ?_
  unfold f_X11_years at h
  refine nd_aload_n dX11_years_0 0 rfl ?_
  refine nd_iconst dX11_years_1 ic_0 ?_
  refine nd_putiN dX11_years_2 pf_X11_132 (sh_60 t) rfl h (fun σ1 h => ?_)
  refine nd_aload_n dX11_years_5 0 rfl ?_
  refine nd_iload_n dX11_years_6 1 rfl ?_
  refine nd_iconst dX11_years_7 ic_1 ?_
  refine nd_bipush dX11_years_8 ib_60 ?_
  obtain ⟨r2, σ3, hc4, h⟩ := nd_bind_e h
  refine nd_cvi [.int x1, .int (1 : Int32), .int (60 : Int32)] [] dX11_years_10 cl_X11_147 (sh_60 t) ⟨Nat.le_of_ble_eq_true rfl, Nat.le_of_ble_eq_true rfl⟩ rfl (Nat.le_of_ble_eq_true rfl) hL (t_X11_isIn F t hL _ _ _ _ hc4) ?_
  refine nd_if_eqN dX11_years_13 30 (by decide) h (fun h => ?_) (fun h => ?_)
  · refine nd_sub [0] rfl ?_
    exact b_X11_years_30 F t hL _ h
  · refine nd_aload_n dX11_years_16 0 rfl ?_
    refine nd_get dX11_years_17 gf_X11_7 (sh_60 t) rfl ?_
    refine nd_iconst dX11_years_20 ic_0 ?_
    refine nd_ialoadN dX11_years_21 (sh_61 t) h (fun h => ?_)
    refine nd_iload_n dX11_years_22 1 rfl ?_
    refine nd_iadd dX11_years_23 ?_
    refine nd_sipush dX11_years_24 is_9999 ?_
    refine nd_icmp_leN dX11_years_27 32 (by decide) h (fun h => ?_) (fun h => ?_)
    · refine nd_iconst dX11_years_32 ic_0 ?_
      refine nd_istore_n (ls' := [(2, .int (0 : Int32)), (0, .ref 60), (1, .int x1)]) dX11_years_33 (by decide) rfl ?_
      refine nd_iconst dX11_years_34 ic_0 ?_
      refine nd_istore_n (ls' := [(3, .int (0 : Int32)), (2, .int (0 : Int32)), (0, .ref 60), (1, .int x1)]) dX11_years_35 (by decide) rfl ?_
      refine nd_sub [2, 3, 1, 0] rfl ?_
      exact b_X11_years_36 F t hL F _ _ _ _ h
    · refine nd_sub [0] rfl ?_
      exact b_X11_years_30 F t hL _ h
def f_X11_readsText_41 (F : Nat) (s0 : Int32) (σ : nd_Mem) : nd_Res := (nd_bind (f_X11_readHouses F s0 σ) fun r1 σ2 => (some (r1, σ2)))
def f_X11_readsText (F : Nat) (x1 : Int32) (σ : nd_Mem) : nd_Res := (nd_let (nd_up σ 60 22 (0 : Int32)) fun σ1 => (nd_bind (f_X11_reads F σ1) fun r2 σ3 => (if x1 = (1 : Int32) then (nd_bind (f_X11_readPlans F σ3) fun r8 σ9 => (some (r8, σ9))) else (if x1 = 0 then (nd_bind (f_X11_readLaw F σ3) fun r5 σ6 => (some (r5, σ6))) else (if x1 = (3 : Int32) then (f_X11_readsText_41 F (1 : Int32) σ3) else (f_X11_readsText_41 F (0 : Int32) σ3))))))
set_option maxRecDepth 100000 in
set_option maxHeartbeats 4000000 in
theorem b_X11_readsText_41 (F : Nat) (t : List nd_S) (hL : (nd_SH ++ t).length < nd_ro) {z : Int32 × nd_Mem} (s0 : Int32) (σ : nd_Mem) (h : f_X11_readsText_41 F s0 σ = some z) : nd_V M_X11_readsText (nd_rm 9) (nd_Pi (nd_SH ++ t) z) 0 0 41 [(0, .ref 60)] [.int s0, .ref 60] (nd_SH ++ t) σ := by
  unfold f_X11_readsText_41 at h
  obtain ⟨r1, σ2, hc3, h⟩ := nd_bind_e h
  refine nd_cvi [.int s0] [] dX11_readsText_41 cl_X11_282 (sh_60 t) ⟨Nat.le_of_ble_eq_true rfl, Nat.le_of_ble_eq_true rfl⟩ rfl (Nat.le_of_ble_eq_true rfl) hL (t_X11_readHouses F t hL _ _ hc3) ?_
  exact nd_iret dX11_readsText_44 (Nat.zero_le _) (Nat.zero_le _) (vp_nar_int _) (by cases h; exact ⟨rfl, rfl, rfl⟩)
set_option maxRecDepth 100000 in
set_option maxHeartbeats 4000000 in
theorem t_X11_readsText (F : Nat) (t : List nd_S) (hL : (nd_SH ++ t).length < nd_ro) {z : Int32 × nd_Mem} (x1 : Int32) (σ : nd_Mem) (h : f_X11_readsText F x1 σ = some z) : nd_Fn M_X11_readsText (nd_rm 9) [.ref 60, .int x1] (nd_SH ++ t) σ (nd_Pi (nd_SH ++ t) z) := by
  refine nd_Fn.ofV (ls := [(0, .ref 60), (1, .int x1)]) pl_X11_readsText rfl (fun _ => Nat.le_of_ble_eq_true rfl) (fun _ => rfl) ?_
  unfold f_X11_readsText at h
  refine nd_aload_n dX11_readsText_0 0 rfl ?_
  refine nd_iconst dX11_readsText_1 ic_0 ?_
  refine nd_putiN dX11_readsText_2 pf_X11_251 (sh_60 t) rfl h (fun σ1 h => ?_)
  refine nd_aload_n dX11_readsText_5 0 rfl ?_
  obtain ⟨r2, σ3, hc4, h⟩ := nd_bind_e h
  refine nd_cvv [] [] dX11_readsText_6 cl_X11_210 (sh_60 t) ⟨Nat.le_of_ble_eq_true rfl, Nat.le_of_ble_eq_true rfl⟩ rfl (Nat.le_of_ble_eq_true rfl) hL (t_X11_reads F t hL _ hc4) ?_
  refine nd_iload_n dX11_readsText_9 1 rfl ?_
  refine nd_iconst dX11_readsText_10 ic_1 ?_
  refine nd_icmp_neN dX11_readsText_11 19 (by decide) h (fun h => ?_) (fun h => ?_)
  · refine nd_iload_n dX11_readsText_19 1 rfl ?_
    refine nd_if_neN dX11_readsText_20 30 (by decide) h (fun h => ?_) (fun h => ?_)
    · refine nd_aload_n dX11_readsText_30 0 rfl ?_
      refine nd_iload_n dX11_readsText_31 1 rfl ?_
      refine nd_iconst dX11_readsText_32 ic_3 ?_
      refine nd_icmp_neN dX11_readsText_33 40 (by decide) h (fun h => ?_) (fun h => ?_)
      · refine nd_iconst dX11_readsText_40 ic_0 ?_
        refine nd_sub [0] rfl ?_
        exact b_X11_readsText_41 F t hL _ _ h
      · refine nd_iconst dX11_readsText_36 ic_1 ?_
        refine nd_goto dX11_readsText_37 41 (by decide) ?_
        refine nd_sub [0] rfl ?_
        exact b_X11_readsText_41 F t hL _ _ h
    · refine nd_aload_n dX11_readsText_23 0 rfl ?_
      obtain ⟨r5, σ6, hc7, h⟩ := nd_bind_e h
      refine nd_cvi [] [] dX11_readsText_24 cl_X11_279 (sh_60 t) ⟨Nat.le_of_ble_eq_true rfl, Nat.le_of_ble_eq_true rfl⟩ rfl (Nat.le_of_ble_eq_true rfl) hL (t_X11_readLaw F t hL _ hc7) ?_
      refine nd_goto dX11_readsText_27 44 (by decide) ?_
      exact nd_iret dX11_readsText_44 (Nat.zero_le _) (Nat.zero_le _) (vp_nar_int _) (by cases h; exact ⟨rfl, rfl, rfl⟩)
  · refine nd_aload_n dX11_readsText_14 0 rfl ?_
    obtain ⟨r8, σ9, hc10, h⟩ := nd_bind_e h
    refine nd_cvi [] [] dX11_readsText_15 cl_X11_276 (sh_60 t) ⟨Nat.le_of_ble_eq_true rfl, Nat.le_of_ble_eq_true rfl⟩ rfl (Nat.le_of_ble_eq_true rfl) hL (t_X11_readPlans F t hL _ hc10) ?_
    exact nd_iret dX11_readsText_18 (Nat.zero_le _) (Nat.zero_le _) (vp_nar_int _) (by cases h; exact ⟨rfl, rfl, rfl⟩)
def f_X11_text_99 (F : Nat) (x2 : Int32) (σ : nd_Mem) : nd_Res := (some (x2, σ))
def f_X11_text_69 (F : Nat) (x1 : Int32) (x2 : Int32) (σ : nd_Mem) : nd_Res := (nd_let (nd_up σ 60 9 (0 : Int32)) fun σ1 => (if x2 = (-1 : Int32) then (some ((-1 : Int32), σ1)) else (if x1 = 0 then (nd_bind (f_X11_takesLaw F x2 σ1) fun r5 σ6 => (f_X11_text_99 F x2 σ6)) else (nd_bind (f_X11_takesOther F x1 x2 σ1) fun r2 σ3 => (f_X11_text_99 F x2 σ3)))))
def f_X11_text (F : Nat) (x1 : Int32) (σ : nd_Mem) : nd_Res := (nd_let (nd_up σ 60 0 (0 : Int32)) fun σ1 => (nd_let (nd_up σ1 60 29 (0 : Int32)) fun σ2 => (nd_let (nd_up σ2 60 30 (-1 : Int32)) fun σ3 => (nd_let (nd_up σ3 60 10 (0 : Int32)) fun σ4 => (nd_let (nd_up σ4 60 23 (0 : Int32)) fun σ5 => (nd_let (nd_up σ5 60 24 (0 : Int32)) fun σ6 => (nd_bind (f_X11_isIn F x1 (0 : Int32) (3 : Int32) σ6) fun r7 σ8 => (if r7 = 0 then (f_X11_text_69 F x1 (-1 : Int32) σ8) else (nd_bind (f_X11_readsText F x1 σ8) fun r10 σ11 => (if r10 = (-1 : Int32) then (nd_let (nd_up σ11 60 29 (σ11 60 27)) fun σ13 => (nd_let (nd_up σ13 60 30 (σ13 60 28)) fun σ14 => (f_X11_text_69 F x1 r10 σ14))) else (f_X11_text_69 F x1 r10 σ11)))))))))))
set_option maxRecDepth 100000 in
set_option maxHeartbeats 4000000 in
theorem b_X11_text_99 (F : Nat) (t : List nd_S) (hL : (nd_SH ++ t).length < nd_ro) {z : Int32 × nd_Mem} (x2 : Int32) (σ : nd_Mem) (h : f_X11_text_99 F x2 σ = some z) : nd_V M_X11_text (nd_rm 10) (nd_Pi (nd_SH ++ t) z) 0 0 99 [(0, .ref 60), (2, .int x2)] [] (nd_SH ++ t) σ := by
  unfold f_X11_text_99 at h
  refine nd_iload_n dX11_text_99 1 rfl ?_
  exact nd_iret dX11_text_100 (Nat.zero_le _) (Nat.zero_le _) (vp_nar_int _) (by cases h; exact ⟨rfl, rfl, rfl⟩)
set_option maxRecDepth 100000 in
set_option maxHeartbeats 4000000 in
theorem b_X11_text_69 (F : Nat) (t : List nd_S) (hL : (nd_SH ++ t).length < nd_ro) {z : Int32 × nd_Mem} (x1 : Int32) (x2 : Int32) (σ : nd_Mem) (h : f_X11_text_69 F x1 x2 σ = some z) : nd_V M_X11_text (nd_rm 10) (nd_Pi (nd_SH ++ t) z) 0 0 69 [(0, .ref 60), (1, .int x1), (2, .int x2)] [] (nd_SH ++ t) σ := by
  unfold f_X11_text_69 at h
  refine nd_aload_n dX11_text_69 0 rfl ?_
  refine nd_iconst dX11_text_70 ic_0 ?_
  refine nd_putiN dX11_text_71 pf_X11_155 (sh_60 t) rfl h (fun σ1 h => ?_)
  refine nd_iload_n dX11_text_74 2 rfl ?_
  refine nd_iconst dX11_text_75 ic_m1 ?_
  refine nd_icmp_neN dX11_text_76 81 (by decide) h (fun h => ?_) (fun h => ?_)
  · refine nd_iload_n dX11_text_81 1 rfl ?_
    refine nd_if_neN dX11_text_82 93 (by decide) h (fun h => ?_) (fun h => ?_)
    · refine nd_aload_n dX11_text_93 0 rfl ?_
      refine nd_iload_n dX11_text_94 1 rfl ?_
      refine nd_iload_n dX11_text_95 2 rfl ?_
      obtain ⟨r2, σ3, hc4, h⟩ := nd_bind_e h
      refine nd_cvv [.int x1, .int x2] [] dX11_text_96 cl_X11_304 (sh_60 t) ⟨Nat.le_of_ble_eq_true rfl, Nat.le_of_ble_eq_true rfl⟩ rfl (Nat.le_of_ble_eq_true rfl) hL (t_X11_takesOther F t hL _ _ _ hc4) ?_
      refine nd_sub [0, 2] rfl ?_
      exact b_X11_text_99 F t hL _ _ h
    · refine nd_aload_n dX11_text_85 0 rfl ?_
      refine nd_iload_n dX11_text_86 2 rfl ?_
      obtain ⟨r5, σ6, hc7, h⟩ := nd_bind_e h
      refine nd_cvv [.int x2] [] dX11_text_87 cl_X11_301 (sh_60 t) ⟨Nat.le_of_ble_eq_true rfl, Nat.le_of_ble_eq_true rfl⟩ rfl (Nat.le_of_ble_eq_true rfl) hL (t_X11_takesLaw F t hL _ _ hc7) ?_
      refine nd_goto dX11_text_90 99 (by decide) ?_
      refine nd_sub [0, 2] rfl ?_
      exact b_X11_text_99 F t hL _ _ h
  · refine nd_iconst dX11_text_79 ic_m1 ?_
    exact nd_iret dX11_text_80 (Nat.zero_le _) (Nat.zero_le _) (vp_nar_int _) (by cases h; exact ⟨rfl, rfl, rfl⟩)
set_option maxRecDepth 100000 in
set_option maxHeartbeats 4000000 in
theorem t_X11_text (F : Nat) (t : List nd_S) (hL : (nd_SH ++ t).length < nd_ro) {z : Int32 × nd_Mem} (x1 : Int32) (σ : nd_Mem) (h : f_X11_text F x1 σ = some z) : nd_Fn M_X11_text (nd_rm 10) [.ref 60, .int x1] (nd_SH ++ t) σ (nd_Pi (nd_SH ++ t) z) := by
  refine nd_Fn.ofV (ls := [(0, .ref 60), (1, .int x1)]) pl_X11_text rfl (fun _ => Nat.le_of_ble_eq_true rfl) (fun _ => rfl) ?_
  unfold f_X11_text at h
  refine nd_aload_n dX11_text_0 0 rfl ?_
  refine nd_iconst dX11_text_1 ic_0 ?_
  refine nd_putiN dX11_text_2 pf_X11_132 (sh_60 t) rfl h (fun σ1 h => ?_)
  refine nd_aload_n dX11_text_5 0 rfl ?_
  refine nd_iconst dX11_text_6 ic_0 ?_
  refine nd_putiN dX11_text_7 pf_X11_295 (sh_60 t) rfl h (fun σ2 h => ?_)
  refine nd_aload_n dX11_text_10 0 rfl ?_
  refine nd_iconst dX11_text_11 ic_m1 ?_
  refine nd_putiN dX11_text_12 pf_X11_52 (sh_60 t) rfl h (fun σ3 h => ?_)
  refine nd_aload_n dX11_text_15 0 rfl ?_
  refine nd_iconst dX11_text_16 ic_0 ?_
  refine nd_putiN dX11_text_17 pf_X11_162 (sh_60 t) rfl h (fun σ4 h => ?_)
  refine nd_aload_n dX11_text_20 0 rfl ?_
  refine nd_iconst dX11_text_21 ic_0 ?_
  refine nd_putiN dX11_text_22 pf_X11_197 (sh_60 t) rfl h (fun σ5 h => ?_)
  refine nd_aload_n dX11_text_25 0 rfl ?_
  refine nd_iconst dX11_text_26 ic_0 ?_
  refine nd_putiN dX11_text_27 pf_X11_229 (sh_60 t) rfl h (fun σ6 h => ?_)
  refine nd_iconst dX11_text_30 ic_m1 ?_
  refine nd_istore_n (ls' := [(2, .int (-1 : Int32)), (0, .ref 60), (1, .int x1)]) dX11_text_31 (by decide) rfl ?_
  refine nd_aload_n dX11_text_32 1 rfl ?_
  refine nd_iload_n dX11_text_33 2 rfl ?_
  refine nd_iconst dX11_text_34 ic_0 ?_
  refine nd_iconst dX11_text_35 ic_3 ?_
  obtain ⟨r7, σ8, hc9, h⟩ := nd_bind_e h
  refine nd_cvi [.int x1, .int (0 : Int32), .int (3 : Int32)] [] dX11_text_36 cl_X11_147 (sh_60 t) ⟨Nat.le_of_ble_eq_true rfl, Nat.le_of_ble_eq_true rfl⟩ rfl (Nat.le_of_ble_eq_true rfl) hL (t_X11_isIn F t hL _ _ _ _ hc9) ?_
  refine nd_if_eqN dX11_text_39 69 (by decide) h (fun h => ?_) (fun h => ?_)
  · refine nd_sub [1, 2, 0] rfl ?_
    exact b_X11_text_69 F t hL _ _ _ h
  · refine nd_aload_n dX11_text_42 1 rfl ?_
    refine nd_iload_n dX11_text_43 2 rfl ?_
    obtain ⟨r10, σ11, hc12, h⟩ := nd_bind_e h
    refine nd_cvi [.int x1] [] dX11_text_44 cl_X11_298 (sh_60 t) ⟨Nat.le_of_ble_eq_true rfl, Nat.le_of_ble_eq_true rfl⟩ rfl (Nat.le_of_ble_eq_true rfl) hL (t_X11_readsText F t hL _ _ hc12) ?_
    refine nd_istore_n (ls' := [(2, .int r10), (0, .ref 60), (1, .int x1)]) dX11_text_47 (by decide) rfl ?_
    refine nd_iload_n dX11_text_48 0 rfl ?_
    refine nd_iconst dX11_text_49 ic_m1 ?_
    refine nd_icmp_neN dX11_text_50 69 (by decide) h (fun h => ?_) (fun h => ?_)
    · refine nd_sub [1, 2, 0] rfl ?_
      exact b_X11_text_69 F t hL _ _ _ h
    · refine nd_aload_n dX11_text_53 1 rfl ?_
      refine nd_aload_n dX11_text_54 1 rfl ?_
      refine nd_get dX11_text_55 gf_X11_191 (sh_60 t) rfl ?_
      refine nd_putiN dX11_text_58 pf_X11_295 (sh_60 t) rfl h (fun σ13 h => ?_)
      refine nd_aload_n dX11_text_61 1 rfl ?_
      refine nd_aload_n dX11_text_62 1 rfl ?_
      refine nd_get dX11_text_63 gf_X11_194 (sh_60 t) rfl ?_
      refine nd_putiN dX11_text_66 pf_X11_52 (sh_60 t) rfl h (fun σ14 h => ?_)
      refine nd_sub [1, 2, 0] rfl ?_
      exact b_X11_text_69 F t hL _ _ _ h
