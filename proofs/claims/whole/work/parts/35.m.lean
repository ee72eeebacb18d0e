def f_X11_order_28 (F : Nat) (σ : nd_Mem) : nd_Res := (some ((-1 : Int32), σ))
def f_X11_order_41_b (F : Nat) (rec41 : Int32 → Int32 → Int32 → nd_Mem → nd_Res) (x1 : Int32) (x4 : Int32) (x5 : Int32) (σ : nd_Mem) : nd_Res := (if x1 ≤ x5 then (some (x4, σ)) else (nd_bind (f_X11_roundOf F x1 x5 σ) fun r1 σ2 => (nd_bind (f_X11_common F x4 r1 σ2) fun r4 σ5 => (if r4 = 0 then none else (nd_bind (f_X11_roundOf F x1 x5 σ5) fun r7 σ8 => (rec41 x1 ((x4 / r4) * r7) (x5 + (1 : Int32)) σ8))))))
def f_X11_order_41 (F : Nat) : Nat → Int32 → Int32 → Int32 → nd_Mem → nd_Res
  | 0, _, _, _, _ => none
  | m9 + 1, x1, x4, x5, σ => f_X11_order_41_b F (f_X11_order_41 F m9) x1 x4 x5 σ
def f_X11_order_102_b (F : Nat) (rec102 : Int32 → Int32 → Int32 → Int32 → nd_Mem → nd_Res) (x1 : Int32) (x3 : Int32) (x4 : Int32) (x5 : Int32) (σ : nd_Mem) : nd_Res := (if x3 ≤ x5 then (some (x4, σ)) else (nd_bind (f_X11_goesTo F x1 x4 σ) fun r1 σ2 => (rec102 x1 x3 r1 (x5 + (1 : Int32)) σ2)))
def f_X11_order_102 (F : Nat) : Nat → Int32 → Int32 → Int32 → Int32 → nd_Mem → nd_Res
  | 0, _, _, _, _, _ => none
  | m9 + 1, x1, x3, x4, x5, σ => f_X11_order_102_b F (f_X11_order_102 F m9) x1 x3 x4 x5 σ
def f_X11_order (F : Nat) (x1 : Int32) (x2 : Int32) (x3 : Int32) (σ : nd_Mem) : nd_Res := (nd_let (nd_up σ 60 0 (0 : Int32)) fun σ1 => (nd_bind (f_X11_isIn F x1 (1 : Int32) (52 : Int32) σ1) fun r2 σ3 => (if r2 = 0 then (f_X11_order_28 F σ3) else (nd_bind (f_X11_isIn F x2 (-1 : Int32) (x1 - (1 : Int32)) σ3) fun r5 σ6 => (if r5 = 0 then (f_X11_order_28 F σ6) else (if x2 = (-1 : Int32) then (f_X11_order_41 F F x1 (1 : Int32) (0 : Int32) σ6) else (nd_bind (f_X11_isIn F x3 (0 : Int32) (1000 : Int32) σ6) fun r8 σ9 => (if r8 = 0 then (some ((-1 : Int32), σ9)) else (f_X11_order_102 F F x1 x3 x2 (0 : Int32) σ9)))))))))
set_option maxRecDepth 100000 in
set_option maxHeartbeats 4000000 in
theorem b_X11_order_28 (F : Nat) (t : List nd_S) (hL : (nd_SH ++ t).length < nd_ro) {z : Int32 × nd_Mem} (σ : nd_Mem) (h : f_X11_order_28 F σ = some z) : nd_V M_X11_order (nd_rm 2) (nd_Pi (nd_SH ++ t) z) 0 0 28 [(0, .ref 60)] [] (nd_SH ++ t) σ := by
  unfold f_X11_order_28 at h
  refine nd_iconst dX11_order_28 ic_m1 ?_
  exact nd_iret dX11_order_29 (Nat.zero_le _) (Nat.zero_le _) (vp_nar_int _) (by cases h; exact ⟨rfl, rfl, rfl⟩)
set_option maxRecDepth 100000 in
set_option maxHeartbeats 4000000 in
theorem b_X11_order_41 (F : Nat) (t : List nd_S) (hL : (nd_SH ++ t).length < nd_ro) {z : Int32 × nd_Mem} (m9 : Nat) : ∀ (x1 : Int32) (x4 : Int32) (x5 : Int32) (σ : nd_Mem), f_X11_order_41 F m9 x1 x4 x5 σ = some z → nd_V M_X11_order (nd_rm 2) (nd_Pi (nd_SH ++ t) z) 0 0 41 [(0, .ref 60), (1, .int x1), (4, .int x4), (5, .int x5)] [] (nd_SH ++ t) σ := by
  induction m9 with
  | zero =>
    intro x1 x4 x5 σ h
    have h : none = some z := h
    cases h
  | succ m9 hrec41 =>
    intro x1 x4 x5 σ h
    have h : f_X11_order_41_b F (f_X11_order_41 F m9) x1 x4 x5 σ = some z := h
    unfold f_X11_order_41_b at h
    refine nd_iload dX11_order_41 3 rfl ?_
    refine nd_iload_n dX11_order_43 1 rfl ?_
    refine nd_icmp_geN dX11_order_44 79 (by decide) h (fun h => ?_) (fun h => ?_)
    · refine nd_iload dX11_order_79 2 rfl ?_
      exact nd_iret dX11_order_81 (Nat.zero_le _) (Nat.zero_le _) (vp_nar_int _) (by cases h; exact ⟨rfl, rfl, rfl⟩)
    · refine nd_iload dX11_order_47 2 rfl ?_
      refine nd_aload_n dX11_order_49 0 rfl ?_
      refine nd_iload dX11_order_50 2 rfl ?_
      refine nd_aload_n dX11_order_52 0 rfl ?_
      refine nd_iload_n dX11_order_53 1 rfl ?_
      refine nd_iload dX11_order_54 3 rfl ?_
      obtain ⟨r1, σ2, hc3, h⟩ := nd_bind_e h
      refine nd_cvi [.int x1, .int x5] [.int x4, .ref 60, .int x4] dX11_order_56 cl_X11_458 (sh_60 t) ⟨Nat.le_of_ble_eq_true rfl, Nat.le_of_ble_eq_true rfl⟩ rfl (Nat.le_of_ble_eq_true rfl) hL (t_X11_roundOf F t hL _ _ _ hc3) ?_
      obtain ⟨r4, σ5, hc6, h⟩ := nd_bind_e h
      refine nd_cvi [.int x4, .int r1] [.int x4] dX11_order_59 cl_X11_429 (sh_60 t) ⟨Nat.le_of_ble_eq_true rfl, Nat.le_of_ble_eq_true rfl⟩ rfl (Nat.le_of_ble_eq_true rfl) hL (t_X11_common F t hL _ _ _ hc6) ?_
      refine nd_idivN dX11_order_62 h (fun h => ?_)
      refine nd_aload_n dX11_order_63 0 rfl ?_
      refine nd_iload_n dX11_order_64 1 rfl ?_
      refine nd_iload dX11_order_65 3 rfl ?_
      obtain ⟨r7, σ8, hc9, h⟩ := nd_bind_e h
      refine nd_cvi [.int x1, .int x5] [.int (x4 / r4)] dX11_order_67 cl_X11_458 (sh_60 t) ⟨Nat.le_of_ble_eq_true rfl, Nat.le_of_ble_eq_true rfl⟩ rfl (Nat.le_of_ble_eq_true rfl) hL (t_X11_roundOf F t hL _ _ _ hc9) ?_
      refine nd_imul dX11_order_70 ?_
      refine nd_istore (ls' := [(4, .int ((x4 / r4) * r7)), (0, .ref 60), (1, .int x1), (5, .int x5)]) dX11_order_71 (by decide) rfl ?_
      refine nd_iinc (v := (x5 + (1 : Int32))) (ls' := [(5, .int (x5 + (1 : Int32))), (4, .int ((x4 / r4) * r7)), (0, .ref 60), (1, .int x1)]) dX11_order_73 3 rfl (congrArg (HAdd.hAdd _) ic_1) (by decide) rfl ?_
      refine nd_goto dX11_order_76 41 (by decide) ?_
      refine nd_sub [2, 3, 1, 0] rfl ?_
      exact hrec41 _ _ _ _ h
set_option maxRecDepth 100000 in
set_option maxHeartbeats 4000000 in
theorem b_X11_order_102 (F : Nat) (t : List nd_S) (hL : (nd_SH ++ t).length < nd_ro) {z : Int32 × nd_Mem} (m9 : Nat) : ∀ (x1 : Int32) (x3 : Int32) (x4 : Int32) (x5 : Int32) (σ : nd_Mem), f_X11_order_102 F m9 x1 x3 x4 x5 σ = some z → nd_V M_X11_order (nd_rm 2) (nd_Pi (nd_SH ++ t) z) 0 0 102 [(0, .ref 60), (1, .int x1), (3, .int x3), (4, .int x4), (5, .int x5)] [] (nd_SH ++ t) σ := by
  induction m9 with
  | zero =>
    intro x1 x3 x4 x5 σ h
    have h : none = some z := h
    cases h
  | succ m9 hrec102 =>
    intro x1 x3 x4 x5 σ h
    have h : f_X11_order_102_b F (f_X11_order_102 F m9) x1 x3 x4 x5 σ = some z := h
    unfold f_X11_order_102_b at h
    refine nd_iload dX11_order_102 4 rfl ?_
    refine nd_iload_n dX11_order_104 2 rfl ?_
    refine nd_icmp_geN dX11_order_105 123 (by decide) h (fun h => ?_) (fun h => ?_)
    · refine nd_iload dX11_order_123 3 rfl ?_
      exact nd_iret dX11_order_125 (Nat.zero_le _) (Nat.zero_le _) (vp_nar_int _) (by cases h; exact ⟨rfl, rfl, rfl⟩)
    · refine nd_aload_n dX11_order_108 0 rfl ?_
      refine nd_iload_n dX11_order_109 1 rfl ?_
      refine nd_iload dX11_order_110 3 rfl ?_
      obtain ⟨r1, σ2, hc3, h⟩ := nd_bind_e h
      refine nd_cvi [.int x1, .int x4] [] dX11_order_112 cl_X11_455 (sh_60 t) ⟨Nat.le_of_ble_eq_true rfl, Nat.le_of_ble_eq_true rfl⟩ rfl (Nat.le_of_ble_eq_true rfl) hL (t_X11_goesTo F t hL _ _ _ hc3) ?_
      refine nd_istore (ls' := [(4, .int r1), (0, .ref 60), (1, .int x1), (3, .int x3), (5, .int x5)]) dX11_order_115 (by decide) rfl ?_
      refine nd_iinc (v := (x5 + (1 : Int32))) (ls' := [(5, .int (x5 + (1 : Int32))), (4, .int r1), (0, .ref 60), (1, .int x1), (3, .int x3)]) dX11_order_117 4 rfl (congrArg (HAdd.hAdd _) ic_1) (by decide) rfl ?_
      refine nd_goto dX11_order_120 102 (by decide) ?_
      refine nd_sub [2, 3, 4, 1, 0] rfl ?_
      exact hrec102 _ _ _ _ _ h
set_option maxRecDepth 100000 in
set_option maxHeartbeats 4000000 in
theorem t_X11_order (F : Nat) (t : List nd_S) (hL : (nd_SH ++ t).length < nd_ro) {z : Int32 × nd_Mem} (x1 : Int32) (x2 : Int32) (x3 : Int32) (σ : nd_Mem) (h : f_X11_order F x1 x2 x3 σ = some z) : nd_Fn M_X11_order (nd_rm 2) [.ref 60, .int x1, .int x2, .int x3] (nd_SH ++ t) σ (nd_Pi (nd_SH ++ t) z) := by
  refine nd_Fn.ofV (ls := [(0, .ref 60), (1, .int x1), (2, .int x2), (3, .int x3)]) pl_X11_order rfl (fun _ => Nat.le_of_ble_eq_true rfl) (fun _ => rfl) ?_
  unfold f_X11_order at h
  refine nd_aload_n dX11_order_0 0 rfl ?_
  refine nd_iconst dX11_order_1 ic_0 ?_
  refine nd_putiN dX11_order_2 pf_X11_132 (sh_60 t) rfl h (fun σ1 h => ?_)
  refine nd_aload_n dX11_order_5 0 rfl ?_
  refine nd_iload_n dX11_order_6 1 rfl ?_
  refine nd_iconst dX11_order_7 ic_1 ?_
  refine nd_bipush dX11_order_8 ib_52 ?_
  obtain ⟨r2, σ3, hc4, h⟩ := nd_bind_e h
  refine nd_cvi [.int x1, .int (1 : Int32), .int (52 : Int32)] [] dX11_order_10 cl_X11_147 (sh_60 t) ⟨Nat.le_of_ble_eq_true rfl, Nat.le_of_ble_eq_true rfl⟩ rfl (Nat.le_of_ble_eq_true rfl) hL (t_X11_isIn F t hL _ _ _ _ hc4) ?_
  refine nd_if_eqN dX11_order_13 28 (by decide) h (fun h => ?_) (fun h => ?_)
  · refine nd_sub [0] rfl ?_
    exact b_X11_order_28 F t hL _ h
  · refine nd_aload_n dX11_order_16 0 rfl ?_
    refine nd_iload_n dX11_order_17 2 rfl ?_
    refine nd_iconst dX11_order_18 ic_m1 ?_
    refine nd_iload_n dX11_order_19 1 rfl ?_
    refine nd_iconst dX11_order_20 ic_1 ?_
    refine nd_isub dX11_order_21 ?_
    obtain ⟨r5, σ6, hc7, h⟩ := nd_bind_e h
    refine nd_cvi [.int x2, .int (-1 : Int32), .int (x1 - (1 : Int32))] [] dX11_order_22 cl_X11_147 (sh_60 t) ⟨Nat.le_of_ble_eq_true rfl, Nat.le_of_ble_eq_true rfl⟩ rfl (Nat.le_of_ble_eq_true rfl) hL (t_X11_isIn F t hL _ _ _ _ hc7) ?_
    refine nd_if_neN dX11_order_25 30 (by decide) h (fun h => ?_) (fun h => ?_)
    · refine nd_iload_n dX11_order_30 2 rfl ?_
      refine nd_iconst dX11_order_31 ic_m1 ?_
      refine nd_icmp_neN dX11_order_32 82 (by decide) h (fun h => ?_) (fun h => ?_)
      · refine nd_aload_n dX11_order_82 0 rfl ?_
        refine nd_iload_n dX11_order_83 3 rfl ?_
        refine nd_iconst dX11_order_84 ic_0 ?_
        refine nd_sipush dX11_order_85 is_1000 ?_
        obtain ⟨r8, σ9, hc10, h⟩ := nd_bind_e h
        refine nd_cvi [.int x3, .int (0 : Int32), .int (1000 : Int32)] [] dX11_order_88 cl_X11_147 (sh_60 t) ⟨Nat.le_of_ble_eq_true rfl, Nat.le_of_ble_eq_true rfl⟩ rfl (Nat.le_of_ble_eq_true rfl) hL (t_X11_isIn F t hL _ _ _ _ hc10) ?_
        refine nd_if_neN dX11_order_91 96 (by decide) h (fun h => ?_) (fun h => ?_)
        · refine nd_iload_n dX11_order_96 2 rfl ?_
          refine nd_istore (ls' := [(4, .int x2), (0, .ref 60), (1, .int x1), (2, .int x2), (3, .int x3)]) dX11_order_97 (by decide) rfl ?_
          refine nd_iconst dX11_order_99 ic_0 ?_
          refine nd_istore (ls' := [(5, .int (0 : Int32)), (4, .int x2), (0, .ref 60), (1, .int x1), (2, .int x2), (3, .int x3)]) dX11_order_100 (by decide) rfl ?_
          refine nd_sub [2, 3, 5, 1, 0] rfl ?_
          exact b_X11_order_102 F t hL F _ _ _ _ _ h
        · refine nd_iconst dX11_order_94 ic_m1 ?_
          exact nd_iret dX11_order_95 (Nat.zero_le _) (Nat.zero_le _) (vp_nar_int _) (by cases h; exact ⟨rfl, rfl, rfl⟩)
      · refine nd_iconst dX11_order_35 ic_1 ?_
        refine nd_istore (ls' := [(4, .int (1 : Int32)), (0, .ref 60), (1, .int x1), (2, .int x2), (3, .int x3)]) dX11_order_36 (by decide) rfl ?_
        refine nd_iconst dX11_order_38 ic_0 ?_
        refine nd_istore (ls' := [(5, .int (0 : Int32)), (4, .int (1 : Int32)), (0, .ref 60), (1, .int x1), (2, .int x2), (3, .int x3)]) dX11_order_39 (by decide) rfl ?_
        refine nd_sub [2, 3, 1, 0] rfl ?_
        exact b_X11_order_41 F t hL F _ _ _ _ h
    · refine nd_sub [0] rfl ?_
      exact b_X11_order_28 F t hL _ h
def f_X11_reads_26 (F : Nat) (rec0 : nd_Mem → nd_Res) (σ : nd_Mem) : nd_Res := (nd_let (nd_up σ 60 10 ((σ 60 10) + (1 : Int32))) fun σ1 => (rec0 σ1))
def f_X11_reads_95_b (F : Nat) (rec95 : nd_Mem → nd_Res) (σ : nd_Mem) : nd_Res := (nd_bind (f_X11_raw F (σ 60 10) σ) fun r1 σ2 => (nd_bind (f_X11_isLetter F r1 σ2) fun r4 σ5 => (if r4 = 0 then (nd_bind (f_X11_wordAt F (σ5 60 11) (σ5 60 10) σ5) fun r7 σ8 => (nd_let (nd_up σ8 60 13 r7) fun σ10 => (if (σ10 60 13) = (-1 : Int32) then (some (0, σ10)) else (nd_let (nd_up σ10 60 12 (2 : Int32)) fun σ11 => (some (0, σ11)))))) else (nd_let (nd_up σ5 60 10 ((σ5 60 10) + (1 : Int32))) fun σ12 => (rec95 σ12)))))
def f_X11_reads_95 (F : Nat) : Nat → nd_Mem → nd_Res
  | 0, _ => none
  | m9 + 1, σ => f_X11_reads_95_b F (f_X11_reads_95 F m9) σ
def f_X11_reads_223 (F : Nat) (rec171 : nd_Mem → nd_Res) (s0 : Int32) (σ : nd_Mem) : nd_Res := (nd_let (nd_up σ 60 13 s0) fun σ1 => (nd_let (nd_up σ1 60 10 ((σ1 60 10) + (1 : Int32))) fun σ2 => (rec171 σ2)))
def f_X11_reads_171_b (F : Nat) (rec171 : nd_Mem → nd_Res) (σ : nd_Mem) : nd_Res := (nd_bind (f_X11_raw F (σ 60 10) σ) fun r1 σ2 => (nd_bind (f_X11_isDigit F r1 σ2) fun r4 σ5 => (if r4 = 0 then (if (5 : Int32) ≤ ((σ5 60 10) - (σ5 60 11)) then (some (0, σ5)) else (nd_let (nd_up σ5 60 12 (3 : Int32)) fun σ7 => (some (0, σ7)))) else (if (10000 : Int32) ≤ (σ5 60 13) then (f_X11_reads_223 F rec171 (σ5 60 13) σ5) else (nd_bind (f_X11_raw F (σ5 60 10) σ5) fun r8 σ9 => (f_X11_reads_223 F rec171 ((((10 : Int32) * (σ5 60 13)) + r8) - (48 : Int32)) σ9))))))
def f_X11_reads_171 (F : Nat) : Nat → nd_Mem → nd_Res
  | 0, _ => none
  | m9 + 1, σ => f_X11_reads_171_b F (f_X11_reads_171 F m9) σ
def f_X11_reads_0_b (F : Nat) (rec0 : nd_Mem → nd_Res) (σ : nd_Mem) : nd_Res := (nd_bind (f_X11_raw F (σ 60 10) σ) fun r1 σ2 => (if r1 = (32 : Int32) then (f_X11_reads_26 F rec0 σ2) else (nd_bind (f_X11_raw F (σ2 60 10) σ2) fun r4 σ5 => (if r4 = (10 : Int32) then (f_X11_reads_26 F rec0 σ5) else (nd_let (nd_up σ5 60 11 (σ5 60 10)) fun σ7 => (nd_let (nd_up σ7 60 12 (1 : Int32)) fun σ8 => (nd_bind (f_X11_raw F (σ8 60 10) σ8) fun r9 σ10 => (if r9 = (-1 : Int32) then (nd_let (nd_up σ10 60 12 (0 : Int32)) fun σ25 => (some (0, σ25))) else (nd_let (nd_up σ10 60 10 ((σ10 60 10) + (1 : Int32))) fun σ12 => (nd_let (nd_up σ12 60 13 r9) fun σ13 => (nd_bind (f_X11_isLetter F r9 σ13) fun r14 σ15 => (if r14 = 0 then (nd_bind (f_X11_isDigit F r9 σ15) fun r17 σ18 => (if r17 = 0 then (nd_bind (f_X11_isMarkSign F r9 σ18) fun r20 σ21 => (if r20 = 0 then (some (0, σ21)) else (nd_let (nd_up σ21 60 12 (4 : Int32)) fun σ23 => (some (0, σ23))))) else (nd_let (nd_up σ18 60 13 (r9 - (48 : Int32))) fun σ24 => (f_X11_reads_171 F F σ24)))) else (f_X11_reads_95 F F σ15)))))))))))))
def f_X11_reads_0 (F : Nat) : Nat → nd_Mem → nd_Res
  | 0, _ => none
  | m9 + 1, σ => f_X11_reads_0_b F (f_X11_reads_0 F m9) σ
def f_X11_reads (F : Nat) (σ : nd_Mem) : nd_Res := (f_X11_reads_0 F F σ)
set_option maxRecDepth 100000 in
set_option maxHeartbeats 4000000 in
theorem b_X11_reads_26 (F : Nat) (rec0 : nd_Mem → nd_Res) (t : List nd_S) (hL : (nd_SH ++ t).length < nd_ro) {z : Int32 × nd_Mem} (hrec0 : ∀ (σ : nd_Mem), rec0 σ = some z → nd_V M_X11_reads (nd_rm 2) (nd_Pv (nd_SH ++ t) z) 0 0 0 [(0, .ref 60)] [] (nd_SH ++ t) σ) (σ : nd_Mem) (h : f_X11_reads_26 F rec0 σ = some z) : nd_V M_X11_reads (nd_rm 2) (nd_Pv (nd_SH ++ t) z) 0 0 26 [(0, .ref 60)] [] (nd_SH ++ t) σ := by
  unfold f_X11_reads_26 at h
  refine nd_aload_n dX11_reads_26 0 rfl ?_
  refine nd_aload_n dX11_reads_27 0 rfl ?_
  refine nd_get dX11_reads_28 gf_X11_162 (sh_60 t) rfl ?_
  refine nd_iconst dX11_reads_31 ic_1 ?_
  refine nd_iadd dX11_reads_32 ?_
  refine nd_putiN dX11_reads_33 pf_X11_162 (sh_60 t) rfl h (fun σ1 h => ?_)
  refine nd_goto dX11_reads_36 0 (by decide) ?_
  exact hrec0 _ h
set_option maxRecDepth 100000 in
set_option maxHeartbeats 4000000 in
theorem b_X11_reads_95 (F : Nat) (t : List nd_S) (hL : (nd_SH ++ t).length < nd_ro) {z : Int32 × nd_Mem} (m9 : Nat) : ∀ (σ : nd_Mem), f_X11_reads_95 F m9 σ = some z → nd_V M_X11_reads (nd_rm 2) (nd_Pv (nd_SH ++ t) z) 0 0 95 [(0, .ref 60)] [] (nd_SH ++ t) σ := by
  induction m9 with
  | zero =>
    intro σ h
    have h : none = some z := h
    cases h
  | succ m9 hrec95 =>
    intro σ h
    have h : f_X11_reads_95_b F (f_X11_reads_95 F m9) σ = some z := h
    unfold f_X11_reads_95_b at h
    refine nd_aload_n dX11_reads_95 0 rfl ?_
    refine nd_aload_n dX11_reads_96 0 rfl ?_
    refine nd_aload_n dX11_reads_97 0 rfl ?_
    refine nd_get dX11_reads_98 gf_X11_162 (sh_60 t) rfl ?_
    obtain ⟨r1, σ2, hc3, h⟩ := nd_bind_e h
    refine nd_cvi [.int (σ 60 10)] [.ref 60] dX11_reads_101 cl_X11_165 (sh_60 t) ⟨Nat.le_of_ble_eq_true rfl, Nat.le_of_ble_eq_true rfl⟩ rfl (Nat.le_of_ble_eq_true rfl) hL (t_X11_raw F t hL _ _ hc3) ?_
    obtain ⟨r4, σ5, hc6, h⟩ := nd_bind_e h
    refine nd_cvi [.int r1] [] dX11_reads_104 cl_X11_178 (sh_60 t) ⟨Nat.le_of_ble_eq_true rfl, Nat.le_of_ble_eq_true rfl⟩ rfl (Nat.le_of_ble_eq_true rfl) hL (t_X11_isLetter F t hL _ _ hc6) ?_
    refine nd_if_eqN dX11_reads_107 123 (by decide) h (fun h => ?_) (fun h => ?_)
    · refine nd_aload_n dX11_reads_123 0 rfl ?_
      refine nd_aload_n dX11_reads_124 0 rfl ?_
      refine nd_aload_n dX11_reads_125 0 rfl ?_
      refine nd_get dX11_reads_126 gf_X11_169 (sh_60 t) rfl ?_
      refine nd_aload_n dX11_reads_129 0 rfl ?_
      refine nd_get dX11_reads_130 gf_X11_162 (sh_60 t) rfl ?_
      obtain ⟨r7, σ8, hc9, h⟩ := nd_bind_e h
      refine nd_cvi [.int (σ5 60 11), .int (σ5 60 10)] [.ref 60] dX11_reads_133 cl_X11_181 (sh_60 t) ⟨Nat.le_of_ble_eq_true rfl, Nat.le_of_ble_eq_true rfl⟩ rfl (Nat.le_of_ble_eq_true rfl) hL (t_X11_wordAt F t hL _ _ _ hc9) ?_
      refine nd_putiN dX11_reads_136 pf_X11_175 (sh_60 t) rfl h (fun σ10 h => ?_)
      refine nd_aload_n dX11_reads_139 0 rfl ?_
      refine nd_get dX11_reads_140 gf_X11_175 (sh_60 t) rfl ?_
      refine nd_iconst dX11_reads_143 ic_m1 ?_
      refine nd_icmp_eqN dX11_reads_144 273 (by decide) h (fun h => ?_) (fun h => ?_)
      · exact nd_vret dX11_reads_273 (Nat.zero_le _) (Nat.zero_le _) trivial (by cases h; exact ⟨rfl, rfl, rfl⟩)
      · refine nd_aload_n dX11_reads_147 0 rfl ?_
        refine nd_iconst dX11_reads_148 ic_2 ?_
        refine nd_putiN dX11_reads_149 pf_X11_172 (sh_60 t) rfl h (fun σ11 h => ?_)
        refine nd_goto dX11_reads_152 273 (by decide) ?_
        exact nd_vret dX11_reads_273 (Nat.zero_le _) (Nat.zero_le _) trivial (by cases h; exact ⟨rfl, rfl, rfl⟩)
    · refine nd_aload_n dX11_reads_110 0 rfl ?_
      refine nd_aload_n dX11_reads_111 0 rfl ?_
      refine nd_get dX11_reads_112 gf_X11_162 (sh_60 t) rfl ?_
      refine nd_iconst dX11_reads_115 ic_1 ?_
      refine nd_iadd dX11_reads_116 ?_
      refine nd_putiN dX11_reads_117 pf_X11_162 (sh_60 t) rfl h (fun σ12 h => ?_)
      refine nd_goto dX11_reads_120 95 (by decide) ?_
      exact hrec95 _ h
set_option maxRecDepth 100000 in
set_option maxHeartbeats 4000000 in
theorem b_X11_reads_223 (F : Nat) (rec171 : nd_Mem → nd_Res) (t : List nd_S) (hL : (nd_SH ++ t).length < nd_ro) {z : Int32 × nd_Mem} (hrec171 : ∀ (σ : nd_Mem), rec171 σ = some z → nd_V M_X11_reads (nd_rm 2) (nd_Pv (nd_SH ++ t) z) 0 0 171 [(0, .ref 60)] [] (nd_SH ++ t) σ) (s0 : Int32) (σ : nd_Mem) (h : f_X11_reads_223 F rec171 s0 σ = some z) : nd_V M_X11_reads (nd_rm 2) (nd_Pv (nd_SH ++ t) z) 0 0 223 [(0, .ref 60)] [.int s0, .ref 60] (nd_SH ++ t) σ := by
  unfold f_X11_reads_223 at h
  refine nd_putiN dX11_reads_223 pf_X11_175 (sh_60 t) rfl h (fun σ1 h => ?_)
  refine nd_aload_n dX11_reads_226 0 rfl ?_
  refine nd_aload_n dX11_reads_227 0 rfl ?_
  refine nd_get dX11_reads_228 gf_X11_162 (sh_60 t) rfl ?_
  refine nd_iconst dX11_reads_231 ic_1 ?_
  refine nd_iadd dX11_reads_232 ?_
  refine nd_putiN dX11_reads_233 pf_X11_162 (sh_60 t) rfl h (fun σ2 h => ?_)
  refine nd_goto dX11_reads_236 171 (by decide) ?_
  exact hrec171 _ h
set_option maxRecDepth 100000 in
set_option maxHeartbeats 4000000 in
theorem b_X11_reads_171 (F : Nat) (t : List nd_S) (hL : (nd_SH ++ t).length < nd_ro) {z : Int32 × nd_Mem} (m9 : Nat) : ∀ (σ : nd_Mem), f_X11_reads_171 F m9 σ = some z → nd_V M_X11_reads (nd_rm 2) (nd_Pv (nd_SH ++ t) z) 0 0 171 [(0, .ref 60)] [] (nd_SH ++ t) σ := by
  induction m9 with
  | zero =>
    intro σ h
    have h : none = some z := h
    cases h
  | succ m9 hrec171 =>
    intro σ h
    have h : f_X11_reads_171_b F (f_X11_reads_171 F m9) σ = some z := h
    unfold f_X11_reads_171_b at h
    refine nd_aload_n dX11_reads_171 0 rfl ?_
    refine nd_aload_n dX11_reads_172 0 rfl ?_
    refine nd_aload_n dX11_reads_173 0 rfl ?_
    refine nd_get dX11_reads_174 gf_X11_162 (sh_60 t) rfl ?_
    obtain ⟨r1, σ2, hc3, h⟩ := nd_bind_e h
    refine nd_cvi [.int (σ 60 10)] [.ref 60] dX11_reads_177 cl_X11_165 (sh_60 t) ⟨Nat.le_of_ble_eq_true rfl, Nat.le_of_ble_eq_true rfl⟩ rfl (Nat.le_of_ble_eq_true rfl) hL (t_X11_raw F t hL _ _ hc3) ?_
    obtain ⟨r4, σ5, hc6, h⟩ := nd_bind_e h
    refine nd_cvi [.int r1] [] dX11_reads_180 cl_X11_185 (sh_60 t) ⟨Nat.le_of_ble_eq_true rfl, Nat.le_of_ble_eq_true rfl⟩ rfl (Nat.le_of_ble_eq_true rfl) hL (t_X11_isDigit F t hL _ _ hc6) ?_
    refine nd_if_eqN dX11_reads_183 239 (by decide) h (fun h => ?_) (fun h => ?_)
    · refine nd_aload_n dX11_reads_239 0 rfl ?_
      refine nd_get dX11_reads_240 gf_X11_162 (sh_60 t) rfl ?_
      refine nd_aload_n dX11_reads_243 0 rfl ?_
      refine nd_get dX11_reads_244 gf_X11_169 (sh_60 t) rfl ?_
      refine nd_isub dX11_reads_247 ?_
      refine nd_iconst dX11_reads_248 ic_5 ?_
      refine nd_icmp_geN dX11_reads_249 273 (by decide) h (fun h => ?_) (fun h => ?_)
      · exact nd_vret dX11_reads_273 (Nat.zero_le _) (Nat.zero_le _) trivial (by cases h; exact ⟨rfl, rfl, rfl⟩)
      · refine nd_aload_n dX11_reads_252 0 rfl ?_
        refine nd_iconst dX11_reads_253 ic_3 ?_
        refine nd_putiN dX11_reads_254 pf_X11_172 (sh_60 t) rfl h (fun σ7 h => ?_)
        refine nd_goto dX11_reads_257 273 (by decide) ?_
        exact nd_vret dX11_reads_273 (Nat.zero_le _) (Nat.zero_le _) trivial (by cases h; exact ⟨rfl, rfl, rfl⟩)
    · refine nd_aload_n dX11_reads_186 0 rfl ?_
      refine nd_aload_n dX11_reads_187 0 rfl ?_
      refine nd_get dX11_reads_188 gf_X11_175 (sh_60 t) rfl ?_
      refine nd_sipush dX11_reads_191 is_10000 ?_
      refine nd_icmp_geN dX11_reads_194 219 (by decide) h (fun h => ?_) (fun h => ?_)
      · refine nd_aload_n dX11_reads_219 0 rfl ?_
        refine nd_get dX11_reads_220 gf_X11_175 (sh_60 t) rfl ?_
        exact b_X11_reads_223 F _ t hL hrec171 _ _ h
      · refine nd_bipush dX11_reads_197 ib_10 ?_
        refine nd_aload_n dX11_reads_199 0 rfl ?_
        refine nd_get dX11_reads_200 gf_X11_175 (sh_60 t) rfl ?_
        refine nd_imul dX11_reads_203 ?_
        refine nd_aload_n dX11_reads_204 0 rfl ?_
        refine nd_aload_n dX11_reads_205 0 rfl ?_
        refine nd_get dX11_reads_206 gf_X11_162 (sh_60 t) rfl ?_
        obtain ⟨r8, σ9, hc10, h⟩ := nd_bind_e h
        refine nd_cvi [.int (σ5 60 10)] [.int ((10 : Int32) * (σ5 60 13)), .ref 60] dX11_reads_209 cl_X11_165 (sh_60 t) ⟨Nat.le_of_ble_eq_true rfl, Nat.le_of_ble_eq_true rfl⟩ rfl (Nat.le_of_ble_eq_true rfl) hL (t_X11_raw F t hL _ _ hc10) ?_
        refine nd_iadd dX11_reads_212 ?_
        refine nd_bipush dX11_reads_213 ib_48 ?_
        refine nd_isub dX11_reads_215 ?_
        refine nd_goto dX11_reads_216 223 (by decide) ?_
        exact b_X11_reads_223 F _ t hL hrec171 _ _ h
set_option maxRecDepth 100000 in
set_option maxHeartbeats 4000000 in
theorem b_X11_reads_0 (F : Nat) (t : List nd_S) (hL : (nd_SH ++ t).length < nd_ro) {z : Int32 × nd_Mem} (m9 : Nat) : ∀ (σ : nd_Mem), f_X11_reads_0 F m9 σ = some z → nd_V M_X11_reads (nd_rm 2) (nd_Pv (nd_SH ++ t) z) 0 0 0 [(0, .ref 60)] [] (nd_SH ++ t) σ := by
  induction m9 with
  | zero =>
    intro σ h
    have h : none = some z := h
    cases h
  | succ m9 hrec0 =>
    intro σ h
    have h : f_X11_reads_0_b F (f_X11_reads_0 F m9) σ = some z := h
    unfold f_X11_reads_0_b at h
    refine nd_aload_n dX11_reads_0 0 rfl ?_
    refine nd_aload_n dX11_reads_1 0 rfl ?_
    refine nd_get dX11_reads_2 gf_X11_162 (sh_60 t) rfl ?_
    obtain ⟨r1, σ2, hc3, h⟩ := nd_bind_e h
    refine nd_cvi [.int (σ 60 10)] [] dX11_reads_5 cl_X11_165 (sh_60 t) ⟨Nat.le_of_ble_eq_true rfl, Nat.le_of_ble_eq_true rfl⟩ rfl (Nat.le_of_ble_eq_true rfl) hL (t_X11_raw F t hL _ _ hc3) ?_
    refine nd_bipush dX11_reads_8 ib_32 ?_
    refine nd_icmp_eqN dX11_reads_10 26 (by decide) h (fun h => ?_) (fun h => ?_)
    · exact b_X11_reads_26 F _ t hL hrec0 _ h
    · refine nd_aload_n dX11_reads_13 0 rfl ?_
      refine nd_aload_n dX11_reads_14 0 rfl ?_
      refine nd_get dX11_reads_15 gf_X11_162 (sh_60 t) rfl ?_
      obtain ⟨r4, σ5, hc6, h⟩ := nd_bind_e h
      refine nd_cvi [.int (σ2 60 10)] [] dX11_reads_18 cl_X11_165 (sh_60 t) ⟨Nat.le_of_ble_eq_true rfl, Nat.le_of_ble_eq_true rfl⟩ rfl (Nat.le_of_ble_eq_true rfl) hL (t_X11_raw F t hL _ _ hc6) ?_
      refine nd_bipush dX11_reads_21 ib_10 ?_
      refine nd_icmp_neN dX11_reads_23 39 (by decide) h (fun h => ?_) (fun h => ?_)
      · refine nd_aload_n dX11_reads_39 0 rfl ?_
        refine nd_aload_n dX11_reads_40 0 rfl ?_
        refine nd_get dX11_reads_41 gf_X11_162 (sh_60 t) rfl ?_
        refine nd_putiN dX11_reads_44 pf_X11_169 (sh_60 t) rfl h (fun σ7 h => ?_)
        refine nd_aload_n dX11_reads_47 0 rfl ?_
        refine nd_iconst dX11_reads_48 ic_1 ?_
        refine nd_putiN dX11_reads_49 pf_X11_172 (sh_60 t) rfl h (fun σ8 h => ?_)
        refine nd_aload_n dX11_reads_52 0 rfl ?_
        refine nd_aload_n dX11_reads_53 0 rfl ?_
        refine nd_get dX11_reads_54 gf_X11_162 (sh_60 t) rfl ?_
        obtain ⟨r9, σ10, hc11, h⟩ := nd_bind_e h
        refine nd_cvi [.int (σ8 60 10)] [] dX11_reads_57 cl_X11_165 (sh_60 t) ⟨Nat.le_of_ble_eq_true rfl, Nat.le_of_ble_eq_true rfl⟩ rfl (Nat.le_of_ble_eq_true rfl) hL (t_X11_raw F t hL _ _ hc11) ?_
        refine nd_istore_n (ls' := [(1, .int r9), (0, .ref 60)]) dX11_reads_60 (by decide) rfl ?_
        refine nd_iload_n dX11_reads_61 0 rfl ?_
        refine nd_iconst dX11_reads_62 ic_m1 ?_
        refine nd_icmp_neN dX11_reads_63 72 (by decide) h (fun h => ?_) (fun h => ?_)
        · refine nd_aload_n dX11_reads_72 1 rfl ?_
          refine nd_aload_n dX11_reads_73 1 rfl ?_
          refine nd_get dX11_reads_74 gf_X11_162 (sh_60 t) rfl ?_
          refine nd_iconst dX11_reads_77 ic_1 ?_
          refine nd_iadd dX11_reads_78 ?_
          refine nd_putiN dX11_reads_79 pf_X11_162 (sh_60 t) rfl h (fun σ12 h => ?_)
          refine nd_aload_n dX11_reads_82 1 rfl ?_
          refine nd_iload_n dX11_reads_83 0 rfl ?_
          refine nd_putiN dX11_reads_84 pf_X11_175 (sh_60 t) rfl h (fun σ13 h => ?_)
          refine nd_aload_n dX11_reads_87 1 rfl ?_
          refine nd_iload_n dX11_reads_88 0 rfl ?_
          obtain ⟨r14, σ15, hc16, h⟩ := nd_bind_e h
          refine nd_cvi [.int r9] [] dX11_reads_89 cl_X11_178 (sh_60 t) ⟨Nat.le_of_ble_eq_true rfl, Nat.le_of_ble_eq_true rfl⟩ rfl (Nat.le_of_ble_eq_true rfl) hL (t_X11_isLetter F t hL _ _ hc16) ?_
          refine nd_if_eqN dX11_reads_92 155 (by decide) h (fun h => ?_) (fun h => ?_)
          · refine nd_aload_n dX11_reads_155 1 rfl ?_
            refine nd_iload_n dX11_reads_156 0 rfl ?_
            obtain ⟨r17, σ18, hc19, h⟩ := nd_bind_e h
            refine nd_cvi [.int r9] [] dX11_reads_157 cl_X11_185 (sh_60 t) ⟨Nat.le_of_ble_eq_true rfl, Nat.le_of_ble_eq_true rfl⟩ rfl (Nat.le_of_ble_eq_true rfl) hL (t_X11_isDigit F t hL _ _ hc19) ?_
            refine nd_if_eqN dX11_reads_160 260 (by decide) h (fun h => ?_) (fun h => ?_)
            · refine nd_aload_n dX11_reads_260 1 rfl ?_
              refine nd_iload_n dX11_reads_261 0 rfl ?_
              obtain ⟨r20, σ21, hc22, h⟩ := nd_bind_e h
              refine nd_cvi [.int r9] [] dX11_reads_262 cl_X11_188 (sh_60 t) ⟨Nat.le_of_ble_eq_true rfl, Nat.le_of_ble_eq_true rfl⟩ rfl (Nat.le_of_ble_eq_true rfl) hL (t_X11_isMarkSign F t hL _ _ hc22) ?_
              refine nd_if_eqN dX11_reads_265 273 (by decide) h (fun h => ?_) (fun h => ?_)
              · exact nd_vret dX11_reads_273 (Nat.zero_le _) (Nat.zero_le _) trivial (by cases h; exact ⟨rfl, rfl, rfl⟩)
              · refine nd_aload_n dX11_reads_268 1 rfl ?_
                refine nd_iconst dX11_reads_269 ic_4 ?_
                refine nd_putiN dX11_reads_270 pf_X11_172 (sh_60 t) rfl h (fun σ23 h => ?_)
                exact nd_vret dX11_reads_273 (Nat.zero_le _) (Nat.zero_le _) trivial (by cases h; exact ⟨rfl, rfl, rfl⟩)
            · refine nd_aload_n dX11_reads_163 1 rfl ?_
              refine nd_iload_n dX11_reads_164 0 rfl ?_
              refine nd_bipush dX11_reads_165 ib_48 ?_
              refine nd_isub dX11_reads_167 ?_
              refine nd_putiN dX11_reads_168 pf_X11_175 (sh_60 t) rfl h (fun σ24 h => ?_)
              refine nd_sub [1] rfl ?_
              exact b_X11_reads_171 F t hL F _ h
          · refine nd_sub [1] rfl ?_
            exact b_X11_reads_95 F t hL F _ h
        · refine nd_aload_n dX11_reads_66 1 rfl ?_
          refine nd_iconst dX11_reads_67 ic_0 ?_
          refine nd_putiN dX11_reads_68 pf_X11_172 (sh_60 t) rfl h (fun σ25 h => ?_)
          exact nd_vret dX11_reads_71 (Nat.zero_le _) (Nat.zero_le _) trivial (by cases h; exact ⟨rfl, rfl, rfl⟩)
      · exact b_X11_reads_26 F _ t hL hrec0 _ h
set_option maxRecDepth 100000 in
set_option maxHeartbeats 4000000 in
theorem t_X11_reads (F : Nat) (t : List nd_S) (hL : (nd_SH ++ t).length < nd_ro) {z : Int32 × nd_Mem} (σ : nd_Mem) (h : f_X11_reads F σ = some z) : nd_Fn M_X11_reads (nd_rm 2) [.ref 60] (nd_SH ++ t) σ (nd_Pv (nd_SH ++ t) z) := by
  refine nd_Fn.ofV (ls := [(0, .ref 60)]) pl_X11_reads rfl (fun _ => Nat.le_of_ble_eq_true rfl) (fun _ => rfl) ?_
  unfold f_X11_reads at h
  exact b_X11_reads_0 F t hL F _ h
def f_X11_siding_26 (F : Nat) (σ : nd_Mem) : nd_Res := (some ((-1 : Int32), σ))
def f_X11_siding_87_b (F : Nat) (rec61 : Int32 → Int32 → nd_Mem → nd_Res) (rec87 : Int32 → Int32 → Int32 → nd_Mem → nd_Res) (x3 : Int32) (x4 : Int32) (x5 : Int32) (σ : nd_Mem) : nd_Res := (if x4 ≤ x5 then (rec61 x3 (x4 + (1 : Int32)) σ) else (if x4 < 0 ∨ 10 ≤ (x4).toNatClampNeg then none else (if x5 < 0 ∨ 10 ≤ (x5).toNatClampNeg then none else (if ((x4 - (1 : Int32)) - x5) < 0 ∨ 10 ≤ (((x4 - (1 : Int32)) - x5)).toNatClampNeg then none else (if x4 < 0 ∨ 10 ≤ (x4).toNatClampNeg then none else (nd_let (nd_up σ 84 (x4).toNatClampNeg ((σ 84 (x4).toNatClampNeg) + ((σ 84 (x5).toNatClampNeg) * (σ 84 (((x4 - (1 : Int32)) - x5)).toNatClampNeg)))) fun σ1 => (rec87 x3 x4 (x5 + (1 : Int32)) σ1)))))))
def f_X11_siding_87 (F : Nat) (rec61 : Int32 → Int32 → nd_Mem → nd_Res) : Nat → Int32 → Int32 → Int32 → nd_Mem → nd_Res
  | 0, _, _, _, _ => none
  | m9 + 1, x3, x4, x5, σ => f_X11_siding_87_b F rec61 (f_X11_siding_87 F rec61 m9) x3 x4 x5 σ
def f_X11_siding_83 (F : Nat) (rec61 : Int32 → Int32 → nd_Mem → nd_Res) (x3 : Int32) (x4 : Int32) (s0 : Int32) (s1 : Int32) (σ : nd_Mem) : nd_Res := (if s1 < 0 ∨ 10 ≤ (s1).toNatClampNeg then none else (nd_let (nd_up σ 84 (s1).toNatClampNeg s0) fun σ1 => (f_X11_siding_87 F rec61 F x3 x4 (0 : Int32) σ1)))
def f_X11_siding_61_b (F : Nat) (rec61 : Int32 → Int32 → nd_Mem → nd_Res) (x3 : Int32) (x4 : Int32) (σ : nd_Mem) : nd_Res := (if x3 < x4 then (if x3 < 0 ∨ 10 ≤ (x3).toNatClampNeg then none else (some ((σ 84 (x3).toNatClampNeg), σ))) else (if x4 = 0 then (f_X11_siding_83 F rec61 x3 x4 (1 : Int32) x4 σ) else (f_X11_siding_83 F rec61 x3 x4 (0 : Int32) x4 σ)))
def f_X11_siding_61 (F : Nat) : Nat → Int32 → Int32 → nd_Mem → nd_Res
  | 0, _, _, _ => none
  | m9 + 1, x3, x4, σ => f_X11_siding_61_b F (f_X11_siding_61 F m9) x3 x4 σ
def f_X11_siding (F : Nat) (x1 : Int32) (x2 : Int32) (σ : nd_Mem) : nd_Res := (nd_let (nd_up σ 60 0 (0 : Int32)) fun σ1 => (nd_bind (f_X11_takesWagons F x1 σ1) fun r2 σ3 => (if r2 = (-1 : Int32) then (f_X11_siding_26 F σ3) else (nd_bind (f_X11_isIn F x2 (0 : Int32) (2 : Int32) σ3) fun r5 σ6 => (if r5 = 0 then (f_X11_siding_26 F σ6) else (if x2 = 0 then (nd_bind (f_X11_deepest F r2 σ6) fun r11 σ12 => (if r11 = (-1 : Int32) then (some ((0 : Int32), σ12)) else (some ((1 : Int32), σ12)))) else (if x2 = (1 : Int32) then (nd_bind (f_X11_deepest F r2 σ6) fun r8 σ9 => (some (r8, σ9))) else (f_X11_siding_61 F F r2 (0 : Int32) σ6))))))))
set_option maxRecDepth 100000 in
set_option maxHeartbeats 4000000 in
theorem b_X11_siding_26 (F : Nat) (t : List nd_S) (hL : (nd_SH ++ t).length < nd_ro) {z : Int32 × nd_Mem} (σ : nd_Mem) (h : f_X11_siding_26 F σ = some z) : nd_V M_X11_siding (nd_rm 2) (nd_Pi (nd_SH ++ t) z) 0 0 26 [(0, .ref 60)] [] (nd_SH ++ t) σ := by
  unfold f_X11_siding_26 at h
  refine nd_iconst dX11_siding_26 ic_m1 ?_
  exact nd_iret dX11_siding_27 (Nat.zero_le _) (Nat.zero_le _) (vp_nar_int _) (by cases h; exact ⟨rfl, rfl, rfl⟩)
set_option maxRecDepth 100000 in
set_option maxHeartbeats 4000000 in
theorem b_X11_siding_87 (F : Nat) (rec61 : Int32 → Int32 → nd_Mem → nd_Res) (t : List nd_S) (hL : (nd_SH ++ t).length < nd_ro) {z : Int32 × nd_Mem} (hrec61 : ∀ (x3 : Int32) (x4 : Int32) (σ : nd_Mem), rec61 x3 x4 σ = some z → nd_V M_X11_siding (nd_rm 2) (nd_Pi (nd_SH ++ t) z) 0 0 61 [(0, .ref 60), (3, .int x3), (4, .int x4)] [] (nd_SH ++ t) σ) (m9 : Nat) : ∀ (x3 : Int32) (x4 : Int32) (x5 : Int32) (σ : nd_Mem), f_X11_siding_87 F rec61 m9 x3 x4 x5 σ = some z → nd_V M_X11_siding (nd_rm 2) (nd_Pi (nd_SH ++ t) z) 0 0 87 [(0, .ref 60), (3, .int x3), (4, .int x4), (5, .int x5)] [] (nd_SH ++ t) σ := by
  induction m9 with
  | zero =>
    intro x3 x4 x5 σ h
    have h : none = some z := h
    cases h
  | succ m9 hrec87 =>
    intro x3 x4 x5 σ h
    have h : f_X11_siding_87_b F rec61 (f_X11_siding_87 F rec61 m9) x3 x4 x5 σ = some z := h
    unfold f_X11_siding_87_b at h
    refine nd_iload dX11_siding_87 3 rfl ?_
    refine nd_iload dX11_siding_89 2 rfl ?_
    refine nd_icmp_geN dX11_siding_91 135 (by decide) h (fun h => ?_) (fun h => ?_)
    · refine nd_iinc (v := (x4 + (1 : Int32))) (ls' := [(4, .int (x4 + (1 : Int32))), (0, .ref 60), (3, .int x3), (5, .int x5)]) dX11_siding_135 2 rfl (congrArg (HAdd.hAdd _) ic_1) (by decide) rfl ?_
      refine nd_goto dX11_siding_138 61 (by decide) ?_
      refine nd_sub [1, 2, 0] rfl ?_
      exact hrec61 _ _ _ h
    · refine nd_aload_n dX11_siding_94 0 rfl ?_
      refine nd_get dX11_siding_95 gf_X11_83 (sh_60 t) rfl ?_
      refine nd_iload dX11_siding_98 2 rfl ?_
      refine nd_aload_n dX11_siding_100 0 rfl ?_
      refine nd_get dX11_siding_101 gf_X11_83 (sh_60 t) rfl ?_
      refine nd_iload dX11_siding_104 2 rfl ?_
      refine nd_ialoadN dX11_siding_106 (sh_84 t) h (fun h => ?_)
      refine nd_aload_n dX11_siding_107 0 rfl ?_
      refine nd_get dX11_siding_108 gf_X11_83 (sh_60 t) rfl ?_
      refine nd_iload dX11_siding_111 3 rfl ?_
      refine nd_ialoadN dX11_siding_113 (sh_84 t) h (fun h => ?_)
      refine nd_aload_n dX11_siding_114 0 rfl ?_
      refine nd_get dX11_siding_115 gf_X11_83 (sh_60 t) rfl ?_
      refine nd_iload dX11_siding_118 2 rfl ?_
      refine nd_iconst dX11_siding_120 ic_1 ?_
      refine nd_isub dX11_siding_121 ?_
      refine nd_iload dX11_siding_122 3 rfl ?_
      refine nd_isub dX11_siding_124 ?_
      refine nd_ialoadN dX11_siding_125 (sh_84 t) h (fun h => ?_)
      refine nd_imul dX11_siding_126 ?_
      refine nd_iadd dX11_siding_127 ?_
      refine nd_iastoreN dX11_siding_128 (sh_84 t) h (fun σ1 h => ?_)
      refine nd_iinc (v := (x5 + (1 : Int32))) (ls' := [(5, .int (x5 + (1 : Int32))), (0, .ref 60), (3, .int x3), (4, .int x4)]) dX11_siding_129 3 rfl (congrArg (HAdd.hAdd _) ic_1) (by decide) rfl ?_
      refine nd_goto dX11_siding_132 87 (by decide) ?_
      refine nd_sub [1, 2, 3, 0] rfl ?_
      exact hrec87 _ _ _ _ h
set_option maxRecDepth 100000 in
set_option maxHeartbeats 4000000 in
theorem b_X11_siding_83 (F : Nat) (rec61 : Int32 → Int32 → nd_Mem → nd_Res) (t : List nd_S) (hL : (nd_SH ++ t).length < nd_ro) {z : Int32 × nd_Mem} (hrec61 : ∀ (x3 : Int32) (x4 : Int32) (σ : nd_Mem), rec61 x3 x4 σ = some z → nd_V M_X11_siding (nd_rm 2) (nd_Pi (nd_SH ++ t) z) 0 0 61 [(0, .ref 60), (3, .int x3), (4, .int x4)] [] (nd_SH ++ t) σ) (x3 : Int32) (x4 : Int32) (s0 : Int32) (s1 : Int32) (σ : nd_Mem) (h : f_X11_siding_83 F rec61 x3 x4 s0 s1 σ = some z) : nd_V M_X11_siding (nd_rm 2) (nd_Pi (nd_SH ++ t) z) 0 0 83 [(0, .ref 60), (3, .int x3), (4, .int x4)] [.int s0, .int s1, .ref 84] (nd_SH ++ t) σ := by
  unfold f_X11_siding_83 at h
  refine nd_iastoreN dX11_siding_83 (sh_84 t) h (fun σ1 h => ?_)
  refine nd_iconst dX11_siding_84 ic_0 ?_
  refine nd_istore (ls' := [(5, .int (0 : Int32)), (0, .ref 60), (3, .int x3), (4, .int x4)]) dX11_siding_85 (by decide) rfl ?_
  refine nd_sub [1, 2, 3, 0] rfl ?_
  exact b_X11_siding_87 F _ t hL hrec61 F _ _ _ _ h
set_option maxRecDepth 100000 in
set_option maxHeartbeats 4000000 in
theorem b_X11_siding_61 (F : Nat) (t : List nd_S) (hL : (nd_SH ++ t).length < nd_ro) {z : Int32 × nd_Mem} (m9 : Nat) : ∀ (x3 : Int32) (x4 : Int32) (σ : nd_Mem), f_X11_siding_61 F m9 x3 x4 σ = some z → nd_V M_X11_siding (nd_rm 2) (nd_Pi (nd_SH ++ t) z) 0 0 61 [(0, .ref 60), (3, .int x3), (4, .int x4)] [] (nd_SH ++ t) σ := by
  induction m9 with
  | zero =>
    intro x3 x4 σ h
    have h : none = some z := h
    cases h
  | succ m9 hrec61 =>
    intro x3 x4 σ h
    have h : f_X11_siding_61_b F (f_X11_siding_61 F m9) x3 x4 σ = some z := h
    unfold f_X11_siding_61_b at h
    refine nd_iload dX11_siding_61 2 rfl ?_
    refine nd_iload_n dX11_siding_63 1 rfl ?_
    refine nd_icmp_gtN dX11_siding_64 141 (by decide) h (fun h => ?_) (fun h => ?_)
    · refine nd_aload_n dX11_siding_141 0 rfl ?_
      refine nd_get dX11_siding_142 gf_X11_83 (sh_60 t) rfl ?_
      refine nd_iload_n dX11_siding_145 1 rfl ?_
      refine nd_ialoadN dX11_siding_146 (sh_84 t) h (fun h => ?_)
      exact nd_iret dX11_siding_147 (Nat.zero_le _) (Nat.zero_le _) (vp_nar_int _) (by cases h; exact ⟨rfl, rfl, rfl⟩)
    · refine nd_aload_n dX11_siding_67 0 rfl ?_
      refine nd_get dX11_siding_68 gf_X11_83 (sh_60 t) rfl ?_
      refine nd_iload dX11_siding_71 2 rfl ?_
      refine nd_iload dX11_siding_73 2 rfl ?_
      refine nd_if_neN dX11_siding_75 82 (by decide) h (fun h => ?_) (fun h => ?_)
      · refine nd_iconst dX11_siding_82 ic_0 ?_
        exact b_X11_siding_83 F _ t hL hrec61 _ _ _ _ _ h
      · refine nd_iconst dX11_siding_78 ic_1 ?_
        refine nd_goto dX11_siding_79 83 (by decide) ?_
        exact b_X11_siding_83 F _ t hL hrec61 _ _ _ _ _ h
set_option maxRecDepth 100000 in
set_option maxHeartbeats 4000000 in
theorem t_X11_siding (F : Nat) (t : List nd_S) (hL : (nd_SH ++ t).length < nd_ro) {z : Int32 × nd_Mem} (x1 : Int32) (x2 : Int32) (σ : nd_Mem) (h : f_X11_siding F x1 x2 σ = some z) : nd_Fn M_X11_siding (nd_rm 2) [.ref 60, .int x1, .int x2] (nd_SH ++ t) σ (nd_Pi (nd_SH ++ t) z) := by
  refine nd_Fn.ofV (ls := [(0, .ref 60), (1, .int x1), (2, .int x2)]) pl_X11_siding rfl (fun _ => Nat.le_of_ble_eq_true rfl) (fun _ => rfl) ?_
  unfold f_X11_siding at h
  refine nd_aload_n dX11_siding_0 0 rfl ?_
  refine nd_iconst dX11_siding_1 ic_0 ?_
  refine nd_putiN dX11_siding_2 pf_X11_132 (sh_60 t) rfl h (fun σ1 h => ?_)
  refine nd_aload_n dX11_siding_5 0 rfl ?_
  refine nd_iload_n dX11_siding_6 1 rfl ?_
  obtain ⟨r2, σ3, hc4, h⟩ := nd_bind_e h
  refine nd_cvi [.int x1] [] dX11_siding_7 cl_X11_401 (sh_60 t) ⟨Nat.le_of_ble_eq_true rfl, Nat.le_of_ble_eq_true rfl⟩ rfl (Nat.le_of_ble_eq_true rfl) hL (t_X11_takesWagons F t hL _ _ hc4) ?_
  refine nd_istore_n (ls' := [(3, .int r2), (0, .ref 60), (1, .int x1), (2, .int x2)]) dX11_siding_10 (by decide) rfl ?_
  refine nd_iload_n dX11_siding_11 0 rfl ?_
  refine nd_iconst dX11_siding_12 ic_m1 ?_
  refine nd_icmp_eqN dX11_siding_13 26 (by decide) h (fun h => ?_) (fun h => ?_)
  · refine nd_sub [1] rfl ?_
    exact b_X11_siding_26 F t hL _ h
  · refine nd_aload_n dX11_siding_16 1 rfl ?_
    refine nd_iload_n dX11_siding_17 3 rfl ?_
    refine nd_iconst dX11_siding_18 ic_0 ?_
    refine nd_iconst dX11_siding_19 ic_2 ?_
    obtain ⟨r5, σ6, hc7, h⟩ := nd_bind_e h
    refine nd_cvi [.int x2, .int (0 : Int32), .int (2 : Int32)] [] dX11_siding_20 cl_X11_147 (sh_60 t) ⟨Nat.le_of_ble_eq_true rfl, Nat.le_of_ble_eq_true rfl⟩ rfl (Nat.le_of_ble_eq_true rfl) hL (t_X11_isIn F t hL _ _ _ _ hc7) ?_
    refine nd_if_neN dX11_siding_23 28 (by decide) h (fun h => ?_) (fun h => ?_)
    · refine nd_iload_n dX11_siding_28 3 rfl ?_
      refine nd_if_neN dX11_siding_29 47 (by decide) h (fun h => ?_) (fun h => ?_)
      · refine nd_iload_n dX11_siding_47 3 rfl ?_
        refine nd_iconst dX11_siding_48 ic_1 ?_
        refine nd_icmp_neN dX11_siding_49 58 (by decide) h (fun h => ?_) (fun h => ?_)
        · refine nd_iconst dX11_siding_58 ic_0 ?_
          refine nd_istore (ls' := [(4, .int (0 : Int32)), (3, .int r2), (0, .ref 60), (1, .int x1), (2, .int x2)]) dX11_siding_59 (by decide) rfl ?_
          refine nd_sub [2, 1, 0] rfl ?_
          exact b_X11_siding_61 F t hL F _ _ _ h
        · refine nd_aload_n dX11_siding_52 1 rfl ?_
          refine nd_iload_n dX11_siding_53 0 rfl ?_
          obtain ⟨r8, σ9, hc10, h⟩ := nd_bind_e h
          refine nd_cvi [.int r2] [] dX11_siding_54 cl_X11_404 (sh_60 t) ⟨Nat.le_of_ble_eq_true rfl, Nat.le_of_ble_eq_true rfl⟩ rfl (Nat.le_of_ble_eq_true rfl) hL (t_X11_deepest F t hL _ _ hc10) ?_
          exact nd_iret dX11_siding_57 (Nat.zero_le _) (Nat.zero_le _) (vp_nar_int _) (by cases h; exact ⟨rfl, rfl, rfl⟩)
      · refine nd_aload_n dX11_siding_32 1 rfl ?_
        refine nd_iload_n dX11_siding_33 0 rfl ?_
        obtain ⟨r11, σ12, hc13, h⟩ := nd_bind_e h
        refine nd_cvi [.int r2] [] dX11_siding_34 cl_X11_404 (sh_60 t) ⟨Nat.le_of_ble_eq_true rfl, Nat.le_of_ble_eq_true rfl⟩ rfl (Nat.le_of_ble_eq_true rfl) hL (t_X11_deepest F t hL _ _ hc13) ?_
        refine nd_iconst dX11_siding_37 ic_m1 ?_
        refine nd_icmp_neN dX11_siding_38 45 (by decide) h (fun h => ?_) (fun h => ?_)
        · refine nd_iconst dX11_siding_45 ic_1 ?_
          exact nd_iret dX11_siding_46 (Nat.zero_le _) (Nat.zero_le _) (vp_nar_int _) (by cases h; exact ⟨rfl, rfl, rfl⟩)
        · refine nd_iconst dX11_siding_41 ic_0 ?_
          refine nd_goto dX11_siding_42 46 (by decide) ?_
          exact nd_iret dX11_siding_46 (Nat.zero_le _) (Nat.zero_le _) (vp_nar_int _) (by cases h; exact ⟨rfl, rfl, rfl⟩)
    · refine nd_sub [1] rfl ?_
      exact b_X11_siding_26 F t hL _ h
def f_X11_windows_75 (F : Nat) (rec34 : Int32 → Int32 → Int32 → Int32 → nd_Mem → nd_Res) (rec49 : Int32 → Int32 → Int32 → Int32 → Int32 → Int32 → nd_Mem → nd_Res) (x1 : Int32) (x2 : Int32) (x3 : Int32) (x4 : Int32) (x5 : Int32) (x6 : Int32) (σ : nd_Mem) : nd_Res := (rec49 x1 x2 x3 x4 x5 (x6 + (1 : Int32)) σ)
def f_X11_windows_49_b (F : Nat) (rec34 : Int32 → Int32 → Int32 → Int32 → nd_Mem → nd_Res) (rec49 : Int32 → Int32 → Int32 → Int32 → Int32 → Int32 → nd_Mem → nd_Res) (x1 : Int32) (x2 : Int32) (x3 : Int32) (x4 : Int32) (x5 : Int32) (x6 : Int32) (σ : nd_Mem) : nd_Res := (if (σ 60 61) ≤ x6 then (nd_bind (f_X11_greater F x3 x5 σ) fun r1 σ2 => (rec34 x1 (x2 + x5) r1 (x4 + (1 : Int32)) σ2)) else (nd_bind (f_X11_doSee F x4 x6 σ) fun r4 σ5 => (if r4 = 0 then (f_X11_windows_75 F rec34 rec49 x1 x2 x3 x4 x5 x6 σ5) else (f_X11_windows_75 F rec34 rec49 x1 x2 x3 x4 (x5 + (1 : Int32)) x6 σ5))))
def f_X11_windows_49 (F : Nat) (rec34 : Int32 → Int32 → Int32 → Int32 → nd_Mem → nd_Res) : Nat → Int32 → Int32 → Int32 → Int32 → Int32 → Int32 → nd_Mem → nd_Res
  | 0, _, _, _, _, _, _, _ => none
  | m9 + 1, x1, x2, x3, x4, x5, x6, σ => f_X11_windows_49_b F rec34 (f_X11_windows_49 F rec34 m9) x1 x2 x3 x4 x5 x6 σ
def f_X11_windows_34_b (F : Nat) (rec34 : Int32 → Int32 → Int32 → Int32 → nd_Mem → nd_Res) (x1 : Int32) (x2 : Int32) (x3 : Int32) (x4 : Int32) (σ : nd_Mem) : nd_Res := (if (σ 60 61) ≤ x4 then (if x1 = 0 then (some ((x2 / (2 : Int32)), σ)) else (some (x3, σ))) else (f_X11_windows_49 F rec34 F x1 x2 x3 x4 (0 : Int32) (0 : Int32) σ))
def f_X11_windows_34 (F : Nat) : Nat → Int32 → Int32 → Int32 → Int32 → nd_Mem → nd_Res
  | 0, _, _, _, _, _ => none
  | m9 + 1, x1, x2, x3, x4, σ => f_X11_windows_34_b F (f_X11_windows_34 F m9) x1 x2 x3 x4 σ
def f_X11_windows (F : Nat) (x1 : Int32) (σ : nd_Mem) : nd_Res := (nd_let (nd_up σ 60 0 (0 : Int32)) fun σ1 => (nd_bind (f_X11_isIn F x1 (0 : Int32) (2 : Int32) σ1) fun r2 σ3 => (if r2 = 0 then (some ((-1 : Int32), σ3)) else (if x1 = (2 : Int32) then (nd_bind (f_X11_rising F σ3) fun r5 σ6 => (some (r5, σ6))) else (f_X11_windows_34 F F x1 (0 : Int32) (0 : Int32) (0 : Int32) σ3)))))
set_option maxRecDepth 100000 in
set_option maxHeartbeats 4000000 in
theorem b_X11_windows_75 (F : Nat) (rec34 : Int32 → Int32 → Int32 → Int32 → nd_Mem → nd_Res) (rec49 : Int32 → Int32 → Int32 → Int32 → Int32 → Int32 → nd_Mem → nd_Res) (t : List nd_S) (hL : (nd_SH ++ t).length < nd_ro) {z : Int32 × nd_Mem} (hrec34 : ∀ (x1 : Int32) (x2 : Int32) (x3 : Int32) (x4 : Int32) (σ : nd_Mem), rec34 x1 x2 x3 x4 σ = some z → nd_V M_X11_windows (nd_rm 2) (nd_Pi (nd_SH ++ t) z) 0 0 34 [(0, .ref 60), (1, .int x1), (2, .int x2), (3, .int x3), (4, .int x4)] [] (nd_SH ++ t) σ) (hrec49 : ∀ (x1 : Int32) (x2 : Int32) (x3 : Int32) (x4 : Int32) (x5 : Int32) (x6 : Int32) (σ : nd_Mem), rec49 x1 x2 x3 x4 x5 x6 σ = some z → nd_V M_X11_windows (nd_rm 2) (nd_Pi (nd_SH ++ t) z) 0 0 49 [(0, .ref 60), (1, .int x1), (2, .int x2), (3, .int x3), (4, .int x4), (5, .int x5), (6, .int x6)] [] (nd_SH ++ t) σ) (x1 : Int32) (x2 : Int32) (x3 : Int32) (x4 : Int32) (x5 : Int32) (x6 : Int32) (σ : nd_Mem) (h : f_X11_windows_75 F rec34 rec49 x1 x2 x3 x4 x5 x6 σ = some z) : nd_V M_X11_windows (nd_rm 2) (nd_Pi (nd_SH ++ t) z) 0 0 75 [(0, .ref 60), (1, .int x1), (2, .int x2), (3, .int x3), (4, .int x4), (5, .int x5), (6, .int x6)] [] (nd_SH ++ t) σ := by
  unfold f_X11_windows_75 at h
  refine nd_iinc (v := (x6 + (1 : Int32))) (ls' := [(6, .int (x6 + (1 : Int32))), (0, .ref 60), (1, .int x1), (2, .int x2), (3, .int x3), (4, .int x4), (5, .int x5)]) dX11_windows_75 6 rfl (congrArg (HAdd.hAdd _) ic_1) (by decide) rfl ?_
  refine nd_goto dX11_windows_78 49 (by decide) ?_
  refine nd_sub [1, 2, 3, 4, 5, 6, 0] rfl ?_
  exact hrec49 _ _ _ _ _ _ _ h
set_option maxRecDepth 100000 in
set_option maxHeartbeats 4000000 in
theorem b_X11_windows_49 (F : Nat) (rec34 : Int32 → Int32 → Int32 → Int32 → nd_Mem → nd_Res) (t : List nd_S) (hL : (nd_SH ++ t).length < nd_ro) {z : Int32 × nd_Mem} (hrec34 : ∀ (x1 : Int32) (x2 : Int32) (x3 : Int32) (x4 : Int32) (σ : nd_Mem), rec34 x1 x2 x3 x4 σ = some z → nd_V M_X11_windows (nd_rm 2) (nd_Pi (nd_SH ++ t) z) 0 0 34 [(0, .ref 60), (1, .int x1), (2, .int x2), (3, .int x3), (4, .int x4)] [] (nd_SH ++ t) σ) (m9 : Nat) : ∀ (x1 : Int32) (x2 : Int32) (x3 : Int32) (x4 : Int32) (x5 : Int32) (x6 : Int32) (σ : nd_Mem), f_X11_windows_49 F rec34 m9 x1 x2 x3 x4 x5 x6 σ = some z → nd_V M_X11_windows (nd_rm 2) (nd_Pi (nd_SH ++ t) z) 0 0 49 [(0, .ref 60), (1, .int x1), (2, .int x2), (3, .int x3), (4, .int x4), (5, .int x5), (6, .int x6)] [] (nd_SH ++ t) σ := by
  induction m9 with
  | zero =>
    intro x1 x2 x3 x4 x5 x6 σ h
    have h : none = some z := h
    cases h
  | succ m9 hrec49 =>
    intro x1 x2 x3 x4 x5 x6 σ h
    have h : f_X11_windows_49_b F rec34 (f_X11_windows_49 F rec34 m9) x1 x2 x3 x4 x5 x6 σ = some z := h
    unfold f_X11_windows_49_b at h
    refine nd_iload dX11_windows_49 6 rfl ?_
    refine nd_aload_n dX11_windows_51 0 rfl ?_
    refine nd_get dX11_windows_52 gf_X11_461 (sh_60 t) rfl ?_
    refine nd_icmp_geN dX11_windows_55 81 (by decide) h (fun h => ?_) (fun h => ?_)
    · refine nd_iload_n dX11_windows_81 2 rfl ?_
      refine nd_iload dX11_windows_82 5 rfl ?_
      refine nd_iadd dX11_windows_84 ?_
      refine nd_istore_n (ls' := [(2, .int (x2 + x5)), (0, .ref 60), (1, .int x1), (3, .int x3), (4, .int x4), (5, .int x5), (6, .int x6)]) dX11_windows_85 (by decide) rfl ?_
      refine nd_aload_n dX11_windows_86 1 rfl ?_
      refine nd_iload_n dX11_windows_87 3 rfl ?_
      refine nd_iload dX11_windows_88 5 rfl ?_
      obtain ⟨r1, σ2, hc3, h⟩ := nd_bind_e h
      refine nd_cvi [.int x3, .int x5] [] dX11_windows_90 cl_X11_398 (sh_60 t) ⟨Nat.le_of_ble_eq_true rfl, Nat.le_of_ble_eq_true rfl⟩ rfl (Nat.le_of_ble_eq_true rfl) hL (t_X11_greater F t hL _ _ _ hc3) ?_
      refine nd_istore_n (ls' := [(3, .int r1), (2, .int (x2 + x5)), (0, .ref 60), (1, .int x1), (4, .int x4), (5, .int x5), (6, .int x6)]) dX11_windows_93 (by decide) rfl ?_
      refine nd_iinc (v := (x4 + (1 : Int32))) (ls' := [(4, .int (x4 + (1 : Int32))), (3, .int r1), (2, .int (x2 + x5)), (0, .ref 60), (1, .int x1), (5, .int x5), (6, .int x6)]) dX11_windows_94 4 rfl (congrArg (HAdd.hAdd _) ic_1) (by decide) rfl ?_
      refine nd_goto dX11_windows_97 34 (by decide) ?_
      refine nd_sub [3, 4, 2, 1, 0] rfl ?_
      exact hrec34 _ _ _ _ _ h
    · refine nd_aload_n dX11_windows_58 0 rfl ?_
      refine nd_iload dX11_windows_59 4 rfl ?_
      refine nd_iload dX11_windows_61 6 rfl ?_
      obtain ⟨r4, σ5, hc6, h⟩ := nd_bind_e h
      refine nd_cvi [.int x4, .int x6] [] dX11_windows_63 cl_X11_467 (sh_60 t) ⟨Nat.le_of_ble_eq_true rfl, Nat.le_of_ble_eq_true rfl⟩ rfl (Nat.le_of_ble_eq_true rfl) hL (t_X11_doSee F t hL _ _ _ hc6) ?_
      refine nd_if_eqN dX11_windows_66 75 (by decide) h (fun h => ?_) (fun h => ?_)
      · exact b_X11_windows_75 F _ _ t hL hrec34 hrec49 _ _ _ _ _ _ _ h
      · refine nd_iload dX11_windows_69 5 rfl ?_
        refine nd_iconst dX11_windows_71 ic_1 ?_
        refine nd_iadd dX11_windows_72 ?_
        refine nd_istore (ls' := [(5, .int (x5 + (1 : Int32))), (0, .ref 60), (1, .int x1), (2, .int x2), (3, .int x3), (4, .int x4), (6, .int x6)]) dX11_windows_73 (by decide) rfl ?_
        refine nd_sub [1, 2, 3, 4, 5, 0, 6] rfl ?_
        exact b_X11_windows_75 F _ _ t hL hrec34 hrec49 _ _ _ _ _ _ _ h
set_option maxRecDepth 100000 in
set_option maxHeartbeats 4000000 in
theorem b_X11_windows_34 (F : Nat) (t : List nd_S) (hL : (nd_SH ++ t).length < nd_ro) {z : Int32 × nd_Mem} (m9 : Nat) : ∀ (x1 : Int32) (x2 : Int32) (x3 : Int32) (x4 : Int32) (σ : nd_Mem), f_X11_windows_34 F m9 x1 x2 x3 x4 σ = some z → nd_V M_X11_windows (nd_rm 2) (nd_Pi (nd_SH ++ t) z) 0 0 34 [(0, .ref 60), (1, .int x1), (2, .int x2), (3, .int x3), (4, .int x4)] [] (nd_SH ++ t) σ := by
  induction m9 with
  | zero =>
    intro x1 x2 x3 x4 σ h
    have h : none = some z := h
    cases h
  | succ m9 hrec34 =>
    intro x1 x2 x3 x4 σ h
    have h : f_X11_windows_34_b F (f_X11_windows_34 F m9) x1 x2 x3 x4 σ = some z := h
    unfold f_X11_windows_34_b at h
    refine nd_iload dX11_windows_34 4 rfl ?_
    refine nd_aload_n dX11_windows_36 0 rfl ?_
    refine nd_get dX11_windows_37 gf_X11_461 (sh_60 t) rfl ?_
    refine nd_icmp_geN dX11_windows_40 100 (by decide) h (fun h => ?_) (fun h => ?_)
    · refine nd_iload_n dX11_windows_100 1 rfl ?_
      refine nd_if_neN dX11_windows_101 110 (by decide) h (fun h => ?_) (fun h => ?_)
      · refine nd_iload_n dX11_windows_110 3 rfl ?_
        exact nd_iret dX11_windows_111 (Nat.zero_le _) (Nat.zero_le _) (vp_nar_int _) (by cases h; exact ⟨rfl, rfl, rfl⟩)
      · refine nd_iload_n dX11_windows_104 2 rfl ?_
        refine nd_iconst dX11_windows_105 ic_2 ?_
        refine nd_idiv dX11_windows_106 (by decide) ?_
        refine nd_goto dX11_windows_107 111 (by decide) ?_
        exact nd_iret dX11_windows_111 (Nat.zero_le _) (Nat.zero_le _) (vp_nar_int _) (by cases h; exact ⟨rfl, rfl, rfl⟩)
    · refine nd_iconst dX11_windows_43 ic_0 ?_
      refine nd_istore (ls' := [(5, .int (0 : Int32)), (0, .ref 60), (1, .int x1), (2, .int x2), (3, .int x3), (4, .int x4)]) dX11_windows_44 (by decide) rfl ?_
      refine nd_iconst dX11_windows_46 ic_0 ?_
      refine nd_istore (ls' := [(6, .int (0 : Int32)), (5, .int (0 : Int32)), (0, .ref 60), (1, .int x1), (2, .int x2), (3, .int x3), (4, .int x4)]) dX11_windows_47 (by decide) rfl ?_
      refine nd_sub [2, 3, 4, 5, 6, 1, 0] rfl ?_
      exact b_X11_windows_49 F _ t hL hrec34 F _ _ _ _ _ _ _ h
set_option maxRecDepth 100000 in
set_option maxHeartbeats 4000000 in
theorem t_X11_windows (F : Nat) (t : List nd_S) (hL : (nd_SH ++ t).length < nd_ro) {z : Int32 × nd_Mem} (x1 : Int32) (σ : nd_Mem) (h : f_X11_windows F x1 σ = some z) : nd_Fn M_X11_windows (nd_rm 2) [.ref 60, .int x1] (nd_SH ++ t) σ (nd_Pi (nd_SH ++ t) z) := by
  refine nd_Fn.ofV (ls := [(0, .ref 60), (1, .int x1)]) pl_X11_windows rfl (fun _ => Nat.le_of_ble_eq_true rfl) (fun _ => rfl) ?_
  unfold f_X11_windows at h
  refine nd_aload_n dX11_windows_0 0 rfl ?_
  refine nd_iconst dX11_windows_1 ic_0 ?_
  refine nd_putiN dX11_windows_2 pf_X11_132 (sh_60 t) rfl h (fun σ1 h => ?_)
  refine nd_aload_n dX11_windows_5 0 rfl ?_
  refine nd_iload_n dX11_windows_6 1 rfl ?_
  refine nd_iconst dX11_windows_7 ic_0 ?_
  refine nd_iconst dX11_windows_8 ic_2 ?_
  obtain ⟨r2, σ3, hc4, h⟩ := nd_bind_e h
  refine nd_cvi [.int x1, .int (0 : Int32), .int (2 : Int32)] [] dX11_windows_9 cl_X11_147 (sh_60 t) ⟨Nat.le_of_ble_eq_true rfl, Nat.le_of_ble_eq_true rfl⟩ rfl (Nat.le_of_ble_eq_true rfl) hL (t_X11_isIn F t hL _ _ _ _ hc4) ?_
  refine nd_if_neN dX11_windows_12 17 (by decide) h (fun h => ?_) (fun h => ?_)
  · refine nd_iload_n dX11_windows_17 1 rfl ?_
    refine nd_iconst dX11_windows_18 ic_2 ?_
    refine nd_icmp_neN dX11_windows_19 27 (by decide) h (fun h => ?_) (fun h => ?_)
    · refine nd_iconst dX11_windows_27 ic_0 ?_
      refine nd_istore_n (ls' := [(2, .int (0 : Int32)), (0, .ref 60), (1, .int x1)]) dX11_windows_28 (by decide) rfl ?_
      refine nd_iconst dX11_windows_29 ic_0 ?_
      refine nd_istore_n (ls' := [(3, .int (0 : Int32)), (2, .int (0 : Int32)), (0, .ref 60), (1, .int x1)]) dX11_windows_30 (by decide) rfl ?_
      refine nd_iconst dX11_windows_31 ic_0 ?_
      refine nd_istore (ls' := [(4, .int (0 : Int32)), (3, .int (0 : Int32)), (2, .int (0 : Int32)), (0, .ref 60), (1, .int x1)]) dX11_windows_32 (by decide) rfl ?_
      refine nd_sub [3, 4, 2, 1, 0] rfl ?_
      exact b_X11_windows_34 F t hL F _ _ _ _ _ h
    · refine nd_aload_n dX11_windows_22 0 rfl ?_
      obtain ⟨r5, σ6, hc7, h⟩ := nd_bind_e h
      refine nd_cvi [] [] dX11_windows_23 cl_X11_464 (sh_60 t) ⟨Nat.le_of_ble_eq_true rfl, Nat.le_of_ble_eq_true rfl⟩ rfl (Nat.le_of_ble_eq_true rfl) hL (t_X11_rising F t hL _ hc7) ?_
      exact nd_iret dX11_windows_26 (Nat.zero_le _) (Nat.zero_le _) (vp_nar_int _) (by cases h; exact ⟨rfl, rfl, rfl⟩)
  · refine nd_iconst dX11_windows_15 ic_m1 ?_
    exact nd_iret dX11_windows_16 (Nat.zero_le _) (Nat.zero_le _) (vp_nar_int _) (by cases h; exact ⟨rfl, rfl, rfl⟩)
def f_X11_canAct_38 (F : Nat) (σ : nd_Mem) : nd_Res := (some ((0 : Int32), σ))
def f_X11_canAct_66 (F : Nat) (x2 : Int32) (s0 : Int32) (σ : nd_Mem) : nd_Res := (if (s0 + x2) < 0 ∨ 103 ≤ ((s0 + x2)).toNatClampNeg then none else (if (9 : Int32) ≤ (σ 61 ((s0 + x2)).toNatClampNeg) then (some ((0 : Int32), σ)) else (some ((1 : Int32), σ))))
def f_X11_canAct_50 (F : Nat) (x1 : Int32) (x2 : Int32) (σ : nd_Mem) : nd_Res := (if x1 = (1 : Int32) then (f_X11_canAct_66 F x2 (7 : Int32) σ) else (f_X11_canAct_66 F x2 (23 : Int32) σ))
def f_X11_canAct_114 (F : Nat) (σ : nd_Mem) : nd_Res := (some ((1 : Int32), σ))
def f_X11_canAct_118 (F : Nat) (σ : nd_Mem) : nd_Res := (some ((0 : Int32), σ))
def f_X11_canAct_98 (F : Nat) (x1 : Int32) (x2 : Int32) (σ : nd_Mem) : nd_Res := (if x1 = (4 : Int32) then (if (6 : Int32) < 0 ∨ 103 ≤ ((6 : Int32)).toNatClampNeg then none else (if (σ 61 ((6 : Int32)).toNatClampNeg) = x2 then (f_X11_canAct_118 F σ) else (f_X11_canAct_114 F σ))) else (f_X11_canAct_118 F σ))
def f_X11_canAct (F : Nat) (x1 : Int32) (x2 : Int32) (σ : nd_Mem) : nd_Res := (nd_bind (f_X11_isHouse F x2 σ) fun r1 σ2 => (if r1 = 0 then (some ((0 : Int32), σ2)) else (if x1 = 0 then (if ((7 : Int32) + x2) < 0 ∨ 103 ≤ (((7 : Int32) + x2)).toNatClampNeg then none else (if (σ2 61 (((7 : Int32) + x2)).toNatClampNeg) ≤ 0 then (f_X11_canAct_38 F σ2) else (nd_bind (f_X11_canGo F x2 σ2) fun r4 σ5 => (if r4 = 0 then (f_X11_canAct_38 F σ5) else (some ((1 : Int32), σ5)))))) else (if x1 = (1 : Int32) then (f_X11_canAct_50 F x1 x2 σ2) else (if x1 = (2 : Int32) then (f_X11_canAct_50 F x1 x2 σ2) else (if x1 = (3 : Int32) then (if ((87 : Int32) + x2) < 0 ∨ 103 ≤ (((87 : Int32) + x2)).toNatClampNeg then none else (if (σ2 61 (((87 : Int32) + x2)).toNatClampNeg) = (1 : Int32) then (f_X11_canAct_114 F σ2) else (f_X11_canAct_98 F x1 x2 σ2))) else (f_X11_canAct_98 F x1 x2 σ2)))))))
set_option maxRecDepth 100000 in
set_option maxHeartbeats 4000000 in
theorem b_X11_canAct_38 (F : Nat) (t : List nd_S) (hL : (nd_SH ++ t).length < nd_ro) {z : Int32 × nd_Mem} (σ : nd_Mem) (h : f_X11_canAct_38 F σ = some z) : nd_V M_X11_canAct (nd_rm 3) (nd_Pi (nd_SH ++ t) z) 0 0 38 [(0, .ref 60)] [] (nd_SH ++ t) σ := by
  unfold f_X11_canAct_38 at h
  refine nd_iconst dX11_canAct_38 ic_0 ?_
  exact nd_iret dX11_canAct_39 (Nat.zero_le _) (Nat.zero_le _) rfl (by cases h; exact ⟨rfl, rfl, rfl⟩)
set_option maxRecDepth 100000 in
set_option maxHeartbeats 4000000 in
theorem b_X11_canAct_66 (F : Nat) (t : List nd_S) (hL : (nd_SH ++ t).length < nd_ro) {z : Int32 × nd_Mem} (x2 : Int32) (s0 : Int32) (σ : nd_Mem) (h : f_X11_canAct_66 F x2 s0 σ = some z) : nd_V M_X11_canAct (nd_rm 3) (nd_Pi (nd_SH ++ t) z) 0 0 66 [(0, .ref 60), (2, .int x2)] [.int s0, .ref 61] (nd_SH ++ t) σ := by
  unfold f_X11_canAct_66 at h
  refine nd_iload_n dX11_canAct_66 1 rfl ?_
  refine nd_iadd dX11_canAct_67 ?_
  refine nd_ialoadN dX11_canAct_68 (sh_61 t) h (fun h => ?_)
  refine nd_bipush dX11_canAct_69 ib_9 ?_
  refine nd_icmp_geN dX11_canAct_71 78 (by decide) h (fun h => ?_) (fun h => ?_)
  · refine nd_iconst dX11_canAct_78 ic_0 ?_
    exact nd_iret dX11_canAct_79 (Nat.zero_le _) (Nat.zero_le _) rfl (by cases h; exact ⟨rfl, rfl, rfl⟩)
  · refine nd_iconst dX11_canAct_74 ic_1 ?_
    refine nd_goto dX11_canAct_75 79 (by decide) ?_
    exact nd_iret dX11_canAct_79 (Nat.zero_le _) (Nat.zero_le _) rfl (by cases h; exact ⟨rfl, rfl, rfl⟩)
set_option maxRecDepth 100000 in
set_option maxHeartbeats 4000000 in
theorem b_X11_canAct_50 (F : Nat) (t : List nd_S) (hL : (nd_SH ++ t).length < nd_ro) {z : Int32 × nd_Mem} (x1 : Int32) (x2 : Int32) (σ : nd_Mem) (h : f_X11_canAct_50 F x1 x2 σ = some z) : nd_V M_X11_canAct (nd_rm 3) (nd_Pi (nd_SH ++ t) z) 0 0 50 [(0, .ref 60), (1, .int x1), (2, .int x2)] [] (nd_SH ++ t) σ := by
  unfold f_X11_canAct_50 at h
  refine nd_aload_n dX11_canAct_50 0 rfl ?_
  refine nd_get dX11_canAct_51 gf_X11_7 (sh_60 t) rfl ?_
  refine nd_iload_n dX11_canAct_54 1 rfl ?_
  refine nd_iconst dX11_canAct_55 ic_1 ?_
  refine nd_icmp_neN dX11_canAct_56 64 (by decide) h (fun h => ?_) (fun h => ?_)
  · refine nd_bipush dX11_canAct_64 ib_23 ?_
    refine nd_sub [0, 2] rfl ?_
    exact b_X11_canAct_66 F t hL _ _ _ h
  · refine nd_bipush dX11_canAct_59 ib_7 ?_
    refine nd_goto dX11_canAct_61 66 (by decide) ?_
    refine nd_sub [0, 2] rfl ?_
    exact b_X11_canAct_66 F t hL _ _ _ h
set_option maxRecDepth 100000 in
set_option maxHeartbeats 4000000 in
theorem b_X11_canAct_114 (F : Nat) (t : List nd_S) (hL : (nd_SH ++ t).length < nd_ro) {z : Int32 × nd_Mem} (σ : nd_Mem) (h : f_X11_canAct_114 F σ = some z) : nd_V M_X11_canAct (nd_rm 3) (nd_Pi (nd_SH ++ t) z) 0 0 114 [(0, .ref 60)] [] (nd_SH ++ t) σ := by
  unfold f_X11_canAct_114 at h
  refine nd_iconst dX11_canAct_114 ic_1 ?_
  refine nd_goto dX11_canAct_115 119 (by decide) ?_
  exact nd_iret dX11_canAct_119 (Nat.zero_le _) (Nat.zero_le _) rfl (by cases h; exact ⟨rfl, rfl, rfl⟩)
set_option maxRecDepth 100000 in
set_option maxHeartbeats 4000000 in
theorem b_X11_canAct_118 (F : Nat) (t : List nd_S) (hL : (nd_SH ++ t).length < nd_ro) {z : Int32 × nd_Mem} (σ : nd_Mem) (h : f_X11_canAct_118 F σ = some z) : nd_V M_X11_canAct (nd_rm 3) (nd_Pi (nd_SH ++ t) z) 0 0 118 [(0, .ref 60)] [] (nd_SH ++ t) σ := by
  unfold f_X11_canAct_118 at h
  refine nd_iconst dX11_canAct_118 ic_0 ?_
  exact nd_iret dX11_canAct_119 (Nat.zero_le _) (Nat.zero_le _) rfl (by cases h; exact ⟨rfl, rfl, rfl⟩)
set_option maxRecDepth 100000 in
set_option maxHeartbeats 4000000 in
theorem b_X11_canAct_98 (F : Nat) (t : List nd_S) (hL : (nd_SH ++ t).length < nd_ro) {z : Int32 × nd_Mem} (x1 : Int32) (x2 : Int32) (σ : nd_Mem) (h : f_X11_canAct_98 F x1 x2 σ = some z) : nd_V M_X11_canAct (nd_rm 3) (nd_Pi (nd_SH ++ t) z) 0 0 98 [(0, .ref 60), (1, .int x1), (2, .int x2)] [] (nd_SH ++ t) σ := by
  unfold f_X11_canAct_98 at h
  refine nd_iload_n dX11_canAct_98 1 rfl ?_
  refine nd_iconst dX11_canAct_99 ic_4 ?_
  refine nd_icmp_neN dX11_canAct_100 118 (by decide) h (fun h => ?_) (fun h => ?_)
  · refine nd_sub [0] rfl ?_
    exact b_X11_canAct_118 F t hL _ h
  · refine nd_aload_n dX11_canAct_103 0 rfl ?_
    refine nd_get dX11_canAct_104 gf_X11_7 (sh_60 t) rfl ?_
    refine nd_bipush dX11_canAct_107 ib_6 ?_
    refine nd_ialoadN dX11_canAct_109 (sh_61 t) h (fun h => ?_)
    refine nd_iload_n dX11_canAct_110 2 rfl ?_
    refine nd_icmp_eqN dX11_canAct_111 118 (by decide) h (fun h => ?_) (fun h => ?_)
    · refine nd_sub [0] rfl ?_
      exact b_X11_canAct_118 F t hL _ h
    · refine nd_sub [0] rfl ?_
      exact b_X11_canAct_114 F t hL _ h
set_option maxRecDepth 100000 in
set_option maxHeartbeats 4000000 in
theorem t_X11_canAct (F : Nat) (t : List nd_S) (hL : (nd_SH ++ t).length < nd_ro) {z : Int32 × nd_Mem} (x1 : Int32) (x2 : Int32) (σ : nd_Mem) (h : f_X11_canAct F x1 x2 σ = some z) : nd_Fn M_X11_canAct (nd_rm 3) [.ref 60, .int x1, .int x2] (nd_SH ++ t) σ (nd_Pi (nd_SH ++ t) z) := by
  refine nd_Fn.ofV (ls := [(0, .ref 60), (1, .int x1), (2, .int x2)]) pl_X11_canAct rfl (fun _ => Nat.le_of_ble_eq_true rfl) (fun _ => rfl) ?_
  unfold f_X11_canAct at h
  refine nd_aload_n dX11_canAct_0 0 rfl ?_
  refine nd_iload_n dX11_canAct_1 2 rfl ?_
  obtain ⟨r1, σ2, hc3, h⟩ := nd_bind_e h
  refine nd_cvi [.int x2] [] dX11_canAct_2 cl_X11_151 (sh_60 t) ⟨Nat.le_of_ble_eq_true rfl, Nat.le_of_ble_eq_true rfl⟩ rfl (Nat.le_of_ble_eq_true rfl) hL (t_X11_isHouse F t hL _ _ hc3) ?_
  refine nd_if_neN dX11_canAct_5 10 (by decide) h (fun h => ?_) (fun h => ?_)
  · refine nd_iload_n dX11_canAct_10 1 rfl ?_
    refine nd_if_neN dX11_canAct_11 40 (by decide) h (fun h => ?_) (fun h => ?_)
    · refine nd_iload_n dX11_canAct_40 1 rfl ?_
      refine nd_iconst dX11_canAct_41 ic_1 ?_
      refine nd_icmp_eqN dX11_canAct_42 50 (by decide) h (fun h => ?_) (fun h => ?_)
      · exact b_X11_canAct_50 F t hL _ _ _ h
      · refine nd_iload_n dX11_canAct_45 1 rfl ?_
        refine nd_iconst dX11_canAct_46 ic_2 ?_
        refine nd_icmp_neN dX11_canAct_47 80 (by decide) h (fun h => ?_) (fun h => ?_)
        · refine nd_iload_n dX11_canAct_80 1 rfl ?_
          refine nd_iconst dX11_canAct_81 ic_3 ?_
          refine nd_icmp_neN dX11_canAct_82 98 (by decide) h (fun h => ?_) (fun h => ?_)
          · exact b_X11_canAct_98 F t hL _ _ _ h
          · refine nd_aload_n dX11_canAct_85 0 rfl ?_
            refine nd_get dX11_canAct_86 gf_X11_7 (sh_60 t) rfl ?_
            refine nd_bipush dX11_canAct_89 ib_87 ?_
            refine nd_iload_n dX11_canAct_91 2 rfl ?_
            refine nd_iadd dX11_canAct_92 ?_
            refine nd_ialoadN dX11_canAct_93 (sh_61 t) h (fun h => ?_)
            refine nd_iconst dX11_canAct_94 ic_1 ?_
            refine nd_icmp_eqN dX11_canAct_95 114 (by decide) h (fun h => ?_) (fun h => ?_)
            · refine nd_sub [0] rfl ?_
              exact b_X11_canAct_114 F t hL _ h
            · exact b_X11_canAct_98 F t hL _ _ _ h
        · exact b_X11_canAct_50 F t hL _ _ _ h
    · refine nd_aload_n dX11_canAct_14 0 rfl ?_
      refine nd_get dX11_canAct_15 gf_X11_7 (sh_60 t) rfl ?_
      refine nd_bipush dX11_canAct_18 ib_7 ?_
      refine nd_iload_n dX11_canAct_20 2 rfl ?_
      refine nd_iadd dX11_canAct_21 ?_
      refine nd_ialoadN dX11_canAct_22 (sh_61 t) h (fun h => ?_)
      refine nd_if_leN dX11_canAct_23 38 (by decide) h (fun h => ?_) (fun h => ?_)
      · refine nd_sub [0] rfl ?_
        exact b_X11_canAct_38 F t hL _ h
      · refine nd_aload_n dX11_canAct_26 0 rfl ?_
        refine nd_iload_n dX11_canAct_27 2 rfl ?_
        obtain ⟨r4, σ5, hc6, h⟩ := nd_bind_e h
        refine nd_cvi [.int x2] [] dX11_canAct_28 cl_X11_345 (sh_60 t) ⟨Nat.le_of_ble_eq_true rfl, Nat.le_of_ble_eq_true rfl⟩ rfl (Nat.le_of_ble_eq_true rfl) hL (t_X11_canGo F t hL _ _ hc6) ?_
        refine nd_if_eqN dX11_canAct_31 38 (by decide) h (fun h => ?_) (fun h => ?_)
        · refine nd_sub [0] rfl ?_
          exact b_X11_canAct_38 F t hL _ h
        · refine nd_iconst dX11_canAct_34 ic_1 ?_
          refine nd_goto dX11_canAct_35 39 (by decide) ?_
          exact nd_iret dX11_canAct_39 (Nat.zero_le _) (Nat.zero_le _) rfl (by cases h; exact ⟨rfl, rfl, rfl⟩)
  · refine nd_iconst dX11_canAct_8 ic_0 ?_
    exact nd_iret dX11_canAct_9 (Nat.zero_le _) (Nat.zero_le _) rfl (by cases h; exact ⟨rfl, rfl, rfl⟩)
def f_X11_feuds_47 (F : Nat) (rec25 : Int32 → Int32 → nd_Mem → nd_Res) (x2 : Int32) (x3 : Int32) (σ : nd_Mem) : nd_Res := (rec25 x2 (x3 + (1 : Int32)) σ)
def f_X11_feuds_25_b (F : Nat) (rec25 : Int32 → Int32 → nd_Mem → nd_Res) (x2 : Int32) (x3 : Int32) (σ : nd_Mem) : nd_Res := (if (σ 60 6) ≤ x3 then (some (x2, σ)) else (nd_bind (f_X11_isKing F x3 σ) fun r1 σ2 => (if r1 = 0 then (f_X11_feuds_47 F rec25 x2 x3 σ2) else (f_X11_feuds_47 F rec25 (x2 ||| ((1 : Int32) <<< (x3 &&& 31))) x3 σ2))))
def f_X11_feuds_25 (F : Nat) : Nat → Int32 → Int32 → nd_Mem → nd_Res
  | 0, _, _, _ => none
  | m9 + 1, x2, x3, σ => f_X11_feuds_25_b F (f_X11_feuds_25 F m9) x2 x3 σ
def f_X11_feuds (F : Nat) (x1 : Int32) (σ : nd_Mem) : nd_Res := (nd_let (nd_up σ 60 0 (0 : Int32)) fun σ1 => (if x1 = (1 : Int32) then (nd_bind (f_X11_longest F σ1) fun r2 σ3 => (some (r2, σ3))) else (if x1 = 0 then (f_X11_feuds_25 F F (0 : Int32) (0 : Int32) σ1) else (some ((-1 : Int32), σ1)))))
set_option maxRecDepth 100000 in
set_option maxHeartbeats 4000000 in
theorem b_X11_feuds_47 (F : Nat) (rec25 : Int32 → Int32 → nd_Mem → nd_Res) (t : List nd_S) (hL : (nd_SH ++ t).length < nd_ro) {z : Int32 × nd_Mem} (hrec25 : ∀ (x2 : Int32) (x3 : Int32) (σ : nd_Mem), rec25 x2 x3 σ = some z → nd_V M_X11_feuds (nd_rm 3) (nd_Pi (nd_SH ++ t) z) 0 0 25 [(0, .ref 60), (2, .int x2), (3, .int x3)] [] (nd_SH ++ t) σ) (x2 : Int32) (x3 : Int32) (σ : nd_Mem) (h : f_X11_feuds_47 F rec25 x2 x3 σ = some z) : nd_V M_X11_feuds (nd_rm 3) (nd_Pi (nd_SH ++ t) z) 0 0 47 [(0, .ref 60), (2, .int x2), (3, .int x3)] [] (nd_SH ++ t) σ := by
  unfold f_X11_feuds_47 at h
  refine nd_iinc (v := (x3 + (1 : Int32))) (ls' := [(3, .int (x3 + (1 : Int32))), (0, .ref 60), (2, .int x2)]) dX11_feuds_47 2 rfl (congrArg (HAdd.hAdd _) ic_1) (by decide) rfl ?_
  refine nd_goto dX11_feuds_50 25 (by decide) ?_
  refine nd_sub [1, 2, 0] rfl ?_
  exact hrec25 _ _ _ h
set_option maxRecDepth 100000 in
set_option maxHeartbeats 4000000 in
theorem b_X11_feuds_25 (F : Nat) (t : List nd_S) (hL : (nd_SH ++ t).length < nd_ro) {z : Int32 × nd_Mem} (m9 : Nat) : ∀ (x2 : Int32) (x3 : Int32) (σ : nd_Mem), f_X11_feuds_25 F m9 x2 x3 σ = some z → nd_V M_X11_feuds (nd_rm 3) (nd_Pi (nd_SH ++ t) z) 0 0 25 [(0, .ref 60), (2, .int x2), (3, .int x3)] [] (nd_SH ++ t) σ := by
  induction m9 with
  | zero =>
    intro x2 x3 σ h
    have h : none = some z := h
    cases h
  | succ m9 hrec25 =>
    intro x2 x3 σ h
    have h : f_X11_feuds_25_b F (f_X11_feuds_25 F m9) x2 x3 σ = some z := h
    unfold f_X11_feuds_25_b at h
    refine nd_iload_n dX11_feuds_25 2 rfl ?_
    refine nd_aload_n dX11_feuds_26 0 rfl ?_
    refine nd_get dX11_feuds_27 gf_X11_144 (sh_60 t) rfl ?_
    refine nd_icmp_geN dX11_feuds_30 53 (by decide) h (fun h => ?_) (fun h => ?_)
    · refine nd_iload_n dX11_feuds_53 1 rfl ?_
      exact nd_iret dX11_feuds_54 (Nat.zero_le _) (Nat.zero_le _) (vp_nar_int _) (by cases h; exact ⟨rfl, rfl, rfl⟩)
    · refine nd_aload_n dX11_feuds_33 0 rfl ?_
      refine nd_iload_n dX11_feuds_34 2 rfl ?_
      obtain ⟨r1, σ2, hc3, h⟩ := nd_bind_e h
      refine nd_cvi [.int x3] [] dX11_feuds_35 cl_X11_426 (sh_60 t) ⟨Nat.le_of_ble_eq_true rfl, Nat.le_of_ble_eq_true rfl⟩ rfl (Nat.le_of_ble_eq_true rfl) hL (t_X11_isKing F t hL _ _ hc3) ?_
      refine nd_if_eqN dX11_feuds_38 47 (by decide) h (fun h => ?_) (fun h => ?_)
      · exact b_X11_feuds_47 F _ t hL hrec25 _ _ _ h
      · refine nd_iload_n dX11_feuds_41 1 rfl ?_
        refine nd_iconst dX11_feuds_42 ic_1 ?_
        refine nd_iload_n dX11_feuds_43 2 rfl ?_
        refine nd_ishl dX11_feuds_44 ?_
        refine nd_ior dX11_feuds_45 ?_
        refine nd_istore_n (ls' := [(2, .int (x2 ||| ((1 : Int32) <<< (x3 &&& 31)))), (0, .ref 60), (3, .int x3)]) dX11_feuds_46 (by decide) rfl ?_
        refine nd_sub [1, 0, 2] rfl ?_
        exact b_X11_feuds_47 F _ t hL hrec25 _ _ _ h
set_option maxRecDepth 100000 in
set_option maxHeartbeats 4000000 in
theorem t_X11_feuds (F : Nat) (t : List nd_S) (hL : (nd_SH ++ t).length < nd_ro) {z : Int32 × nd_Mem} (x1 : Int32) (σ : nd_Mem) (h : f_X11_feuds F x1 σ = some z) : nd_Fn M_X11_feuds (nd_rm 3) [.ref 60, .int x1] (nd_SH ++ t) σ (nd_Pi (nd_SH ++ t) z) := by
  refine nd_Fn.ofV (ls := [(0, .ref 60), (1, .int x1)]) pl_X11_feuds rfl (fun _ => Nat.le_of_ble_eq_true rfl) (fun _ => rfl) ?_
  unfold f_X11_feuds at h
  refine nd_aload_n dX11_feuds_0 0 rfl ?_
  refine nd_iconst dX11_feuds_1 ic_0 ?_
  refine nd_putiN dX11_feuds_2 pf_X11_132 (sh_60 t) rfl h (fun σ1 h => ?_)
  refine nd_iload_n dX11_feuds_5 1 rfl ?_
  refine nd_iconst dX11_feuds_6 ic_1 ?_
  refine nd_icmp_neN dX11_feuds_7 15 (by decide) h (fun h => ?_) (fun h => ?_)
  · refine nd_iload_n dX11_feuds_15 1 rfl ?_
    refine nd_if_eqN dX11_feuds_16 21 (by decide) h (fun h => ?_) (fun h => ?_)
    · refine nd_iconst dX11_feuds_21 ic_0 ?_
      refine nd_istore_n (ls' := [(2, .int (0 : Int32)), (0, .ref 60), (1, .int x1)]) dX11_feuds_22 (by decide) rfl ?_
      refine nd_iconst dX11_feuds_23 ic_0 ?_
      refine nd_istore_n (ls' := [(3, .int (0 : Int32)), (2, .int (0 : Int32)), (0, .ref 60), (1, .int x1)]) dX11_feuds_24 (by decide) rfl ?_
      refine nd_sub [2, 1, 0] rfl ?_
      exact b_X11_feuds_25 F t hL F _ _ _ h
    · refine nd_iconst dX11_feuds_19 ic_m1 ?_
      exact nd_iret dX11_feuds_20 (Nat.zero_le _) (Nat.zero_le _) (vp_nar_int _) (by cases h; exact ⟨rfl, rfl, rfl⟩)
  · refine nd_aload_n dX11_feuds_10 0 rfl ?_
    obtain ⟨r2, σ3, hc4, h⟩ := nd_bind_e h
    refine nd_cvi [] [] dX11_feuds_11 cl_X11_423 (sh_60 t) ⟨Nat.le_of_ble_eq_true rfl, Nat.le_of_ble_eq_true rfl⟩ rfl (Nat.le_of_ble_eq_true rfl) hL (t_X11_longest F t hL _ hc4) ?_
    exact nd_iret dX11_feuds_14 (Nat.zero_le _) (Nat.zero_le _) (vp_nar_int _) (by cases h; exact ⟨rfl, rfl, rfl⟩)
def f_X11_lawTells_37 (F : Nat) (x3 : Int32) (s0 : Int32) (σ : nd_Mem) : nd_Res := (nd_bind (f_X11_held F s0 (0 : Int32) x3 σ) fun r1 σ2 => (some (r1, σ2)))
def f_X11_lawTells (F : Nat) (x1 : Int32) (x2 : Int32) (x3 : Int32) (σ : nd_Mem) : nd_Res := (nd_bind (f_X11_lineOf F x1 σ) fun r1 σ2 => (if r1 = (-1 : Int32) then (f_X11_lawTells_37 F x3 x2 σ2) else (if r1 < 0 ∨ 48 ≤ (r1).toNatClampNeg then none else (if r1 < 0 ∨ 48 ≤ (r1).toNatClampNeg then none else (nd_bind (f_X11_runs F (0 : Int32) (σ2 69 (r1).toNatClampNeg) (σ2 70 (r1).toNatClampNeg) σ2) fun r4 σ5 => (f_X11_lawTells_37 F x3 r4 σ5))))))
set_option maxRecDepth 100000 in
set_option maxHeartbeats 4000000 in
theorem b_X11_lawTells_37 (F : Nat) (t : List nd_S) (hL : (nd_SH ++ t).length < nd_ro) {z : Int32 × nd_Mem} (x3 : Int32) (s0 : Int32) (σ : nd_Mem) (h : f_X11_lawTells_37 F x3 s0 σ = some z) : nd_V M_X11_lawTells (nd_rm 3) (nd_Pi (nd_SH ++ t) z) 0 0 37 [(0, .ref 60), (3, .int x3)] [.int s0, .ref 60] (nd_SH ++ t) σ := by
  unfold f_X11_lawTells_37 at h
  refine nd_iconst dX11_lawTells_37 ic_0 ?_
  refine nd_iload_n dX11_lawTells_38 1 rfl ?_
  obtain ⟨r1, σ2, hc3, h⟩ := nd_bind_e h
  refine nd_cvi [.int s0, .int (0 : Int32), .int x3] [] dX11_lawTells_39 cl_X11_316 (sh_60 t) ⟨Nat.le_of_ble_eq_true rfl, Nat.le_of_ble_eq_true rfl⟩ rfl (Nat.le_of_ble_eq_true rfl) hL (t_X11_held F t hL _ _ _ _ hc3) ?_
  exact nd_iret dX11_lawTells_42 (Nat.zero_le _) (Nat.zero_le _) (vp_nar_int _) (by cases h; exact ⟨rfl, rfl, rfl⟩)
set_option maxRecDepth 100000 in
set_option maxHeartbeats 4000000 in
theorem t_X11_lawTells (F : Nat) (t : List nd_S) (hL : (nd_SH ++ t).length < nd_ro) {z : Int32 × nd_Mem} (x1 : Int32) (x2 : Int32) (x3 : Int32) (σ : nd_Mem) (h : f_X11_lawTells F x1 x2 x3 σ = some z) : nd_Fn M_X11_lawTells (nd_rm 3) [.ref 60, .int x1, .int x2, .int x3] (nd_SH ++ t) σ (nd_Pi (nd_SH ++ t) z) := by
  refine nd_Fn.ofV (ls := [(0, .ref 60), (1, .int x1), (2, .int x2), (3, .int x3)]) pl_X11_lawTells rfl (fun _ => Nat.le_of_ble_eq_true rfl) (fun _ => rfl) ?_
  unfold f_X11_lawTells at h
  refine nd_aload_n dX11_lawTells_0 0 rfl ?_
  refine nd_iload_n dX11_lawTells_1 1 rfl ?_
  obtain ⟨r1, σ2, hc3, h⟩ := nd_bind_e h
  refine nd_cvi [.int x1] [] dX11_lawTells_2 cl_X11_313 (sh_60 t) ⟨Nat.le_of_ble_eq_true rfl, Nat.le_of_ble_eq_true rfl⟩ rfl (Nat.le_of_ble_eq_true rfl) hL (t_X11_lineOf F t hL _ _ hc3) ?_
  refine nd_istore (ls' := [(4, .int r1), (0, .ref 60), (1, .int x1), (2, .int x2), (3, .int x3)]) dX11_lawTells_5 (by decide) rfl ?_
  refine nd_aload_n dX11_lawTells_7 1 rfl ?_
  refine nd_iload dX11_lawTells_8 0 rfl ?_
  refine nd_iconst dX11_lawTells_10 ic_m1 ?_
  refine nd_icmp_neN dX11_lawTells_11 18 (by decide) h (fun h => ?_) (fun h => ?_)
  · refine nd_aload_n dX11_lawTells_18 1 rfl ?_
    refine nd_iconst dX11_lawTells_19 ic_0 ?_
    refine nd_aload_n dX11_lawTells_20 1 rfl ?_
    refine nd_get dX11_lawTells_21 gf_X11_34 (sh_60 t) rfl ?_
    refine nd_iload dX11_lawTells_24 0 rfl ?_
    refine nd_ialoadN dX11_lawTells_26 (sh_69 t) h (fun h => ?_)
    refine nd_aload_n dX11_lawTells_27 1 rfl ?_
    refine nd_get dX11_lawTells_28 gf_X11_37 (sh_60 t) rfl ?_
    refine nd_iload dX11_lawTells_31 0 rfl ?_
    refine nd_ialoadN dX11_lawTells_33 (sh_70 t) h (fun h => ?_)
    obtain ⟨r4, σ5, hc6, h⟩ := nd_bind_e h
    refine nd_cvi [.int (0 : Int32), .int (σ2 69 (r1).toNatClampNeg), .int (σ2 70 (r1).toNatClampNeg)] [.ref 60] dX11_lawTells_34 cl_X11_310 (sh_60 t) ⟨Nat.le_of_ble_eq_true rfl, Nat.le_of_ble_eq_true rfl⟩ rfl (Nat.le_of_ble_eq_true rfl) hL (t_X11_runs F t hL _ _ _ _ hc6) ?_
    refine nd_sub [1, 4] rfl ?_
    exact b_X11_lawTells_37 F t hL _ _ _ h
  · refine nd_iload_n dX11_lawTells_14 3 rfl ?_
    refine nd_goto dX11_lawTells_15 37 (by decide) ?_
    refine nd_sub [1, 4] rfl ?_
    exact b_X11_lawTells_37 F t hL _ _ _ h
def f_X11_readMark (F : Nat) (x1 : Int32) (σ : nd_Mem) : nd_Res := (nd_bind (f_X11_isSign F x1 σ) fun r1 σ2 => (if r1 = 0 then (nd_bind (f_X11_errs F (1 : Int32) σ2) fun r7 σ8 => (some (r7, σ8))) else (nd_bind (f_X11_reads F σ2) fun r4 σ5 => (some ((0 : Int32), σ5)))))
set_option maxRecDepth 100000 in
set_option maxHeartbeats 4000000 in
theorem t_X11_readMark (F : Nat) (t : List nd_S) (hL : (nd_SH ++ t).length < nd_ro) {z : Int32 × nd_Mem} (x1 : Int32) (σ : nd_Mem) (h : f_X11_readMark F x1 σ = some z) : nd_Fn M_X11_readMark (nd_rm 3) [.ref 60, .int x1] (nd_SH ++ t) σ (nd_Pi (nd_SH ++ t) z) := by
  refine nd_Fn.ofV (ls := [(0, .ref 60), (1, .int x1)]) pl_X11_readMark rfl (fun _ => Nat.le_of_ble_eq_true rfl) (fun _ => rfl) ?_
  unfold f_X11_readMark at h
  refine nd_aload_n dX11_readMark_0 0 rfl ?_
  refine nd_iload_n dX11_readMark_1 1 rfl ?_
  obtain ⟨r1, σ2, hc3, h⟩ := nd_bind_e h
  refine nd_cvi [.int x1] [] dX11_readMark_2 cl_X11_217 (sh_60 t) ⟨Nat.le_of_ble_eq_true rfl, Nat.le_of_ble_eq_true rfl⟩ rfl (Nat.le_of_ble_eq_true rfl) hL (t_X11_isSign F t hL _ _ hc3) ?_
  refine nd_if_neN dX11_readMark_5 14 (by decide) h (fun h => ?_) (fun h => ?_)
  · refine nd_aload_n dX11_readMark_14 0 rfl ?_
    obtain ⟨r4, σ5, hc6, h⟩ := nd_bind_e h
    refine nd_cvv [] [] dX11_readMark_15 cl_X11_210 (sh_60 t) ⟨Nat.le_of_ble_eq_true rfl, Nat.le_of_ble_eq_true rfl⟩ rfl (Nat.le_of_ble_eq_true rfl) hL (t_X11_reads F t hL _ hc6) ?_
    refine nd_iconst dX11_readMark_18 ic_0 ?_
    exact nd_iret dX11_readMark_19 (Nat.zero_le _) (Nat.zero_le _) (vp_nar_int _) (by cases h; exact ⟨rfl, rfl, rfl⟩)
  · refine nd_aload_n dX11_readMark_8 0 rfl ?_
    refine nd_iconst dX11_readMark_9 ic_1 ?_
    obtain ⟨r7, σ8, hc9, h⟩ := nd_bind_e h
    refine nd_cvi [.int (1 : Int32)] [] dX11_readMark_10 cl_X11_203 (sh_60 t) ⟨Nat.le_of_ble_eq_true rfl, Nat.le_of_ble_eq_true rfl⟩ rfl (Nat.le_of_ble_eq_true rfl) hL (t_X11_errs F t hL _ _ hc9) ?_
    exact nd_iret dX11_readMark_13 (Nat.zero_le _) (Nat.zero_le _) (vp_nar_int _) (by cases h; exact ⟨rfl, rfl, rfl⟩)
def f_X11_readNumber (F : Nat) (x1 : Int32) (x2 : Int32) (σ : nd_Mem) : nd_Res := (if (σ 60 12) = (3 : Int32) then (nd_bind (f_X11_isIn F (σ 60 13) x1 x2 σ) fun r1 σ2 => (if r1 = 0 then (nd_bind (f_X11_errs F (2 : Int32) σ2) fun r7 σ8 => (some (r7, σ8))) else (nd_bind (f_X11_reads F σ2) fun r4 σ5 => (some ((σ2 60 13), σ5))))) else (nd_bind (f_X11_errs F (1 : Int32) σ) fun r10 σ11 => (some (r10, σ11))))
set_option maxRecDepth 100000 in
set_option maxHeartbeats 4000000 in
theorem t_X11_readNumber (F : Nat) (t : List nd_S) (hL : (nd_SH ++ t).length < nd_ro) {z : Int32 × nd_Mem} (x1 : Int32) (x2 : Int32) (σ : nd_Mem) (h : f_X11_readNumber F x1 x2 σ = some z) : nd_Fn M_X11_readNumber (nd_rm 3) [.ref 60, .int x1, .int x2] (nd_SH ++ t) σ (nd_Pi (nd_SH ++ t) z) := by
  refine nd_Fn.ofV (ls := [(0, .ref 60), (1, .int x1), (2, .int x2)]) pl_X11_readNumber rfl (fun _ => Nat.le_of_ble_eq_true rfl) (fun _ => rfl) ?_
  unfold f_X11_readNumber at h
  refine nd_aload_n dX11_readNumber_0 0 rfl ?_
  refine nd_get dX11_readNumber_1 gf_X11_172 (sh_60 t) rfl ?_
  refine nd_iconst dX11_readNumber_4 ic_3 ?_
  refine nd_icmp_eqN dX11_readNumber_5 14 (by decide) h (fun h => ?_) (fun h => ?_)
  · refine nd_aload_n dX11_readNumber_14 0 rfl ?_
    refine nd_aload_n dX11_readNumber_15 0 rfl ?_
    refine nd_get dX11_readNumber_16 gf_X11_175 (sh_60 t) rfl ?_
    refine nd_iload_n dX11_readNumber_19 1 rfl ?_
    refine nd_iload_n dX11_readNumber_20 2 rfl ?_
    obtain ⟨r1, σ2, hc3, h⟩ := nd_bind_e h
    refine nd_cvi [.int (σ 60 13), .int x1, .int x2] [] dX11_readNumber_21 cl_X11_147 (sh_60 t) ⟨Nat.le_of_ble_eq_true rfl, Nat.le_of_ble_eq_true rfl⟩ rfl (Nat.le_of_ble_eq_true rfl) hL (t_X11_isIn F t hL _ _ _ _ hc3) ?_
    refine nd_if_neN dX11_readNumber_24 33 (by decide) h (fun h => ?_) (fun h => ?_)
    · refine nd_aload_n dX11_readNumber_33 0 rfl ?_
      refine nd_get dX11_readNumber_34 gf_X11_175 (sh_60 t) rfl ?_
      refine nd_istore_n (ls' := [(3, .int (σ2 60 13)), (0, .ref 60), (1, .int x1), (2, .int x2)]) dX11_readNumber_37 (by decide) rfl ?_
      refine nd_aload_n dX11_readNumber_38 1 rfl ?_
      obtain ⟨r4, σ5, hc6, h⟩ := nd_bind_e h
      refine nd_cvv [] [] dX11_readNumber_39 cl_X11_210 (sh_60 t) ⟨Nat.le_of_ble_eq_true rfl, Nat.le_of_ble_eq_true rfl⟩ rfl (Nat.le_of_ble_eq_true rfl) hL (t_X11_reads F t hL _ hc6) ?_
      refine nd_iload_n dX11_readNumber_42 0 rfl ?_
      exact nd_iret dX11_readNumber_43 (Nat.zero_le _) (Nat.zero_le _) (vp_nar_int _) (by cases h; exact ⟨rfl, rfl, rfl⟩)
    · refine nd_aload_n dX11_readNumber_27 0 rfl ?_
      refine nd_iconst dX11_readNumber_28 ic_2 ?_
      obtain ⟨r7, σ8, hc9, h⟩ := nd_bind_e h
      refine nd_cvi [.int (2 : Int32)] [] dX11_readNumber_29 cl_X11_203 (sh_60 t) ⟨Nat.le_of_ble_eq_true rfl, Nat.le_of_ble_eq_true rfl⟩ rfl (Nat.le_of_ble_eq_true rfl) hL (t_X11_errs F t hL _ _ hc9) ?_
      exact nd_iret dX11_readNumber_32 (Nat.zero_le _) (Nat.zero_le _) (vp_nar_int _) (by cases h; exact ⟨rfl, rfl, rfl⟩)
  · refine nd_aload_n dX11_readNumber_8 0 rfl ?_
    refine nd_iconst dX11_readNumber_9 ic_1 ?_
    obtain ⟨r10, σ11, hc12, h⟩ := nd_bind_e h
    refine nd_cvi [.int (1 : Int32)] [] dX11_readNumber_10 cl_X11_203 (sh_60 t) ⟨Nat.le_of_ble_eq_true rfl, Nat.le_of_ble_eq_true rfl⟩ rfl (Nat.le_of_ble_eq_true rfl) hL (t_X11_errs F t hL _ _ hc12) ?_
    exact nd_iret dX11_readNumber_13 (Nat.zero_le _) (Nat.zero_le _) (vp_nar_int _) (by cases h; exact ⟨rfl, rfl, rfl⟩)
def f_X11_readUnit_71 (F : Nat) (s0 : Int32) (s1 : Int32) (σ : nd_Mem) : nd_Res := (nd_bind (f_X11_emits F s1 s0 σ) fun r1 σ2 => (nd_bind (f_X11_reads F σ2) fun r4 σ5 => (some ((0 : Int32), σ5))))
def f_X11_readUnit_53 (F : Nat) (x1 : Int32) (s0 : Int32) (σ : nd_Mem) : nd_Res := (if x1 = 0 then (f_X11_readUnit_71 F (σ 60 13) s0 σ) else (f_X11_readUnit_71 F ((σ 60 13) - (7 : Int32)) s0 σ))
def f_X11_readUnit_43 (F : Nat) (x1 : Int32) (σ : nd_Mem) : nd_Res := (if x1 = 0 then (f_X11_readUnit_53 F x1 (0 : Int32) σ) else (f_X11_readUnit_53 F x1 (1 : Int32) σ))
def f_X11_readUnit_24 (F : Nat) (s0 : Int32) (σ : nd_Mem) : nd_Res := (if s0 = 0 then (if (σ 60 12) = (3 : Int32) then (f_X11_readUnit_43 F s0 σ) else (nd_bind (f_X11_errs F (1 : Int32) σ) fun r1 σ2 => (some (r1, σ2)))) else (f_X11_readUnit_43 F s0 σ))
def f_X11_readUnit_23 (F : Nat) (σ : nd_Mem) : nd_Res := (f_X11_readUnit_24 F (0 : Int32) σ)
def f_X11_readUnit (F : Nat) (σ : nd_Mem) : nd_Res := (if (σ 60 12) = (2 : Int32) then (nd_bind (f_X11_canAsk F (σ 60 13) σ) fun r1 σ2 => (if r1 = 0 then (f_X11_readUnit_23 F σ2) else (f_X11_readUnit_24 F (1 : Int32) σ2))) else (f_X11_readUnit_23 F σ))
set_option maxRecDepth 100000 in
set_option maxHeartbeats 4000000 in
theorem b_X11_readUnit_71 (F : Nat) (t : List nd_S) (hL : (nd_SH ++ t).length < nd_ro) {z : Int32 × nd_Mem} (s0 : Int32) (s1 : Int32) (σ : nd_Mem) (h : f_X11_readUnit_71 F s0 s1 σ = some z) : nd_V M_X11_readUnit (nd_rm 3) (nd_Pi (nd_SH ++ t) z) 0 0 71 [(0, .ref 60)] [.int s0, .int s1, .ref 60] (nd_SH ++ t) σ := by
  unfold f_X11_readUnit_71 at h
  obtain ⟨r1, σ2, hc3, h⟩ := nd_bind_e h
  refine nd_cvv [.int s1, .int s0] [] dX11_readUnit_71 cl_X11_206 (sh_60 t) ⟨Nat.le_of_ble_eq_true rfl, Nat.le_of_ble_eq_true rfl⟩ rfl (Nat.le_of_ble_eq_true rfl) hL (t_X11_emits F t hL _ _ _ hc3) ?_
  refine nd_aload_n dX11_readUnit_74 0 rfl ?_
  obtain ⟨r4, σ5, hc6, h⟩ := nd_bind_e h
  refine nd_cvv [] [] dX11_readUnit_75 cl_X11_210 (sh_60 t) ⟨Nat.le_of_ble_eq_true rfl, Nat.le_of_ble_eq_true rfl⟩ rfl (Nat.le_of_ble_eq_true rfl) hL (t_X11_reads F t hL _ hc6) ?_
  refine nd_iconst dX11_readUnit_78 ic_0 ?_
  exact nd_iret dX11_readUnit_79 (Nat.zero_le _) (Nat.zero_le _) (vp_nar_int _) (by cases h; exact ⟨rfl, rfl, rfl⟩)
set_option maxRecDepth 100000 in
set_option maxHeartbeats 4000000 in
theorem b_X11_readUnit_53 (F : Nat) (t : List nd_S) (hL : (nd_SH ++ t).length < nd_ro) {z : Int32 × nd_Mem} (x1 : Int32) (s0 : Int32) (σ : nd_Mem) (h : f_X11_readUnit_53 F x1 s0 σ = some z) : nd_V M_X11_readUnit (nd_rm 3) (nd_Pi (nd_SH ++ t) z) 0 0 53 [(0, .ref 60), (1, .int x1)] [.int s0, .ref 60] (nd_SH ++ t) σ := by
  unfold f_X11_readUnit_53 at h
  refine nd_iload_n dX11_readUnit_53 1 rfl ?_
  refine nd_if_eqN dX11_readUnit_54 67 (by decide) h (fun h => ?_) (fun h => ?_)
  · refine nd_aload_n dX11_readUnit_67 0 rfl ?_
    refine nd_get dX11_readUnit_68 gf_X11_175 (sh_60 t) rfl ?_
    refine nd_sub [0] rfl ?_
    exact b_X11_readUnit_71 F t hL _ _ _ h
  · refine nd_aload_n dX11_readUnit_57 0 rfl ?_
    refine nd_get dX11_readUnit_58 gf_X11_175 (sh_60 t) rfl ?_
    refine nd_bipush dX11_readUnit_61 ib_7 ?_
    refine nd_isub dX11_readUnit_63 ?_
    refine nd_goto dX11_readUnit_64 71 (by decide) ?_
    refine nd_sub [0] rfl ?_
    exact b_X11_readUnit_71 F t hL _ _ _ h
set_option maxRecDepth 100000 in
set_option maxHeartbeats 4000000 in
theorem b_X11_readUnit_43 (F : Nat) (t : List nd_S) (hL : (nd_SH ++ t).length < nd_ro) {z : Int32 × nd_Mem} (x1 : Int32) (σ : nd_Mem) (h : f_X11_readUnit_43 F x1 σ = some z) : nd_V M_X11_readUnit (nd_rm 3) (nd_Pi (nd_SH ++ t) z) 0 0 43 [(0, .ref 60), (1, .int x1)] [] (nd_SH ++ t) σ := by
  unfold f_X11_readUnit_43 at h
  refine nd_aload_n dX11_readUnit_43 0 rfl ?_
  refine nd_iload_n dX11_readUnit_44 1 rfl ?_
  refine nd_if_eqN dX11_readUnit_45 52 (by decide) h (fun h => ?_) (fun h => ?_)
  · refine nd_iconst dX11_readUnit_52 ic_0 ?_
    exact b_X11_readUnit_53 F t hL _ _ _ h
  · refine nd_iconst dX11_readUnit_48 ic_1 ?_
    refine nd_goto dX11_readUnit_49 53 (by decide) ?_
    exact b_X11_readUnit_53 F t hL _ _ _ h
set_option maxRecDepth 100000 in
set_option maxHeartbeats 4000000 in
theorem b_X11_readUnit_24 (F : Nat) (t : List nd_S) (hL : (nd_SH ++ t).length < nd_ro) {z : Int32 × nd_Mem} (s0 : Int32) (σ : nd_Mem) (h : f_X11_readUnit_24 F s0 σ = some z) : nd_V M_X11_readUnit (nd_rm 3) (nd_Pi (nd_SH ++ t) z) 0 0 24 [(0, .ref 60)] [.int s0] (nd_SH ++ t) σ := by
  unfold f_X11_readUnit_24 at h
  refine nd_istore_n (ls' := [(1, .int s0), (0, .ref 60)]) dX11_readUnit_24 (by decide) rfl ?_
  refine nd_iload_n dX11_readUnit_25 0 rfl ?_
  refine nd_if_neN dX11_readUnit_26 43 (by decide) h (fun h => ?_) (fun h => ?_)
  · refine nd_sub [1, 0] rfl ?_
    exact b_X11_readUnit_43 F t hL _ _ h
  · refine nd_aload_n dX11_readUnit_29 1 rfl ?_
    refine nd_get dX11_readUnit_30 gf_X11_172 (sh_60 t) rfl ?_
    refine nd_iconst dX11_readUnit_33 ic_3 ?_
    refine nd_icmp_eqN dX11_readUnit_34 43 (by decide) h (fun h => ?_) (fun h => ?_)
    · refine nd_sub [1, 0] rfl ?_
      exact b_X11_readUnit_43 F t hL _ _ h
    · refine nd_aload_n dX11_readUnit_37 1 rfl ?_
      refine nd_iconst dX11_readUnit_38 ic_1 ?_
      obtain ⟨r1, σ2, hc3, h⟩ := nd_bind_e h
      refine nd_cvi [.int (1 : Int32)] [] dX11_readUnit_39 cl_X11_203 (sh_60 t) ⟨Nat.le_of_ble_eq_true rfl, Nat.le_of_ble_eq_true rfl⟩ rfl (Nat.le_of_ble_eq_true rfl) hL (t_X11_errs F t hL _ _ hc3) ?_
      exact nd_iret dX11_readUnit_42 (Nat.zero_le _) (Nat.zero_le _) (vp_nar_int _) (by cases h; exact ⟨rfl, rfl, rfl⟩)
set_option maxRecDepth 100000 in
set_option maxHeartbeats 4000000 in
theorem b_X11_readUnit_23 (F : Nat) (t : List nd_S) (hL : (nd_SH ++ t).length < nd_ro) {z : Int32 × nd_Mem} (σ : nd_Mem) (h : f_X11_readUnit_23 F σ = some z) : nd_V M_X11_readUnit (nd_rm 3) (nd_Pi (nd_SH ++ t) z) 0 0 23 [(0, .ref 60)] [] (nd_SH ++ t) σ := by
  unfold f_X11_readUnit_23 at h
  refine nd_iconst dX11_readUnit_23 ic_0 ?_
  exact b_X11_readUnit_24 F t hL _ _ h
set_option maxRecDepth 100000 in
set_option maxHeartbeats 4000000 in
theorem t_X11_readUnit (F : Nat) (t : List nd_S) (hL : (nd_SH ++ t).length < nd_ro) {z : Int32 × nd_Mem} (σ : nd_Mem) (h : f_X11_readUnit F σ = some z) : nd_Fn M_X11_readUnit (nd_rm 3) [.ref 60] (nd_SH ++ t) σ (nd_Pi (nd_SH ++ t) z) := by
  refine nd_Fn.ofV (ls := [(0, .ref 60)]) pl_X11_readUnit rfl (fun _ => Nat.le_of_ble_eq_true rfl) (fun _ => rfl) ?_
  unfold f_X11_readUnit at h
  refine nd_aload_n dX11_readUnit_0 0 rfl ?_
  refine nd_get dX11_readUnit_1 gf_X11_172 (sh_60 t) rfl ?_
  refine nd_iconst dX11_readUnit_4 ic_2 ?_
  refine nd_icmp_neN dX11_readUnit_5 23 (by decide) h (fun h => ?_) (fun h => ?_)
  · exact b_X11_readUnit_23 F t hL _ h
  · refine nd_aload_n dX11_readUnit_8 0 rfl ?_
    refine nd_aload_n dX11_readUnit_9 0 rfl ?_
    refine nd_get dX11_readUnit_10 gf_X11_175 (sh_60 t) rfl ?_
    obtain ⟨r1, σ2, hc3, h⟩ := nd_bind_e h
    refine nd_cvi [.int (σ 60 13)] [] dX11_readUnit_13 cl_X11_200 (sh_60 t) ⟨Nat.le_of_ble_eq_true rfl, Nat.le_of_ble_eq_true rfl⟩ rfl (Nat.le_of_ble_eq_true rfl) hL (t_X11_canAsk F t hL _ _ hc3) ?_
    refine nd_if_eqN dX11_readUnit_16 23 (by decide) h (fun h => ?_) (fun h => ?_)
    · exact b_X11_readUnit_23 F t hL _ h
    · refine nd_iconst dX11_readUnit_19 ic_1 ?_
      refine nd_goto dX11_readUnit_20 24 (by decide) ?_
      exact b_X11_readUnit_24 F t hL _ _ h
def f_X11_bearsOf (F : Nat) (x1 : Int32) (σ : nd_Mem) : nd_Res := (nd_bind (f_X11_asks F x1 σ) fun r1 σ2 => (nd_bind (f_X11_lawTells F (1 : Int32) (2 : Int32) (5 : Int32) σ2) fun r4 σ5 => (some (r4, σ5))))
set_option maxRecDepth 100000 in
set_option maxHeartbeats 4000000 in
theorem t_X11_bearsOf (F : Nat) (t : List nd_S) (hL : (nd_SH ++ t).length < nd_ro) {z : Int32 × nd_Mem} (x1 : Int32) (σ : nd_Mem) (h : f_X11_bearsOf F x1 σ = some z) : nd_Fn M_X11_bearsOf (nd_rm 4) [.ref 60, .int x1] (nd_SH ++ t) σ (nd_Pi (nd_SH ++ t) z) := by
  refine nd_Fn.ofV (ls := [(0, .ref 60), (1, .int x1)]) pl_X11_bearsOf rfl (fun _ => Nat.le_of_ble_eq_true rfl) (fun _ => rfl) ?_
  unfold f_X11_bearsOf at h
  refine nd_aload_n dX11_bearsOf_0 0 rfl ?_
  refine nd_iload_n dX11_bearsOf_1 1 rfl ?_
  obtain ⟨r1, σ2, hc3, h⟩ := nd_bind_e h
  refine nd_cvv [.int x1] [] dX11_bearsOf_2 cl_X11_319 (sh_60 t) ⟨Nat.le_of_ble_eq_true rfl, Nat.le_of_ble_eq_true rfl⟩ rfl (Nat.le_of_ble_eq_true rfl) hL (t_X11_asks F t hL _ _ hc3) ?_
  refine nd_aload_n dX11_bearsOf_5 0 rfl ?_
  refine nd_iconst dX11_bearsOf_6 ic_1 ?_
  refine nd_iconst dX11_bearsOf_7 ic_2 ?_
  refine nd_iconst dX11_bearsOf_8 ic_5 ?_
  obtain ⟨r4, σ5, hc6, h⟩ := nd_bind_e h
  refine nd_cvi [.int (1 : Int32), .int (2 : Int32), .int (5 : Int32)] [] dX11_bearsOf_9 cl_X11_322 (sh_60 t) ⟨Nat.le_of_ble_eq_true rfl, Nat.le_of_ble_eq_true rfl⟩ rfl (Nat.le_of_ble_eq_true rfl) hL (t_X11_lawTells F t hL _ _ _ _ hc6) ?_
  exact nd_iret dX11_bearsOf_12 (Nat.zero_le _) (Nat.zero_le _) (vp_nar_int _) (by cases h; exact ⟨rfl, rfl, rfl⟩)
def f_X11_bringsOf (F : Nat) (x1 : Int32) (σ : nd_Mem) : nd_Res := (nd_bind (f_X11_asks F x1 σ) fun r1 σ2 => (if (3 : Int32) < 0 ∨ 10 ≤ ((3 : Int32)).toNatClampNeg then none else (if (3 : Int32) < 0 ∨ 10 ≤ ((3 : Int32)).toNatClampNeg then none else (nd_bind (f_X11_lawTells F (2 : Int32) ((σ2 78 ((3 : Int32)).toNatClampNeg) >>> ((1 : Int32) &&& 31)) (σ2 78 ((3 : Int32)).toNatClampNeg) σ2) fun r4 σ5 => (some (r4, σ5))))))
set_option maxRecDepth 100000 in
set_option maxHeartbeats 4000000 in
theorem t_X11_bringsOf (F : Nat) (t : List nd_S) (hL : (nd_SH ++ t).length < nd_ro) {z : Int32 × nd_Mem} (x1 : Int32) (σ : nd_Mem) (h : f_X11_bringsOf F x1 σ = some z) : nd_Fn M_X11_bringsOf (nd_rm 4) [.ref 60, .int x1] (nd_SH ++ t) σ (nd_Pi (nd_SH ++ t) z) := by
  refine nd_Fn.ofV (ls := [(0, .ref 60), (1, .int x1)]) pl_X11_bringsOf rfl (fun _ => Nat.le_of_ble_eq_true rfl) (fun _ => rfl) ?_
  unfold f_X11_bringsOf at h
  refine nd_aload_n dX11_bringsOf_0 0 rfl ?_
  refine nd_iload_n dX11_bringsOf_1 1 rfl ?_
  obtain ⟨r1, σ2, hc3, h⟩ := nd_bind_e h
  refine nd_cvv [.int x1] [] dX11_bringsOf_2 cl_X11_319 (sh_60 t) ⟨Nat.le_of_ble_eq_true rfl, Nat.le_of_ble_eq_true rfl⟩ rfl (Nat.le_of_ble_eq_true rfl) hL (t_X11_asks F t hL _ _ hc3) ?_
  refine nd_aload_n dX11_bringsOf_5 0 rfl ?_
  refine nd_iconst dX11_bringsOf_6 ic_2 ?_
  refine nd_aload_n dX11_bringsOf_7 0 rfl ?_
  refine nd_get dX11_bringsOf_8 gf_X11_65 (sh_60 t) rfl ?_
  refine nd_iconst dX11_bringsOf_11 ic_3 ?_
  refine nd_ialoadN dX11_bringsOf_12 (sh_78 t) h (fun h => ?_)
  refine nd_iconst dX11_bringsOf_13 ic_1 ?_
  refine nd_ishr dX11_bringsOf_14 ?_
  refine nd_aload_n dX11_bringsOf_15 0 rfl ?_
  refine nd_get dX11_bringsOf_16 gf_X11_65 (sh_60 t) rfl ?_
  refine nd_iconst dX11_bringsOf_19 ic_3 ?_
  refine nd_ialoadN dX11_bringsOf_20 (sh_78 t) h (fun h => ?_)
  obtain ⟨r4, σ5, hc6, h⟩ := nd_bind_e h
  refine nd_cvi [.int (2 : Int32), .int ((σ2 78 ((3 : Int32)).toNatClampNeg) >>> ((1 : Int32) &&& 31)), .int (σ2 78 ((3 : Int32)).toNatClampNeg)] [] dX11_bringsOf_21 cl_X11_322 (sh_60 t) ⟨Nat.le_of_ble_eq_true rfl, Nat.le_of_ble_eq_true rfl⟩ rfl (Nat.le_of_ble_eq_true rfl) hL (t_X11_lawTells F t hL _ _ _ _ hc6) ?_
  exact nd_iret dX11_bringsOf_24 (Nat.zero_le _) (Nat.zero_le _) (vp_nar_int _) (by cases h; exact ⟨rfl, rfl, rfl⟩)
def f_X11_goesOf (F : Nat) (x1 : Int32) (σ : nd_Mem) : nd_Res := (nd_bind (f_X11_asks F x1 σ) fun r1 σ2 => (if (8 : Int32) < 0 ∨ 10 ≤ ((8 : Int32)).toNatClampNeg then none else (nd_bind (f_X11_lawTells F (0 : Int32) ((800 : Int32) - ((100 : Int32) * (σ2 78 ((8 : Int32)).toNatClampNeg))) (1000 : Int32) σ2) fun r4 σ5 => (some (r4, σ5)))))
set_option maxRecDepth 100000 in
set_option maxHeartbeats 4000000 in
theorem t_X11_goesOf (F : Nat) (t : List nd_S) (hL : (nd_SH ++ t).length < nd_ro) {z : Int32 × nd_Mem} (x1 : Int32) (σ : nd_Mem) (h : f_X11_goesOf F x1 σ = some z) : nd_Fn M_X11_goesOf (nd_rm 4) [.ref 60, .int x1] (nd_SH ++ t) σ (nd_Pi (nd_SH ++ t) z) := by
  refine nd_Fn.ofV (ls := [(0, .ref 60), (1, .int x1)]) pl_X11_goesOf rfl (fun _ => Nat.le_of_ble_eq_true rfl) (fun _ => rfl) ?_
  unfold f_X11_goesOf at h
  refine nd_aload_n dX11_goesOf_0 0 rfl ?_
  refine nd_iload_n dX11_goesOf_1 1 rfl ?_
  obtain ⟨r1, σ2, hc3, h⟩ := nd_bind_e h
  refine nd_cvv [.int x1] [] dX11_goesOf_2 cl_X11_319 (sh_60 t) ⟨Nat.le_of_ble_eq_true rfl, Nat.le_of_ble_eq_true rfl⟩ rfl (Nat.le_of_ble_eq_true rfl) hL (t_X11_asks F t hL _ _ hc3) ?_
  refine nd_aload_n dX11_goesOf_5 0 rfl ?_
  refine nd_iconst dX11_goesOf_6 ic_0 ?_
  refine nd_sipush dX11_goesOf_7 is_800 ?_
  refine nd_bipush dX11_goesOf_10 ib_100 ?_
  refine nd_aload_n dX11_goesOf_12 0 rfl ?_
  refine nd_get dX11_goesOf_13 gf_X11_65 (sh_60 t) rfl ?_
  refine nd_bipush dX11_goesOf_16 ib_8 ?_
  refine nd_ialoadN dX11_goesOf_18 (sh_78 t) h (fun h => ?_)
  refine nd_imul dX11_goesOf_19 ?_
  refine nd_isub dX11_goesOf_20 ?_
  refine nd_sipush dX11_goesOf_21 is_1000 ?_
  obtain ⟨r4, σ5, hc6, h⟩ := nd_bind_e h
  refine nd_cvi [.int (0 : Int32), .int ((800 : Int32) - ((100 : Int32) * (σ2 78 ((8 : Int32)).toNatClampNeg))), .int (1000 : Int32)] [] dX11_goesOf_24 cl_X11_322 (sh_60 t) ⟨Nat.le_of_ble_eq_true rfl, Nat.le_of_ble_eq_true rfl⟩ rfl (Nat.le_of_ble_eq_true rfl) hL (t_X11_lawTells F t hL _ _ _ _ hc6) ?_
  exact nd_iret dX11_goesOf_27 (Nat.zero_le _) (Nat.zero_le _) (vp_nar_int _) (by cases h; exact ⟨rfl, rfl, rfl⟩)
def f_X11_readProduct_94 (F : Nat) (rec10 : nd_Mem → nd_Res) (s0 : Int32) (σ : nd_Mem) : nd_Res := (nd_bind (f_X11_emits F s0 (0 : Int32) σ) fun r1 σ2 => (rec10 σ2))
def f_X11_readProduct_74 (F : Nat) (rec10 : nd_Mem → nd_Res) (x1 : Int32) (σ : nd_Mem) : nd_Res := (nd_bind (f_X11_readUnit F σ) fun r1 σ2 => (if r1 = (-1 : Int32) then (some ((-1 : Int32), σ2)) else (if x1 = 0 then (f_X11_readProduct_94 F rec10 (5 : Int32) σ2) else (f_X11_readProduct_94 F rec10 (4 : Int32) σ2))))
def f_X11_readProduct_57 (F : Nat) (rec10 : nd_Mem → nd_Res) (x1 : Int32) (σ : nd_Mem) : nd_Res := (if x1 = 0 then (if (σ 60 13) = 0 then (nd_bind (f_X11_errs F (2 : Int32) σ) fun r1 σ2 => (some (r1, σ2))) else (f_X11_readProduct_74 F rec10 x1 σ)) else (f_X11_readProduct_74 F rec10 x1 σ))
def f_X11_readProduct_28 (F : Nat) (rec10 : nd_Mem → nd_Res) (σ : nd_Mem) : nd_Res := (nd_bind (f_X11_isSign F (42 : Int32) σ) fun r1 σ2 => (nd_bind (f_X11_reads F σ2) fun r4 σ5 => (if r1 = 0 then (if (σ5 60 12) = (3 : Int32) then (f_X11_readProduct_57 F rec10 r1 σ5) else (nd_bind (f_X11_errs F (1 : Int32) σ5) fun r7 σ8 => (some (r7, σ8)))) else (f_X11_readProduct_57 F rec10 r1 σ5))))
def f_X11_readProduct_10_b (F : Nat) (rec10 : nd_Mem → nd_Res) (σ : nd_Mem) : nd_Res := (nd_bind (f_X11_isSign F (42 : Int32) σ) fun r1 σ2 => (if r1 = 0 then (nd_bind (f_X11_isSign F (47 : Int32) σ2) fun r4 σ5 => (if r4 = 0 then (some ((0 : Int32), σ5)) else (f_X11_readProduct_28 F rec10 σ5))) else (f_X11_readProduct_28 F rec10 σ2)))
def f_X11_readProduct_10 (F : Nat) : Nat → nd_Mem → nd_Res
  | 0, _ => none
  | m9 + 1, σ => f_X11_readProduct_10_b F (f_X11_readProduct_10 F m9) σ
def f_X11_readProduct (F : Nat) (σ : nd_Mem) : nd_Res := (nd_bind (f_X11_readUnit F σ) fun r1 σ2 => (if r1 = (-1 : Int32) then (some ((-1 : Int32), σ2)) else (f_X11_readProduct_10 F F σ2)))
set_option maxRecDepth 100000 in
set_option maxHeartbeats 4000000 in
theorem b_X11_readProduct_94 (F : Nat) (rec10 : nd_Mem → nd_Res) (t : List nd_S) (hL : (nd_SH ++ t).length < nd_ro) {z : Int32 × nd_Mem} (hrec10 : ∀ (σ : nd_Mem), rec10 σ = some z → nd_V M_X11_readProduct (nd_rm 4) (nd_Pi (nd_SH ++ t) z) 0 0 10 [(0, .ref 60)] [] (nd_SH ++ t) σ) (s0 : Int32) (σ : nd_Mem) (h : f_X11_readProduct_94 F rec10 s0 σ = some z) : nd_V M_X11_readProduct (nd_rm 4) (nd_Pi (nd_SH ++ t) z) 0 0 94 [(0, .ref 60)] [.int s0, .ref 60] (nd_SH ++ t) σ := by
  unfold f_X11_readProduct_94 at h
  refine nd_iconst dX11_readProduct_94 ic_0 ?_
  obtain ⟨r1, σ2, hc3, h⟩ := nd_bind_e h
  refine nd_cvv [.int s0, .int (0 : Int32)] [] dX11_readProduct_95 cl_X11_206 (sh_60 t) ⟨Nat.le_of_ble_eq_true rfl, Nat.le_of_ble_eq_true rfl⟩ rfl (Nat.le_of_ble_eq_true rfl) hL (t_X11_emits F t hL _ _ _ hc3) ?_
  refine nd_goto dX11_readProduct_98 10 (by decide) ?_
  exact hrec10 _ h
set_option maxRecDepth 100000 in
set_option maxHeartbeats 4000000 in
theorem b_X11_readProduct_74 (F : Nat) (rec10 : nd_Mem → nd_Res) (t : List nd_S) (hL : (nd_SH ++ t).length < nd_ro) {z : Int32 × nd_Mem} (hrec10 : ∀ (σ : nd_Mem), rec10 σ = some z → nd_V M_X11_readProduct (nd_rm 4) (nd_Pi (nd_SH ++ t) z) 0 0 10 [(0, .ref 60)] [] (nd_SH ++ t) σ) (x1 : Int32) (σ : nd_Mem) (h : f_X11_readProduct_74 F rec10 x1 σ = some z) : nd_V M_X11_readProduct (nd_rm 4) (nd_Pi (nd_SH ++ t) z) 0 0 74 [(0, .ref 60), (1, .int x1)] [] (nd_SH ++ t) σ := by
  unfold f_X11_readProduct_74 at h
  refine nd_aload_n dX11_readProduct_74 0 rfl ?_
  obtain ⟨r1, σ2, hc3, h⟩ := nd_bind_e h
  refine nd_cvi [] [] dX11_readProduct_75 cl_X11_213 (sh_60 t) ⟨Nat.le_of_ble_eq_true rfl, Nat.le_of_ble_eq_true rfl⟩ rfl (Nat.le_of_ble_eq_true rfl) hL (t_X11_readUnit F t hL _ hc3) ?_
  refine nd_iconst dX11_readProduct_78 ic_m1 ?_
  refine nd_icmp_neN dX11_readProduct_79 84 (by decide) h (fun h => ?_) (fun h => ?_)
  · refine nd_aload_n dX11_readProduct_84 0 rfl ?_
    refine nd_iload_n dX11_readProduct_85 1 rfl ?_
    refine nd_if_eqN dX11_readProduct_86 93 (by decide) h (fun h => ?_) (fun h => ?_)
    · refine nd_iconst dX11_readProduct_93 ic_5 ?_
      refine nd_sub [0] rfl ?_
      exact b_X11_readProduct_94 F _ t hL hrec10 _ _ h
    · refine nd_iconst dX11_readProduct_89 ic_4 ?_
      refine nd_goto dX11_readProduct_90 94 (by decide) ?_
      refine nd_sub [0] rfl ?_
      exact b_X11_readProduct_94 F _ t hL hrec10 _ _ h
  · refine nd_iconst dX11_readProduct_82 ic_m1 ?_
    exact nd_iret dX11_readProduct_83 (Nat.zero_le _) (Nat.zero_le _) (vp_nar_int _) (by cases h; exact ⟨rfl, rfl, rfl⟩)
set_option maxRecDepth 100000 in
set_option maxHeartbeats 4000000 in
theorem b_X11_readProduct_57 (F : Nat) (rec10 : nd_Mem → nd_Res) (t : List nd_S) (hL : (nd_SH ++ t).length < nd_ro) {z : Int32 × nd_Mem} (hrec10 : ∀ (σ : nd_Mem), rec10 σ = some z → nd_V M_X11_readProduct (nd_rm 4) (nd_Pi (nd_SH ++ t) z) 0 0 10 [(0, .ref 60)] [] (nd_SH ++ t) σ) (x1 : Int32) (σ : nd_Mem) (h : f_X11_readProduct_57 F rec10 x1 σ = some z) : nd_V M_X11_readProduct (nd_rm 4) (nd_Pi (nd_SH ++ t) z) 0 0 57 [(0, .ref 60), (1, .int x1)] [] (nd_SH ++ t) σ := by
  unfold f_X11_readProduct_57 at h
  refine nd_iload_n dX11_readProduct_57 1 rfl ?_
  refine nd_if_neN dX11_readProduct_58 74 (by decide) h (fun h => ?_) (fun h => ?_)
  · exact b_X11_readProduct_74 F _ t hL hrec10 _ _ h
  · refine nd_aload_n dX11_readProduct_61 0 rfl ?_
    refine nd_get dX11_readProduct_62 gf_X11_175 (sh_60 t) rfl ?_
    refine nd_if_neN dX11_readProduct_65 74 (by decide) h (fun h => ?_) (fun h => ?_)
    · exact b_X11_readProduct_74 F _ t hL hrec10 _ _ h
    · refine nd_aload_n dX11_readProduct_68 0 rfl ?_
      refine nd_iconst dX11_readProduct_69 ic_2 ?_
      obtain ⟨r1, σ2, hc3, h⟩ := nd_bind_e h
      refine nd_cvi [.int (2 : Int32)] [] dX11_readProduct_70 cl_X11_203 (sh_60 t) ⟨Nat.le_of_ble_eq_true rfl, Nat.le_of_ble_eq_true rfl⟩ rfl (Nat.le_of_ble_eq_true rfl) hL (t_X11_errs F t hL _ _ hc3) ?_
      exact nd_iret dX11_readProduct_73 (Nat.zero_le _) (Nat.zero_le _) (vp_nar_int _) (by cases h; exact ⟨rfl, rfl, rfl⟩)
set_option maxRecDepth 100000 in
set_option maxHeartbeats 4000000 in
theorem b_X11_readProduct_28 (F : Nat) (rec10 : nd_Mem → nd_Res) (t : List nd_S) (hL : (nd_SH ++ t).length < nd_ro) {z : Int32 × nd_Mem} (hrec10 : ∀ (σ : nd_Mem), rec10 σ = some z → nd_V M_X11_readProduct (nd_rm 4) (nd_Pi (nd_SH ++ t) z) 0 0 10 [(0, .ref 60)] [] (nd_SH ++ t) σ) (σ : nd_Mem) (h : f_X11_readProduct_28 F rec10 σ = some z) : nd_V M_X11_readProduct (nd_rm 4) (nd_Pi (nd_SH ++ t) z) 0 0 28 [(0, .ref 60)] [] (nd_SH ++ t) σ := by
  unfold f_X11_readProduct_28 at h
  refine nd_aload_n dX11_readProduct_28 0 rfl ?_
  refine nd_bipush dX11_readProduct_29 ib_42 ?_
  obtain ⟨r1, σ2, hc3, h⟩ := nd_bind_e h
  refine nd_cvi [.int (42 : Int32)] [] dX11_readProduct_31 cl_X11_217 (sh_60 t) ⟨Nat.le_of_ble_eq_true rfl, Nat.le_of_ble_eq_true rfl⟩ rfl (Nat.le_of_ble_eq_true rfl) hL (t_X11_isSign F t hL _ _ hc3) ?_
  refine nd_istore_n (ls' := [(1, .int r1), (0, .ref 60)]) dX11_readProduct_34 (by decide) rfl ?_
  refine nd_aload_n dX11_readProduct_35 1 rfl ?_
  obtain ⟨r4, σ5, hc6, h⟩ := nd_bind_e h
  refine nd_cvv [] [] dX11_readProduct_36 cl_X11_210 (sh_60 t) ⟨Nat.le_of_ble_eq_true rfl, Nat.le_of_ble_eq_true rfl⟩ rfl (Nat.le_of_ble_eq_true rfl) hL (t_X11_reads F t hL _ hc6) ?_
  refine nd_iload_n dX11_readProduct_39 0 rfl ?_
  refine nd_if_neN dX11_readProduct_40 57 (by decide) h (fun h => ?_) (fun h => ?_)
  · refine nd_sub [1, 0] rfl ?_
    exact b_X11_readProduct_57 F _ t hL hrec10 _ _ h
  · refine nd_aload_n dX11_readProduct_43 1 rfl ?_
    refine nd_get dX11_readProduct_44 gf_X11_172 (sh_60 t) rfl ?_
    refine nd_iconst dX11_readProduct_47 ic_3 ?_
    refine nd_icmp_eqN dX11_readProduct_48 57 (by decide) h (fun h => ?_) (fun h => ?_)
    · refine nd_sub [1, 0] rfl ?_
      exact b_X11_readProduct_57 F _ t hL hrec10 _ _ h
    · refine nd_aload_n dX11_readProduct_51 1 rfl ?_
      refine nd_iconst dX11_readProduct_52 ic_1 ?_
      obtain ⟨r7, σ8, hc9, h⟩ := nd_bind_e h
      refine nd_cvi [.int (1 : Int32)] [] dX11_readProduct_53 cl_X11_203 (sh_60 t) ⟨Nat.le_of_ble_eq_true rfl, Nat.le_of_ble_eq_true rfl⟩ rfl (Nat.le_of_ble_eq_true rfl) hL (t_X11_errs F t hL _ _ hc9) ?_
      exact nd_iret dX11_readProduct_56 (Nat.zero_le _) (Nat.zero_le _) (vp_nar_int _) (by cases h; exact ⟨rfl, rfl, rfl⟩)
set_option maxRecDepth 100000 in
set_option maxHeartbeats 4000000 in
theorem b_X11_readProduct_10 (F : Nat) (t : List nd_S) (hL : (nd_SH ++ t).length < nd_ro) {z : Int32 × nd_Mem} (m9 : Nat) : ∀ (σ : nd_Mem), f_X11_readProduct_10 F m9 σ = some z → nd_V M_X11_readProduct (nd_rm 4) (nd_Pi (nd_SH ++ t) z) 0 0 10 [(0, .ref 60)] [] (nd_SH ++ t) σ := by
  induction m9 with
  | zero =>
    intro σ h
    have h : none = some z := h
    cases h
  | succ m9 hrec10 =>
    intro σ h
    have h : f_X11_readProduct_10_b F (f_X11_readProduct_10 F m9) σ = some z := h
    unfold f_X11_readProduct_10_b at h
    refine nd_aload_n dX11_readProduct_10 0 rfl ?_
    refine nd_bipush dX11_readProduct_11 ib_42 ?_
    obtain ⟨r1, σ2, hc3, h⟩ := nd_bind_e h
    refine nd_cvi [.int (42 : Int32)] [] dX11_readProduct_13 cl_X11_217 (sh_60 t) ⟨Nat.le_of_ble_eq_true rfl, Nat.le_of_ble_eq_true rfl⟩ rfl (Nat.le_of_ble_eq_true rfl) hL (t_X11_isSign F t hL _ _ hc3) ?_
    refine nd_if_neN dX11_readProduct_16 28 (by decide) h (fun h => ?_) (fun h => ?_)
    · exact b_X11_readProduct_28 F _ t hL hrec10 _ h
    · refine nd_aload_n dX11_readProduct_19 0 rfl ?_
      refine nd_bipush dX11_readProduct_20 ib_47 ?_
      obtain ⟨r4, σ5, hc6, h⟩ := nd_bind_e h
      refine nd_cvi [.int (47 : Int32)] [] dX11_readProduct_22 cl_X11_217 (sh_60 t) ⟨Nat.le_of_ble_eq_true rfl, Nat.le_of_ble_eq_true rfl⟩ rfl (Nat.le_of_ble_eq_true rfl) hL (t_X11_isSign F t hL _ _ hc6) ?_
      refine nd_if_eqN dX11_readProduct_25 101 (by decide) h (fun h => ?_) (fun h => ?_)
      · refine nd_iconst dX11_readProduct_101 ic_0 ?_
        exact nd_iret dX11_readProduct_102 (Nat.zero_le _) (Nat.zero_le _) (vp_nar_int _) (by cases h; exact ⟨rfl, rfl, rfl⟩)
      · exact b_X11_readProduct_28 F _ t hL hrec10 _ h
set_option maxRecDepth 100000 in
set_option maxHeartbeats 4000000 in
theorem t_X11_readProduct (F : Nat) (t : List nd_S) (hL : (nd_SH ++ t).length < nd_ro) {z : Int32 × nd_Mem} (σ : nd_Mem) (h : f_X11_readProduct F σ = some z) : nd_Fn M_X11_readProduct (nd_rm 4) [.ref 60] (nd_SH ++ t) σ (nd_Pi (nd_SH ++ t) z) := by
  refine nd_Fn.ofV (ls := [(0, .ref 60)]) pl_X11_readProduct rfl (fun _ => Nat.le_of_ble_eq_true rfl) (fun _ => rfl) ?_
  unfold f_X11_readProduct at h
  refine nd_aload_n dX11_readProduct_0 0 rfl ?_
  obtain ⟨r1, σ2, hc3, h⟩ := nd_bind_e h
  refine nd_cvi [] [] dX11_readProduct_1 cl_X11_213 (sh_60 t) ⟨Nat.le_of_ble_eq_true rfl, Nat.le_of_ble_eq_true rfl⟩ rfl (Nat.le_of_ble_eq_true rfl) hL (t_X11_readUnit F t hL _ hc3) ?_
  refine nd_iconst dX11_readProduct_4 ic_m1 ?_
  refine nd_icmp_neN dX11_readProduct_5 10 (by decide) h (fun h => ?_) (fun h => ?_)
  · exact b_X11_readProduct_10 F t hL F _ h
  · refine nd_iconst dX11_readProduct_8 ic_m1 ?_
    exact nd_iret dX11_readProduct_9 (Nat.zero_le _) (Nat.zero_le _) (vp_nar_int _) (by cases h; exact ⟨rfl, rfl, rfl⟩)
def f_X11_readTold (F : Nat) (x1 : Int32) (x2 : Int32) (x3 : Int32) (σ : nd_Mem) : nd_Res := (nd_bind (f_X11_isWord F x1 σ) fun r1 σ2 => (if r1 = 0 then (nd_bind (f_X11_errs F (1 : Int32) σ2) fun r10 σ11 => (some (r10, σ11))) else (nd_bind (f_X11_reads F σ2) fun r4 σ5 => (nd_bind (f_X11_readNumber F x2 x3 σ5) fun r7 σ8 => (some (r7, σ8))))))
set_option maxRecDepth 100000 in
set_option maxHeartbeats 4000000 in
theorem t_X11_readTold (F : Nat) (t : List nd_S) (hL : (nd_SH ++ t).length < nd_ro) {z : Int32 × nd_Mem} (x1 : Int32) (x2 : Int32) (x3 : Int32) (σ : nd_Mem) (h : f_X11_readTold F x1 x2 x3 σ = some z) : nd_Fn M_X11_readTold (nd_rm 4) [.ref 60, .int x1, .int x2, .int x3] (nd_SH ++ t) σ (nd_Pi (nd_SH ++ t) z) := by
  refine nd_Fn.ofV (ls := [(0, .ref 60), (1, .int x1), (2, .int x2), (3, .int x3)]) pl_X11_readTold rfl (fun _ => Nat.le_of_ble_eq_true rfl) (fun _ => rfl) ?_
  unfold f_X11_readTold at h
  refine nd_aload_n dX11_readTold_0 0 rfl ?_
  refine nd_iload_n dX11_readTold_1 1 rfl ?_
  obtain ⟨r1, σ2, hc3, h⟩ := nd_bind_e h
  refine nd_cvi [.int x1] [] dX11_readTold_2 cl_X11_232 (sh_60 t) ⟨Nat.le_of_ble_eq_true rfl, Nat.le_of_ble_eq_true rfl⟩ rfl (Nat.le_of_ble_eq_true rfl) hL (t_X11_isWord F t hL _ _ hc3) ?_
  refine nd_if_neN dX11_readTold_5 14 (by decide) h (fun h => ?_) (fun h => ?_)
  · refine nd_aload_n dX11_readTold_14 0 rfl ?_
    obtain ⟨r4, σ5, hc6, h⟩ := nd_bind_e h
    refine nd_cvv [] [] dX11_readTold_15 cl_X11_210 (sh_60 t) ⟨Nat.le_of_ble_eq_true rfl, Nat.le_of_ble_eq_true rfl⟩ rfl (Nat.le_of_ble_eq_true rfl) hL (t_X11_reads F t hL _ hc6) ?_
    refine nd_aload_n dX11_readTold_18 0 rfl ?_
    refine nd_iload_n dX11_readTold_19 2 rfl ?_
    refine nd_iload_n dX11_readTold_20 3 rfl ?_
    obtain ⟨r7, σ8, hc9, h⟩ := nd_bind_e h
    refine nd_cvi [.int x2, .int x3] [] dX11_readTold_21 cl_X11_254 (sh_60 t) ⟨Nat.le_of_ble_eq_true rfl, Nat.le_of_ble_eq_true rfl⟩ rfl (Nat.le_of_ble_eq_true rfl) hL (t_X11_readNumber F t hL _ _ _ hc9) ?_
    exact nd_iret dX11_readTold_24 (Nat.zero_le _) (Nat.zero_le _) (vp_nar_int _) (by cases h; exact ⟨rfl, rfl, rfl⟩)
  · refine nd_aload_n dX11_readTold_8 0 rfl ?_
    refine nd_iconst dX11_readTold_9 ic_1 ?_
    obtain ⟨r10, σ11, hc12, h⟩ := nd_bind_e h
    refine nd_cvi [.int (1 : Int32)] [] dX11_readTold_10 cl_X11_203 (sh_60 t) ⟨Nat.le_of_ble_eq_true rfl, Nat.le_of_ble_eq_true rfl⟩ rfl (Nat.le_of_ble_eq_true rfl) hL (t_X11_errs F t hL _ _ hc12) ?_
    exact nd_iret dX11_readTold_13 (Nat.zero_le _) (Nat.zero_le _) (vp_nar_int _) (by cases h; exact ⟨rfl, rfl, rfl⟩)
def f_X11_childrenOf_107 (F : Nat) (rec15 : Int32 → Int32 → Int32 → Int32 → nd_Mem → nd_Res) (rec27 : Int32 → Int32 → Int32 → Int32 → Int32 → nd_Mem → nd_Res) (x1 : Int32) (x2 : Int32) (x3 : Int32) (x4 : Int32) (x5 : Int32) (σ : nd_Mem) : nd_Res := (rec27 x1 x2 x3 x4 (x5 + (-1 : Int32)) σ)
def f_X11_childrenOf_68 (F : Nat) (rec15 : Int32 → Int32 → Int32 → Int32 → nd_Mem → nd_Res) (rec27 : Int32 → Int32 → Int32 → Int32 → Int32 → nd_Mem → nd_Res) (x1 : Int32) (x2 : Int32) (x3 : Int32) (x4 : Int32) (x5 : Int32) (s0 : Int32) (σ : nd_Mem) : nd_Res := (if (s0 + x1) < 0 ∨ 103 ≤ ((s0 + x1)).toNatClampNeg then none else (if (σ 61 ((s0 + x1)).toNatClampNeg) = (9 : Int32) then (f_X11_childrenOf_107 F rec15 rec27 x1 x2 x3 x4 x5 σ) else (if (s0 + x1) < 0 ∨ 103 ≤ ((s0 + x1)).toNatClampNeg then none else (if (s0 + x1) < 0 ∨ 103 ≤ ((s0 + x1)).toNatClampNeg then none else (nd_let (nd_up σ 61 ((s0 + x1)).toNatClampNeg ((σ 61 ((s0 + x1)).toNatClampNeg) + (1 : Int32))) fun σ1 => (f_X11_childrenOf_107 F rec15 rec27 x1 (x2 + (1 : Int32)) x3 x4 x5 σ1))))))
def f_X11_childrenOf_50 (F : Nat) (rec15 : Int32 → Int32 → Int32 → Int32 → nd_Mem → nd_Res) (rec27 : Int32 → Int32 → Int32 → Int32 → Int32 → nd_Mem → nd_Res) (x1 : Int32) (x2 : Int32) (x3 : Int32) (x4 : Int32) (x5 : Int32) (s0 : Int32) (σ : nd_Mem) : nd_Res := (if s0 = 0 then (f_X11_childrenOf_68 F rec15 rec27 x1 x2 (x3 + (1 : Int32)) x4 x5 (7 : Int32) σ) else (f_X11_childrenOf_68 F rec15 rec27 x1 x2 (x3 + (1 : Int32)) x4 x5 (23 : Int32) σ))
def f_X11_childrenOf_27_b (F : Nat) (rec15 : Int32 → Int32 → Int32 → Int32 → nd_Mem → nd_Res) (rec27 : Int32 → Int32 → Int32 → Int32 → Int32 → nd_Mem → nd_Res) (x1 : Int32) (x2 : Int32) (x3 : Int32) (x4 : Int32) (x5 : Int32) (σ : nd_Mem) : nd_Res := (if x5 ≤ 0 then (rec15 x1 x2 x3 (x4 + (-1 : Int32)) σ) else (if (σ 60 5) = 0 then (nd_bind (f_X11_draw F (2 : Int32) σ) fun r1 σ2 => (f_X11_childrenOf_50 F rec15 rec27 x1 x2 x3 x4 x5 r1 σ2)) else (f_X11_childrenOf_50 F rec15 rec27 x1 x2 x3 x4 x5 (q_rem x3 (2 : Int32)) σ)))
def f_X11_childrenOf_27 (F : Nat) (rec15 : Int32 → Int32 → Int32 → Int32 → nd_Mem → nd_Res) : Nat → Int32 → Int32 → Int32 → Int32 → Int32 → nd_Mem → nd_Res
  | 0, _, _, _, _, _, _ => none
  | m9 + 1, x1, x2, x3, x4, x5, σ => f_X11_childrenOf_27_b F rec15 (f_X11_childrenOf_27 F rec15 m9) x1 x2 x3 x4 x5 σ
def f_X11_childrenOf_15_b (F : Nat) (rec15 : Int32 → Int32 → Int32 → Int32 → nd_Mem → nd_Res) (x1 : Int32) (x2 : Int32) (x3 : Int32) (x4 : Int32) (σ : nd_Mem) : nd_Res := (if x4 ≤ 0 then (if ((39 : Int32) + x1) < 0 ∨ 103 ≤ (((39 : Int32) + x1)).toNatClampNeg then none else (nd_let (nd_up σ 61 (((39 : Int32) + x1)).toNatClampNeg (0 : Int32)) fun σ1 => (if x2 ≤ 0 then (some (0, σ1)) else (nd_bind (f_X11_notes F (3 : Int32) x1 x2 σ1) fun r2 σ3 => (some (0, σ3)))))) else (nd_bind (f_X11_bearsOf F x1 σ) fun r5 σ6 => (f_X11_childrenOf_27 F rec15 F x1 x2 x3 x4 r5 σ6)))
def f_X11_childrenOf_15 (F : Nat) : Nat → Int32 → Int32 → Int32 → Int32 → nd_Mem → nd_Res
  | 0, _, _, _, _, _ => none
  | m9 + 1, x1, x2, x3, x4, σ => f_X11_childrenOf_15_b F (f_X11_childrenOf_15 F m9) x1 x2 x3 x4 σ
def f_X11_childrenOf (F : Nat) (x1 : Int32) (σ : nd_Mem) : nd_Res := (if ((39 : Int32) + x1) < 0 ∨ 103 ≤ (((39 : Int32) + x1)).toNatClampNeg then none else (f_X11_childrenOf_15 F F x1 (0 : Int32) (0 : Int32) (σ 61 (((39 : Int32) + x1)).toNatClampNeg) σ))
set_option maxRecDepth 100000 in
set_option maxHeartbeats 4000000 in
theorem b_X11_childrenOf_107 (F : Nat) (rec15 : Int32 → Int32 → Int32 → Int32 → nd_Mem → nd_Res) (rec27 : Int32 → Int32 → Int32 → Int32 → Int32 → nd_Mem → nd_Res) (t : List nd_S) (hL : (nd_SH ++ t).length < nd_ro) {z : Int32 × nd_Mem} (hrec15 : ∀ (x1 : Int32) (x2 : Int32) (x3 : Int32) (x4 : Int32) (σ : nd_Mem), rec15 x1 x2 x3 x4 σ = some z → nd_V M_X11_childrenOf (nd_rm 5) (nd_Pv (nd_SH ++ t) z) 0 0 15 [(0, .ref 60), (1, .int x1), (2, .int x2), (3, .int x3), (4, .int x4)] [] (nd_SH ++ t) σ) (hrec27 : ∀ (x1 : Int32) (x2 : Int32) (x3 : Int32) (x4 : Int32) (x5 : Int32) (σ : nd_Mem), rec27 x1 x2 x3 x4 x5 σ = some z → nd_V M_X11_childrenOf (nd_rm 5) (nd_Pv (nd_SH ++ t) z) 0 0 27 [(0, .ref 60), (1, .int x1), (2, .int x2), (3, .int x3), (4, .int x4), (5, .int x5)] [] (nd_SH ++ t) σ) (x1 : Int32) (x2 : Int32) (x3 : Int32) (x4 : Int32) (x5 : Int32) (σ : nd_Mem) (h : f_X11_childrenOf_107 F rec15 rec27 x1 x2 x3 x4 x5 σ = some z) : nd_V M_X11_childrenOf (nd_rm 5) (nd_Pv (nd_SH ++ t) z) 0 0 107 [(0, .ref 60), (1, .int x1), (2, .int x2), (3, .int x3), (4, .int x4), (5, .int x5)] [] (nd_SH ++ t) σ := by
  unfold f_X11_childrenOf_107 at h
  refine nd_iinc (v := (x5 + (-1 : Int32))) (ls' := [(5, .int (x5 + (-1 : Int32))), (0, .ref 60), (1, .int x1), (2, .int x2), (3, .int x3), (4, .int x4)]) dX11_childrenOf_107 5 rfl (congrArg (HAdd.hAdd _) ic_m1) (by decide) rfl ?_
  refine nd_goto dX11_childrenOf_110 27 (by decide) ?_
  refine nd_sub [1, 2, 3, 4, 5, 0] rfl ?_
  exact hrec27 _ _ _ _ _ _ h
set_option maxRecDepth 100000 in
set_option maxHeartbeats 4000000 in
theorem b_X11_childrenOf_68 (F : Nat) (rec15 : Int32 → Int32 → Int32 → Int32 → nd_Mem → nd_Res) (rec27 : Int32 → Int32 → Int32 → Int32 → Int32 → nd_Mem → nd_Res) (t : List nd_S) (hL : (nd_SH ++ t).length < nd_ro) {z : Int32 × nd_Mem} (hrec15 : ∀ (x1 : Int32) (x2 : Int32) (x3 : Int32) (x4 : Int32) (σ : nd_Mem), rec15 x1 x2 x3 x4 σ = some z → nd_V M_X11_childrenOf (nd_rm 5) (nd_Pv (nd_SH ++ t) z) 0 0 15 [(0, .ref 60), (1, .int x1), (2, .int x2), (3, .int x3), (4, .int x4)] [] (nd_SH ++ t) σ) (hrec27 : ∀ (x1 : Int32) (x2 : Int32) (x3 : Int32) (x4 : Int32) (x5 : Int32) (σ : nd_Mem), rec27 x1 x2 x3 x4 x5 σ = some z → nd_V M_X11_childrenOf (nd_rm 5) (nd_Pv (nd_SH ++ t) z) 0 0 27 [(0, .ref 60), (1, .int x1), (2, .int x2), (3, .int x3), (4, .int x4), (5, .int x5)] [] (nd_SH ++ t) σ) (x1 : Int32) (x2 : Int32) (x3 : Int32) (x4 : Int32) (x5 : Int32) (s0 : Int32) (σ : nd_Mem) (h : f_X11_childrenOf_68 F rec15 rec27 x1 x2 x3 x4 x5 s0 σ = some z) : nd_V M_X11_childrenOf (nd_rm 5) (nd_Pv (nd_SH ++ t) z) 0 0 68 [(0, .ref 60), (1, .int x1), (2, .int x2), (3, .int x3), (4, .int x4), (5, .int x5)] [.int s0] (nd_SH ++ t) σ := by
  unfold f_X11_childrenOf_68 at h
  refine nd_iload_n dX11_childrenOf_68 1 rfl ?_
  refine nd_iadd dX11_childrenOf_69 ?_
  refine nd_istore (ls' := [(7, .int (s0 + x1)), (0, .ref 60), (1, .int x1), (2, .int x2), (3, .int x3), (4, .int x4), (5, .int x5)]) dX11_childrenOf_70 (by decide) rfl ?_
  refine nd_aload_n dX11_childrenOf_72 1 rfl ?_
  refine nd_get dX11_childrenOf_73 gf_X11_7 (sh_60 t) rfl ?_
  refine nd_iload dX11_childrenOf_76 0 rfl ?_
  refine nd_ialoadN dX11_childrenOf_78 (sh_61 t) h (fun h => ?_)
  refine nd_bipush dX11_childrenOf_79 ib_9 ?_
  refine nd_icmp_neN dX11_childrenOf_81 87 (by decide) h (fun h => ?_) (fun h => ?_)
  · refine nd_aload_n dX11_childrenOf_87 1 rfl ?_
    refine nd_get dX11_childrenOf_88 gf_X11_7 (sh_60 t) rfl ?_
    refine nd_iload dX11_childrenOf_91 0 rfl ?_
    refine nd_aload_n dX11_childrenOf_93 1 rfl ?_
    refine nd_get dX11_childrenOf_94 gf_X11_7 (sh_60 t) rfl ?_
    refine nd_iload dX11_childrenOf_97 0 rfl ?_
    refine nd_ialoadN dX11_childrenOf_99 (sh_61 t) h (fun h => ?_)
    refine nd_iconst dX11_childrenOf_100 ic_1 ?_
    refine nd_iadd dX11_childrenOf_101 ?_
    refine nd_iastoreN dX11_childrenOf_102 (sh_61 t) h (fun σ1 h => ?_)
    refine nd_iload_n dX11_childrenOf_103 3 rfl ?_
    refine nd_iconst dX11_childrenOf_104 ic_1 ?_
    refine nd_iadd dX11_childrenOf_105 ?_
    refine nd_istore_n (ls' := [(2, .int (x2 + (1 : Int32))), (7, .int (s0 + x1)), (0, .ref 60), (1, .int x1), (3, .int x3), (4, .int x4), (5, .int x5)]) dX11_childrenOf_106 (by decide) rfl ?_
    refine nd_sub [2, 3, 0, 4, 5, 6] rfl ?_
    exact b_X11_childrenOf_107 F _ _ t hL hrec15 hrec27 _ _ _ _ _ _ h
  · refine nd_goto dX11_childrenOf_84 107 (by decide) ?_
    refine nd_sub [1, 2, 3, 4, 5, 6] rfl ?_
    exact b_X11_childrenOf_107 F _ _ t hL hrec15 hrec27 _ _ _ _ _ _ h
set_option maxRecDepth 100000 in
set_option maxHeartbeats 4000000 in
theorem b_X11_childrenOf_50 (F : Nat) (rec15 : Int32 → Int32 → Int32 → Int32 → nd_Mem → nd_Res) (rec27 : Int32 → Int32 → Int32 → Int32 → Int32 → nd_Mem → nd_Res) (t : List nd_S) (hL : (nd_SH ++ t).length < nd_ro) {z : Int32 × nd_Mem} (hrec15 : ∀ (x1 : Int32) (x2 : Int32) (x3 : Int32) (x4 : Int32) (σ : nd_Mem), rec15 x1 x2 x3 x4 σ = some z → nd_V M_X11_childrenOf (nd_rm 5) (nd_Pv (nd_SH ++ t) z) 0 0 15 [(0, .ref 60), (1, .int x1), (2, .int x2), (3, .int x3), (4, .int x4)] [] (nd_SH ++ t) σ) (hrec27 : ∀ (x1 : Int32) (x2 : Int32) (x3 : Int32) (x4 : Int32) (x5 : Int32) (σ : nd_Mem), rec27 x1 x2 x3 x4 x5 σ = some z → nd_V M_X11_childrenOf (nd_rm 5) (nd_Pv (nd_SH ++ t) z) 0 0 27 [(0, .ref 60), (1, .int x1), (2, .int x2), (3, .int x3), (4, .int x4), (5, .int x5)] [] (nd_SH ++ t) σ) (x1 : Int32) (x2 : Int32) (x3 : Int32) (x4 : Int32) (x5 : Int32) (s0 : Int32) (σ : nd_Mem) (h : f_X11_childrenOf_50 F rec15 rec27 x1 x2 x3 x4 x5 s0 σ = some z) : nd_V M_X11_childrenOf (nd_rm 5) (nd_Pv (nd_SH ++ t) z) 0 0 50 [(0, .ref 60), (1, .int x1), (2, .int x2), (3, .int x3), (4, .int x4), (5, .int x5)] [.int s0] (nd_SH ++ t) σ := by
  unfold f_X11_childrenOf_50 at h
  refine nd_istore (ls' := [(6, .int s0), (0, .ref 60), (1, .int x1), (2, .int x2), (3, .int x3), (4, .int x4), (5, .int x5)]) dX11_childrenOf_50 (by decide) rfl ?_
  refine nd_iload_n dX11_childrenOf_52 4 rfl ?_
  refine nd_iconst dX11_childrenOf_53 ic_1 ?_
  refine nd_iadd dX11_childrenOf_54 ?_
  refine nd_istore_n (ls' := [(3, .int (x3 + (1 : Int32))), (6, .int s0), (0, .ref 60), (1, .int x1), (2, .int x2), (4, .int x4), (5, .int x5)]) dX11_childrenOf_55 (by decide) rfl ?_
  refine nd_iload dX11_childrenOf_56 1 rfl ?_
  refine nd_if_neN dX11_childrenOf_58 66 (by decide) h (fun h => ?_) (fun h => ?_)
  · refine nd_bipush dX11_childrenOf_66 ib_23 ?_
    refine nd_sub [2, 3, 4, 0, 5, 6] rfl ?_
    exact b_X11_childrenOf_68 F _ _ t hL hrec15 hrec27 _ _ _ _ _ _ _ h
  · refine nd_bipush dX11_childrenOf_61 ib_7 ?_
    refine nd_goto dX11_childrenOf_63 68 (by decide) ?_
    refine nd_sub [2, 3, 4, 0, 5, 6] rfl ?_
    exact b_X11_childrenOf_68 F _ _ t hL hrec15 hrec27 _ _ _ _ _ _ _ h
set_option maxRecDepth 100000 in
set_option maxHeartbeats 4000000 in
theorem b_X11_childrenOf_27 (F : Nat) (rec15 : Int32 → Int32 → Int32 → Int32 → nd_Mem → nd_Res) (t : List nd_S) (hL : (nd_SH ++ t).length < nd_ro) {z : Int32 × nd_Mem} (hrec15 : ∀ (x1 : Int32) (x2 : Int32) (x3 : Int32) (x4 : Int32) (σ : nd_Mem), rec15 x1 x2 x3 x4 σ = some z → nd_V M_X11_childrenOf (nd_rm 5) (nd_Pv (nd_SH ++ t) z) 0 0 15 [(0, .ref 60), (1, .int x1), (2, .int x2), (3, .int x3), (4, .int x4)] [] (nd_SH ++ t) σ) (m9 : Nat) : ∀ (x1 : Int32) (x2 : Int32) (x3 : Int32) (x4 : Int32) (x5 : Int32) (σ : nd_Mem), f_X11_childrenOf_27 F rec15 m9 x1 x2 x3 x4 x5 σ = some z → nd_V M_X11_childrenOf (nd_rm 5) (nd_Pv (nd_SH ++ t) z) 0 0 27 [(0, .ref 60), (1, .int x1), (2, .int x2), (3, .int x3), (4, .int x4), (5, .int x5)] [] (nd_SH ++ t) σ := by
  induction m9 with
  | zero =>
    intro x1 x2 x3 x4 x5 σ h
    have h : none = some z := h
    cases h
  | succ m9 hrec27 =>
    intro x1 x2 x3 x4 x5 σ h
    have h : f_X11_childrenOf_27_b F rec15 (f_X11_childrenOf_27 F rec15 m9) x1 x2 x3 x4 x5 σ = some z := h
    unfold f_X11_childrenOf_27_b at h
    refine nd_iload dX11_childrenOf_27 5 rfl ?_
    refine nd_if_leN dX11_childrenOf_29 113 (by decide) h (fun h => ?_) (fun h => ?_)
    · refine nd_iinc (v := (x4 + (-1 : Int32))) (ls' := [(4, .int (x4 + (-1 : Int32))), (0, .ref 60), (1, .int x1), (2, .int x2), (3, .int x3), (5, .int x5)]) dX11_childrenOf_113 4 rfl (congrArg (HAdd.hAdd _) ic_m1) (by decide) rfl ?_
      refine nd_goto dX11_childrenOf_116 15 (by decide) ?_
      refine nd_sub [1, 2, 3, 4, 0] rfl ?_
      exact hrec15 _ _ _ _ _ h
    · refine nd_aload_n dX11_childrenOf_32 0 rfl ?_
      refine nd_get dX11_childrenOf_33 gf_X11_138 (sh_60 t) rfl ?_
      refine nd_if_eqN dX11_childrenOf_36 45 (by decide) h (fun h => ?_) (fun h => ?_)
      · refine nd_aload_n dX11_childrenOf_45 0 rfl ?_
        refine nd_iconst dX11_childrenOf_46 ic_2 ?_
        obtain ⟨r1, σ2, hc3, h⟩ := nd_bind_e h
        refine nd_cvi [.int (2 : Int32)] [] dX11_childrenOf_47 cl_X11_357 (sh_60 t) ⟨Nat.le_of_ble_eq_true rfl, Nat.le_of_ble_eq_true rfl⟩ rfl (Nat.le_of_ble_eq_true rfl) hL (t_X11_draw F t hL _ _ hc3) ?_
        exact b_X11_childrenOf_50 F _ _ t hL hrec15 hrec27 _ _ _ _ _ _ _ h
      · refine nd_iload_n dX11_childrenOf_39 3 rfl ?_
        refine nd_iconst dX11_childrenOf_40 ic_2 ?_
        refine nd_irem dX11_childrenOf_41 (by decide) ?_
        refine nd_goto dX11_childrenOf_42 50 (by decide) ?_
        exact b_X11_childrenOf_50 F _ _ t hL hrec15 hrec27 _ _ _ _ _ _ _ h
set_option maxRecDepth 100000 in
set_option maxHeartbeats 4000000 in
theorem b_X11_childrenOf_15 (F : Nat) (t : List nd_S) (hL : (nd_SH ++ t).length < nd_ro) {z : Int32 × nd_Mem} (m9 : Nat) : ∀ (x1 : Int32) (x2 : Int32) (x3 : Int32) (x4 : Int32) (σ : nd_Mem), f_X11_childrenOf_15 F m9 x1 x2 x3 x4 σ = some z → nd_V M_X11_childrenOf (nd_rm 5) (nd_Pv (nd_SH ++ t) z) 0 0 15 [(0, .ref 60), (1, .int x1), (2, .int x2), (3, .int x3), (4, .int x4)] [] (nd_SH ++ t) σ := by
  induction m9 with
  | zero =>
    intro x1 x2 x3 x4 σ h
    have h : none = some z := h
    cases h
  | succ m9 hrec15 =>
    intro x1 x2 x3 x4 σ h
    have h : f_X11_childrenOf_15_b F (f_X11_childrenOf_15 F m9) x1 x2 x3 x4 σ = some z := h
    unfold f_X11_childrenOf_15_b at h
    refine nd_iload dX11_childrenOf_15 4 rfl ?_
    refine nd_if_leN dX11_childrenOf_17 119 (by decide) h (fun h => ?_) (fun h => ?_)
    · refine nd_aload_n dX11_childrenOf_119 0 rfl ?_
      refine nd_get dX11_childrenOf_120 gf_X11_7 (sh_60 t) rfl ?_
      refine nd_bipush dX11_childrenOf_123 ib_39 ?_
      refine nd_iload_n dX11_childrenOf_125 1 rfl ?_
      refine nd_iadd dX11_childrenOf_126 ?_
      refine nd_iconst dX11_childrenOf_127 ic_0 ?_
      refine nd_iastoreN dX11_childrenOf_128 (sh_61 t) h (fun σ1 h => ?_)
      refine nd_iload_n dX11_childrenOf_129 2 rfl ?_
      refine nd_if_leN dX11_childrenOf_130 140 (by decide) h (fun h => ?_) (fun h => ?_)
      · exact nd_vret dX11_childrenOf_140 (Nat.zero_le _) (Nat.zero_le _) trivial (by cases h; exact ⟨rfl, rfl, rfl⟩)
      · refine nd_aload_n dX11_childrenOf_133 0 rfl ?_
        refine nd_iconst dX11_childrenOf_134 ic_3 ?_
        refine nd_iload_n dX11_childrenOf_135 1 rfl ?_
        refine nd_iload_n dX11_childrenOf_136 2 rfl ?_
        obtain ⟨r2, σ3, hc4, h⟩ := nd_bind_e h
        refine nd_cvv [.int (3 : Int32), .int x1, .int x2] [] dX11_childrenOf_137 cl_X11_338 (sh_60 t) ⟨Nat.le_of_ble_eq_true rfl, Nat.le_of_ble_eq_true rfl⟩ rfl (Nat.le_of_ble_eq_true rfl) hL (t_X11_notes F t hL _ _ _ _ hc4) ?_
        exact nd_vret dX11_childrenOf_140 (Nat.zero_le _) (Nat.zero_le _) trivial (by cases h; exact ⟨rfl, rfl, rfl⟩)
    · refine nd_aload_n dX11_childrenOf_20 0 rfl ?_
      refine nd_iload_n dX11_childrenOf_21 1 rfl ?_
      obtain ⟨r5, σ6, hc7, h⟩ := nd_bind_e h
      refine nd_cvi [.int x1] [] dX11_childrenOf_22 cl_X11_366 (sh_60 t) ⟨Nat.le_of_ble_eq_true rfl, Nat.le_of_ble_eq_true rfl⟩ rfl (Nat.le_of_ble_eq_true rfl) hL (t_X11_bearsOf F t hL _ _ hc7) ?_
      refine nd_istore (ls' := [(5, .int r5), (0, .ref 60), (1, .int x1), (2, .int x2), (3, .int x3), (4, .int x4)]) dX11_childrenOf_25 (by decide) rfl ?_
      refine nd_sub [1, 2, 3, 4, 5, 0] rfl ?_
      exact b_X11_childrenOf_27 F _ t hL hrec15 F _ _ _ _ _ _ h
set_option maxRecDepth 100000 in
set_option maxHeartbeats 4000000 in
theorem t_X11_childrenOf (F : Nat) (t : List nd_S) (hL : (nd_SH ++ t).length < nd_ro) {z : Int32 × nd_Mem} (x1 : Int32) (σ : nd_Mem) (h : f_X11_childrenOf F x1 σ = some z) : nd_Fn M_X11_childrenOf (nd_rm 5) [.ref 60, .int x1] (nd_SH ++ t) σ (nd_Pv (nd_SH ++ t) z) := by
  refine nd_Fn.ofV (ls := [(0, .ref 60), (1, .int x1)]) pl_X11_childrenOf rfl (fun _ => Nat.le_of_ble_eq_true rfl) (fun _ => rfl) ?_
  unfold f_X11_childrenOf at h
  refine nd_iconst dX11_childrenOf_0 ic_0 ?_
  refine nd_istore_n (ls' := [(2, .int (0 : Int32)), (0, .ref 60), (1, .int x1)]) dX11_childrenOf_1 (by decide) rfl ?_
  refine nd_iconst dX11_childrenOf_2 ic_0 ?_
  refine nd_istore_n (ls' := [(3, .int (0 : Int32)), (2, .int (0 : Int32)), (0, .ref 60), (1, .int x1)]) dX11_childrenOf_3 (by decide) rfl ?_
  refine nd_aload_n dX11_childrenOf_4 2 rfl ?_
  refine nd_get dX11_childrenOf_5 gf_X11_7 (sh_60 t) rfl ?_
  refine nd_bipush dX11_childrenOf_8 ib_39 ?_
  refine nd_iload_n dX11_childrenOf_10 3 rfl ?_
  refine nd_iadd dX11_childrenOf_11 ?_
  refine nd_ialoadN dX11_childrenOf_12 (sh_61 t) h (fun h => ?_)
  refine nd_istore (ls' := [(4, .int (σ 61 (((39 : Int32) + x1)).toNatClampNeg)), (3, .int (0 : Int32)), (2, .int (0 : Int32)), (0, .ref 60), (1, .int x1)]) dX11_childrenOf_13 (by decide) rfl ?_
  refine nd_sub [3, 4, 2, 1, 0] rfl ?_
  exact b_X11_childrenOf_15 F t hL F _ _ _ _ _ h
def f_X11_girlGoes_201 (F : Nat) (x1 : Int32) (x3 : Int32) (σ : nd_Mem) : nd_Res := (nd_bind (f_X11_notes F (0 : Int32) x1 x3 σ) fun r1 σ2 => (some (0, σ2)))
def f_X11_girlGoes_182 (F : Nat) (x1 : Int32) (x2 : Int32) (x3 : Int32) (σ : nd_Mem) : nd_Res := (if (6 : Int32) < 0 ∨ 103 ≤ ((6 : Int32)).toNatClampNeg then none else (if (σ 61 ((6 : Int32)).toNatClampNeg) = x1 then (if (6 : Int32) < 0 ∨ 103 ≤ ((6 : Int32)).toNatClampNeg then none else (nd_let (nd_up σ 61 ((6 : Int32)).toNatClampNeg x2) fun σ1 => (f_X11_girlGoes_201 F x1 x3 σ1))) else (f_X11_girlGoes_201 F x1 x3 σ)))
def f_X11_girlGoes (F : Nat) (x1 : Int32) (σ : nd_Mem) : nd_Res := (nd_bind (f_X11_nextOf F x1 σ) fun r1 σ2 => (if ((7 : Int32) + x1) < 0 ∨ 103 ≤ (((7 : Int32) + x1)).toNatClampNeg then none else (if ((7 : Int32) + x1) < 0 ∨ 103 ≤ (((7 : Int32) + x1)).toNatClampNeg then none else (nd_let (nd_up σ2 61 (((7 : Int32) + x1)).toNatClampNeg ((σ2 61 (((7 : Int32) + x1)).toNatClampNeg) - (1 : Int32))) fun σ4 => (nd_bind (f_X11_bringsOf F x1 σ4) fun r5 σ6 => (if ((55 : Int32) + x1) < 0 ∨ 103 ≤ (((55 : Int32) + x1)).toNatClampNeg then none else (if ((55 : Int32) + x1) < 0 ∨ 103 ≤ (((55 : Int32) + x1)).toNatClampNeg then none else (nd_let (nd_up σ6 61 (((55 : Int32) + x1)).toNatClampNeg ((σ6 61 (((55 : Int32) + x1)).toNatClampNeg) - r5)) fun σ8 => (if ((71 : Int32) + x1) < 0 ∨ 103 ≤ (((71 : Int32) + x1)).toNatClampNeg then none else (if ((71 : Int32) + x1) < 0 ∨ 103 ≤ (((71 : Int32) + x1)).toNatClampNeg then none else (nd_let (nd_up σ8 61 (((71 : Int32) + x1)).toNatClampNeg (0 : Int32)) fun σ9 => (if r1 = (-1 : Int32) then (if (3 : Int32) < 0 ∨ 103 ≤ ((3 : Int32)).toNatClampNeg then none else (if (3 : Int32) < 0 ∨ 103 ≤ ((3 : Int32)).toNatClampNeg then none else (nd_let (nd_up σ9 61 ((3 : Int32)).toNatClampNeg ((σ9 61 ((3 : Int32)).toNatClampNeg) + (1 : Int32))) fun σ20 => (nd_bind (f_X11_notes F (1 : Int32) x1 r5 σ20) fun r21 σ22 => (some (0, σ22)))))) else (nd_bind (f_X11_getsRicher F r1 r5 σ9) fun r10 σ11 => (if ((23 : Int32) + r1) < 0 ∨ 103 ≤ (((23 : Int32) + r1)).toNatClampNeg then none else (if ((23 : Int32) + r1) < 0 ∨ 103 ≤ (((23 : Int32) + r1)).toNatClampNeg then none else (nd_let (nd_up σ11 61 (((23 : Int32) + r1)).toNatClampNeg ((σ11 61 (((23 : Int32) + r1)).toNatClampNeg) - (1 : Int32))) fun σ13 => (if ((39 : Int32) + r1) < 0 ∨ 103 ≤ (((39 : Int32) + r1)).toNatClampNeg then none else (nd_bind (f_X11_lesser F (9 : Int32) ((σ13 61 (((39 : Int32) + r1)).toNatClampNeg) + (1 : Int32)) σ13) fun r14 σ15 => (if ((39 : Int32) + r1) < 0 ∨ 103 ≤ (((39 : Int32) + r1)).toNatClampNeg then none else (nd_let (nd_up σ15 61 (((39 : Int32) + r1)).toNatClampNeg r14) fun σ17 => (if (5 : Int32) < 0 ∨ 103 ≤ ((5 : Int32)).toNatClampNeg then none else (if (5 : Int32) < 0 ∨ 103 ≤ ((5 : Int32)).toNatClampNeg then none else (nd_let (nd_up σ17 61 ((5 : Int32)).toNatClampNeg ((σ17 61 ((5 : Int32)).toNatClampNeg) + (1 : Int32))) fun σ18 => (if (σ8 61 (((71 : Int32) + x1)).toNatClampNeg) ≤ 0 then (f_X11_girlGoes_182 F x1 r1 r5 σ18) else (if ((71 : Int32) + r1) < 0 ∨ 103 ≤ (((71 : Int32) + r1)).toNatClampNeg then none else (nd_let (nd_up σ18 61 (((71 : Int32) + r1)).toNatClampNeg (σ8 61 (((71 : Int32) + x1)).toNatClampNeg)) fun σ19 => (f_X11_girlGoes_182 F x1 r1 r5 σ19)))))))))))))))))))))))))))
set_option maxRecDepth 100000 in
set_option maxHeartbeats 4000000 in
theorem b_X11_girlGoes_201 (F : Nat) (t : List nd_S) (hL : (nd_SH ++ t).length < nd_ro) {z : Int32 × nd_Mem} (x1 : Int32) (x3 : Int32) (σ : nd_Mem) (h : f_X11_girlGoes_201 F x1 x3 σ = some z) : nd_V M_X11_girlGoes (nd_rm 5) (nd_Pv (nd_SH ++ t) z) 0 0 201 [(0, .ref 60), (1, .int x1), (3, .int x3)] [] (nd_SH ++ t) σ := by
  unfold f_X11_girlGoes_201 at h
  refine nd_aload_n dX11_girlGoes_201 0 rfl ?_
  refine nd_iconst dX11_girlGoes_202 ic_0 ?_
  refine nd_iload_n dX11_girlGoes_203 1 rfl ?_
  refine nd_iload_n dX11_girlGoes_204 2 rfl ?_
  obtain ⟨r1, σ2, hc3, h⟩ := nd_bind_e h
  refine nd_cvv [.int (0 : Int32), .int x1, .int x3] [] dX11_girlGoes_205 cl_X11_338 (sh_60 t) ⟨Nat.le_of_ble_eq_true rfl, Nat.le_of_ble_eq_true rfl⟩ rfl (Nat.le_of_ble_eq_true rfl) hL (t_X11_notes F t hL _ _ _ _ hc3) ?_
  exact nd_vret dX11_girlGoes_208 (Nat.zero_le _) (Nat.zero_le _) trivial (by cases h; exact ⟨rfl, rfl, rfl⟩)
set_option maxRecDepth 100000 in
set_option maxHeartbeats 4000000 in
theorem b_X11_girlGoes_182 (F : Nat) (t : List nd_S) (hL : (nd_SH ++ t).length < nd_ro) {z : Int32 × nd_Mem} (x1 : Int32) (x2 : Int32) (x3 : Int32) (σ : nd_Mem) (h : f_X11_girlGoes_182 F x1 x2 x3 σ = some z) : nd_V M_X11_girlGoes (nd_rm 5) (nd_Pv (nd_SH ++ t) z) 0 0 182 [(0, .ref 60), (1, .int x1), (2, .int x2), (3, .int x3)] [] (nd_SH ++ t) σ := by
  unfold f_X11_girlGoes_182 at h
  refine nd_aload_n dX11_girlGoes_182 0 rfl ?_
  refine nd_get dX11_girlGoes_183 gf_X11_7 (sh_60 t) rfl ?_
  refine nd_bipush dX11_girlGoes_186 ib_6 ?_
  refine nd_ialoadN dX11_girlGoes_188 (sh_61 t) h (fun h => ?_)
  refine nd_iload_n dX11_girlGoes_189 1 rfl ?_
  refine nd_icmp_neN dX11_girlGoes_190 201 (by decide) h (fun h => ?_) (fun h => ?_)
  · refine nd_sub [0, 1, 3] rfl ?_
    exact b_X11_girlGoes_201 F t hL _ _ _ h
  · refine nd_aload_n dX11_girlGoes_193 0 rfl ?_
    refine nd_get dX11_girlGoes_194 gf_X11_7 (sh_60 t) rfl ?_
    refine nd_bipush dX11_girlGoes_197 ib_6 ?_
    refine nd_iload_n dX11_girlGoes_199 2 rfl ?_
    refine nd_iastoreN dX11_girlGoes_200 (sh_61 t) h (fun σ1 h => ?_)
    refine nd_sub [0, 1, 3] rfl ?_
    exact b_X11_girlGoes_201 F t hL _ _ _ h
set_option maxRecDepth 100000 in
set_option maxHeartbeats 4000000 in
theorem t_X11_girlGoes (F : Nat) (t : List nd_S) (hL : (nd_SH ++ t).length < nd_ro) {z : Int32 × nd_Mem} (x1 : Int32) (σ : nd_Mem) (h : f_X11_girlGoes F x1 σ = some z) : nd_Fn M_X11_girlGoes (nd_rm 5) [.ref 60, .int x1] (nd_SH ++ t) σ (nd_Pv (nd_SH ++ t) z) := by
  refine nd_Fn.ofV (ls := [(0, .ref 60), (1, .int x1)]) pl_X11_girlGoes rfl (fun _ => Nat.le_of_ble_eq_true rfl) (fun _ => rfl) ?_
  unfold f_X11_girlGoes at h
  refine nd_aload_n dX11_girlGoes_0 0 rfl ?_
  refine nd_iload_n dX11_girlGoes_1 1 rfl ?_
  obtain ⟨r1, σ2, hc3, h⟩ := nd_bind_e h
  refine nd_cvi [.int x1] [] dX11_girlGoes_2 cl_X11_325 (sh_60 t) ⟨Nat.le_of_ble_eq_true rfl, Nat.le_of_ble_eq_true rfl⟩ rfl (Nat.le_of_ble_eq_true rfl) hL (t_X11_nextOf F t hL _ _ hc3) ?_
  refine nd_istore_n (ls' := [(2, .int r1), (0, .ref 60), (1, .int x1)]) dX11_girlGoes_5 (by decide) rfl ?_
  refine nd_aload_n dX11_girlGoes_6 1 rfl ?_
  refine nd_get dX11_girlGoes_7 gf_X11_7 (sh_60 t) rfl ?_
  refine nd_bipush dX11_girlGoes_10 ib_7 ?_
  refine nd_iload_n dX11_girlGoes_12 2 rfl ?_
  refine nd_iadd dX11_girlGoes_13 ?_
  refine nd_aload_n dX11_girlGoes_14 1 rfl ?_
  refine nd_get dX11_girlGoes_15 gf_X11_7 (sh_60 t) rfl ?_
  refine nd_bipush dX11_girlGoes_18 ib_7 ?_
  refine nd_iload_n dX11_girlGoes_20 2 rfl ?_
  refine nd_iadd dX11_girlGoes_21 ?_
  refine nd_ialoadN dX11_girlGoes_22 (sh_61 t) h (fun h => ?_)
  refine nd_iconst dX11_girlGoes_23 ic_1 ?_
  refine nd_isub dX11_girlGoes_24 ?_
  refine nd_iastoreN dX11_girlGoes_25 (sh_61 t) h (fun σ4 h => ?_)
  refine nd_aload_n dX11_girlGoes_26 1 rfl ?_
  refine nd_iload_n dX11_girlGoes_27 2 rfl ?_
  obtain ⟨r5, σ6, hc7, h⟩ := nd_bind_e h
  refine nd_cvi [.int x1] [] dX11_girlGoes_28 cl_X11_335 (sh_60 t) ⟨Nat.le_of_ble_eq_true rfl, Nat.le_of_ble_eq_true rfl⟩ rfl (Nat.le_of_ble_eq_true rfl) hL (t_X11_bringsOf F t hL _ _ hc7) ?_
  refine nd_istore_n (ls' := [(3, .int r5), (2, .int r1), (0, .ref 60), (1, .int x1)]) dX11_girlGoes_31 (by decide) rfl ?_
  refine nd_aload_n dX11_girlGoes_32 2 rfl ?_
  refine nd_get dX11_girlGoes_33 gf_X11_7 (sh_60 t) rfl ?_
  refine nd_bipush dX11_girlGoes_36 ib_55 ?_
  refine nd_iload_n dX11_girlGoes_38 3 rfl ?_
  refine nd_iadd dX11_girlGoes_39 ?_
  refine nd_aload_n dX11_girlGoes_40 2 rfl ?_
  refine nd_get dX11_girlGoes_41 gf_X11_7 (sh_60 t) rfl ?_
  refine nd_bipush dX11_girlGoes_44 ib_55 ?_
  refine nd_iload_n dX11_girlGoes_46 3 rfl ?_
  refine nd_iadd dX11_girlGoes_47 ?_
  refine nd_ialoadN dX11_girlGoes_48 (sh_61 t) h (fun h => ?_)
  refine nd_iload_n dX11_girlGoes_49 0 rfl ?_
  refine nd_isub dX11_girlGoes_50 ?_
  refine nd_iastoreN dX11_girlGoes_51 (sh_61 t) h (fun σ8 h => ?_)
  refine nd_aload_n dX11_girlGoes_52 2 rfl ?_
  refine nd_get dX11_girlGoes_53 gf_X11_7 (sh_60 t) rfl ?_
  refine nd_bipush dX11_girlGoes_56 ib_71 ?_
  refine nd_iload_n dX11_girlGoes_58 3 rfl ?_
  refine nd_iadd dX11_girlGoes_59 ?_
  refine nd_ialoadN dX11_girlGoes_60 (sh_61 t) h (fun h => ?_)
  refine nd_istore (ls' := [(4, .int (σ8 61 (((71 : Int32) + x1)).toNatClampNeg)), (3, .int r5), (2, .int r1), (0, .ref 60), (1, .int x1)]) dX11_girlGoes_61 (by decide) rfl ?_
  refine nd_aload_n dX11_girlGoes_63 3 rfl ?_
  refine nd_get dX11_girlGoes_64 gf_X11_7 (sh_60 t) rfl ?_
  refine nd_bipush dX11_girlGoes_67 ib_71 ?_
  refine nd_iload_n dX11_girlGoes_69 4 rfl ?_
  refine nd_iadd dX11_girlGoes_70 ?_
  refine nd_iconst dX11_girlGoes_71 ic_0 ?_
  refine nd_iastoreN dX11_girlGoes_72 (sh_61 t) h (fun σ9 h => ?_)
  refine nd_iload_n dX11_girlGoes_73 2 rfl ?_
  refine nd_iconst dX11_girlGoes_74 ic_m1 ?_
  refine nd_icmp_neN dX11_girlGoes_75 100 (by decide) h (fun h => ?_) (fun h => ?_)
  · refine nd_aload_n dX11_girlGoes_100 3 rfl ?_
    refine nd_iload_n dX11_girlGoes_101 2 rfl ?_
    refine nd_iload_n dX11_girlGoes_102 1 rfl ?_
    obtain ⟨r10, σ11, hc12, h⟩ := nd_bind_e h
    refine nd_cvv [.int r1, .int r5] [] dX11_girlGoes_103 cl_X11_342 (sh_60 t) ⟨Nat.le_of_ble_eq_true rfl, Nat.le_of_ble_eq_true rfl⟩ rfl (Nat.le_of_ble_eq_true rfl) hL (t_X11_getsRicher F t hL _ _ _ hc12) ?_
    refine nd_aload_n dX11_girlGoes_106 3 rfl ?_
    refine nd_get dX11_girlGoes_107 gf_X11_7 (sh_60 t) rfl ?_
    refine nd_bipush dX11_girlGoes_110 ib_23 ?_
    refine nd_iload_n dX11_girlGoes_112 2 rfl ?_
    refine nd_iadd dX11_girlGoes_113 ?_
    refine nd_aload_n dX11_girlGoes_114 3 rfl ?_
    refine nd_get dX11_girlGoes_115 gf_X11_7 (sh_60 t) rfl ?_
    refine nd_bipush dX11_girlGoes_118 ib_23 ?_
    refine nd_iload_n dX11_girlGoes_120 2 rfl ?_
    refine nd_iadd dX11_girlGoes_121 ?_
    refine nd_ialoadN dX11_girlGoes_122 (sh_61 t) h (fun h => ?_)
    refine nd_iconst dX11_girlGoes_123 ic_1 ?_
    refine nd_isub dX11_girlGoes_124 ?_
    refine nd_iastoreN dX11_girlGoes_125 (sh_61 t) h (fun σ13 h => ?_)
    refine nd_aload_n dX11_girlGoes_126 3 rfl ?_
    refine nd_get dX11_girlGoes_127 gf_X11_7 (sh_60 t) rfl ?_
    refine nd_bipush dX11_girlGoes_130 ib_39 ?_
    refine nd_iload_n dX11_girlGoes_132 2 rfl ?_
    refine nd_iadd dX11_girlGoes_133 ?_
    refine nd_aload_n dX11_girlGoes_134 3 rfl ?_
    refine nd_bipush dX11_girlGoes_135 ib_9 ?_
    refine nd_aload_n dX11_girlGoes_137 3 rfl ?_
    refine nd_get dX11_girlGoes_138 gf_X11_7 (sh_60 t) rfl ?_
    refine nd_bipush dX11_girlGoes_141 ib_39 ?_
    refine nd_iload_n dX11_girlGoes_143 2 rfl ?_
    refine nd_iadd dX11_girlGoes_144 ?_
    refine nd_ialoadN dX11_girlGoes_145 (sh_61 t) h (fun h => ?_)
    refine nd_iconst dX11_girlGoes_146 ic_1 ?_
    refine nd_iadd dX11_girlGoes_147 ?_
    obtain ⟨r14, σ15, hc16, h⟩ := nd_bind_e h
    refine nd_cvi [.int (9 : Int32), .int ((σ13 61 (((39 : Int32) + r1)).toNatClampNeg) + (1 : Int32))] [.int ((39 : Int32) + r1), .ref 61] dX11_girlGoes_148 cl_X11_332 (sh_60 t) ⟨Nat.le_of_ble_eq_true rfl, Nat.le_of_ble_eq_true rfl⟩ rfl (Nat.le_of_ble_eq_true rfl) hL (t_X11_lesser F t hL _ _ _ hc16) ?_
    refine nd_iastoreN dX11_girlGoes_151 (sh_61 t) h (fun σ17 h => ?_)
    refine nd_aload_n dX11_girlGoes_152 3 rfl ?_
    refine nd_get dX11_girlGoes_153 gf_X11_7 (sh_60 t) rfl ?_
    refine nd_iconst dX11_girlGoes_156 ic_5 ?_
    refine nd_aload_n dX11_girlGoes_157 3 rfl ?_
    refine nd_get dX11_girlGoes_158 gf_X11_7 (sh_60 t) rfl ?_
    refine nd_iconst dX11_girlGoes_161 ic_5 ?_
    refine nd_ialoadN dX11_girlGoes_162 (sh_61 t) h (fun h => ?_)
    refine nd_iconst dX11_girlGoes_163 ic_1 ?_
    refine nd_iadd dX11_girlGoes_164 ?_
    refine nd_iastoreN dX11_girlGoes_165 (sh_61 t) h (fun σ18 h => ?_)
    refine nd_iload dX11_girlGoes_166 0 rfl ?_
    refine nd_if_leN dX11_girlGoes_168 182 (by decide) h (fun h => ?_) (fun h => ?_)
    · refine nd_sub [3, 4, 2, 1] rfl ?_
      exact b_X11_girlGoes_182 F t hL _ _ _ _ h
    · refine nd_aload_n dX11_girlGoes_171 3 rfl ?_
      refine nd_get dX11_girlGoes_172 gf_X11_7 (sh_60 t) rfl ?_
      refine nd_bipush dX11_girlGoes_175 ib_71 ?_
      refine nd_iload_n dX11_girlGoes_177 2 rfl ?_
      refine nd_iadd dX11_girlGoes_178 ?_
      refine nd_iload dX11_girlGoes_179 0 rfl ?_
      refine nd_iastoreN dX11_girlGoes_181 (sh_61 t) h (fun σ19 h => ?_)
      refine nd_sub [3, 4, 2, 1] rfl ?_
      exact b_X11_girlGoes_182 F t hL _ _ _ _ h
  · refine nd_aload_n dX11_girlGoes_78 3 rfl ?_
    refine nd_get dX11_girlGoes_79 gf_X11_7 (sh_60 t) rfl ?_
    refine nd_iconst dX11_girlGoes_82 ic_3 ?_
    refine nd_aload_n dX11_girlGoes_83 3 rfl ?_
    refine nd_get dX11_girlGoes_84 gf_X11_7 (sh_60 t) rfl ?_
    refine nd_iconst dX11_girlGoes_87 ic_3 ?_
    refine nd_ialoadN dX11_girlGoes_88 (sh_61 t) h (fun h => ?_)
    refine nd_iconst dX11_girlGoes_89 ic_1 ?_
    refine nd_iadd dX11_girlGoes_90 ?_
    refine nd_iastoreN dX11_girlGoes_91 (sh_61 t) h (fun σ20 h => ?_)
    refine nd_aload_n dX11_girlGoes_92 3 rfl ?_
    refine nd_iconst dX11_girlGoes_93 ic_1 ?_
    refine nd_iload_n dX11_girlGoes_94 4 rfl ?_
    refine nd_iload_n dX11_girlGoes_95 1 rfl ?_
    obtain ⟨r21, σ22, hc23, h⟩ := nd_bind_e h
    refine nd_cvv [.int (1 : Int32), .int x1, .int r5] [] dX11_girlGoes_96 cl_X11_338 (sh_60 t) ⟨Nat.le_of_ble_eq_true rfl, Nat.le_of_ble_eq_true rfl⟩ rfl (Nat.le_of_ble_eq_true rfl) hL (t_X11_notes F t hL _ _ _ _ hc23) ?_
    exact nd_vret dX11_girlGoes_99 (Nat.zero_le _) (Nat.zero_le _) trivial (by cases h; exact ⟨rfl, rfl, rfl⟩)
