def f_X11_runs_170 (F : Nat) (rec12 : Int32 → Int32 → Int32 → Int32 → nd_Mem → nd_Res) (x1 : Int32) (x3 : Int32) (x4 : Int32) (x5 : Int32) (σ : nd_Mem) : nd_Res := (rec12 x1 x3 x4 (x5 + (1 : Int32)) σ)
def f_X11_runs_83 (F : Nat) (rec12 : Int32 → Int32 → Int32 → Int32 → nd_Mem → nd_Res) (x1 : Int32) (x3 : Int32) (x4 : Int32) (x5 : Int32) (s0 : Int32) (s1 : Int32) (σ : nd_Mem) : nd_Res := (if s1 < 0 ∨ 420 ≤ (s1).toNatClampNeg then none else (nd_let (nd_up σ 79 (s1).toNatClampNeg s0) fun σ1 => (f_X11_runs_170 F rec12 x1 x3 (x4 + (1 : Int32)) x5 σ1)))
def f_X11_runs_45 (F : Nat) (rec12 : Int32 → Int32 → Int32 → Int32 → nd_Mem → nd_Res) (x1 : Int32) (x3 : Int32) (x4 : Int32) (x5 : Int32) (σ : nd_Mem) : nd_Res := (if x5 < 0 ∨ 1200 ≤ (x5).toNatClampNeg then none else (if (σ 72 (x5).toNatClampNeg) = 0 then (if x5 < 0 ∨ 1200 ≤ (x5).toNatClampNeg then none else (f_X11_runs_83 F rec12 x1 x3 x4 x5 (σ 73 (x5).toNatClampNeg) x4 σ)) else (if x5 < 0 ∨ 1200 ≤ (x5).toNatClampNeg then none else (if (σ 73 (x5).toNatClampNeg) < 0 ∨ 10 ≤ ((σ 73 (x5).toNatClampNeg)).toNatClampNeg then none else (f_X11_runs_83 F rec12 x1 x3 x4 x5 (σ 78 ((σ 73 (x5).toNatClampNeg)).toNatClampNeg) x4 σ)))))
def f_X11_runs_12_b (F : Nat) (rec12 : Int32 → Int32 → Int32 → Int32 → nd_Mem → nd_Res) (x1 : Int32) (x3 : Int32) (x4 : Int32) (x5 : Int32) (σ : nd_Mem) : nd_Res := (if (((400 : Int32) * x1) + x3) ≤ x5 then (if (0 : Int32) < 0 ∨ 420 ≤ ((0 : Int32)).toNatClampNeg then none else (some ((σ 79 ((0 : Int32)).toNatClampNeg), σ))) else (if x5 < 0 ∨ 1200 ≤ (x5).toNatClampNeg then none else (if (σ 72 (x5).toNatClampNeg) = 0 then (f_X11_runs_45 F rec12 x1 x3 x4 x5 σ) else (if x5 < 0 ∨ 1200 ≤ (x5).toNatClampNeg then none else (if (σ 72 (x5).toNatClampNeg) = (1 : Int32) then (f_X11_runs_45 F rec12 x1 x3 x4 x5 σ) else (if x5 < 0 ∨ 1200 ≤ (x5).toNatClampNeg then none else (if (σ 72 (x5).toNatClampNeg) = (9 : Int32) then (if (x4 - (1 : Int32)) < 0 ∨ 420 ≤ ((x4 - (1 : Int32))).toNatClampNeg then none else (if (x4 - (1 : Int32)) < 0 ∨ 420 ≤ ((x4 - (1 : Int32))).toNatClampNeg then none else (nd_let (nd_up σ 79 ((x4 - (1 : Int32))).toNatClampNeg ((1 : Int32) - (σ 79 ((x4 - (1 : Int32))).toNatClampNeg))) fun σ5 => (f_X11_runs_170 F rec12 x1 x3 x4 x5 σ5)))) else (if x5 < 0 ∨ 1200 ≤ (x5).toNatClampNeg then none else (if ((x4 - (1 : Int32)) - (1 : Int32)) < 0 ∨ 420 ≤ (((x4 - (1 : Int32)) - (1 : Int32))).toNatClampNeg then none else (if (x4 - (1 : Int32)) < 0 ∨ 420 ≤ ((x4 - (1 : Int32))).toNatClampNeg then none else (nd_bind (f_X11_twoOf F (σ 72 (x5).toNatClampNeg) (σ 79 (((x4 - (1 : Int32)) - (1 : Int32))).toNatClampNeg) (σ 79 ((x4 - (1 : Int32))).toNatClampNeg) σ) fun r1 σ2 => (if ((x4 - (1 : Int32)) - (1 : Int32)) < 0 ∨ 420 ≤ (((x4 - (1 : Int32)) - (1 : Int32))).toNatClampNeg then none else (nd_let (nd_up σ2 79 (((x4 - (1 : Int32)) - (1 : Int32))).toNatClampNeg r1) fun σ4 => (f_X11_runs_170 F rec12 x1 x3 (x4 - (1 : Int32)) x5 σ4))))))))))))))
def f_X11_runs_12 (F : Nat) : Nat → Int32 → Int32 → Int32 → Int32 → nd_Mem → nd_Res
  | 0, _, _, _, _, _ => none
  | m9 + 1, x1, x3, x4, x5, σ => f_X11_runs_12_b F (f_X11_runs_12 F m9) x1 x3 x4 x5 σ
def f_X11_runs (F : Nat) (x1 : Int32) (x2 : Int32) (x3 : Int32) (σ : nd_Mem) : nd_Res := (f_X11_runs_12 F F x1 x3 (0 : Int32) (((400 : Int32) * x1) + x2) σ)
set_option maxRecDepth 100000 in
set_option maxHeartbeats 4000000 in
theorem b_X11_runs_170 (F : Nat) (rec12 : Int32 → Int32 → Int32 → Int32 → nd_Mem → nd_Res) (t : List nd_S) (hL : (nd_SH ++ t).length < nd_ro) {z : Int32 × nd_Mem} (hrec12 : ∀ (x1 : Int32) (x3 : Int32) (x4 : Int32) (x5 : Int32) (σ : nd_Mem), rec12 x1 x3 x4 x5 σ = some z → nd_V M_X11_runs (nd_rm 1) (nd_Pi (nd_SH ++ t) z) 0 0 12 [(0, .ref 60), (1, .int x1), (3, .int x3), (4, .int x4), (5, .int x5)] [] (nd_SH ++ t) σ) (x1 : Int32) (x3 : Int32) (x4 : Int32) (x5 : Int32) (σ : nd_Mem) (h : f_X11_runs_170 F rec12 x1 x3 x4 x5 σ = some z) : nd_V M_X11_runs (nd_rm 1) (nd_Pi (nd_SH ++ t) z) 0 0 170 [(0, .ref 60), (1, .int x1), (3, .int x3), (4, .int x4), (5, .int x5)] [] (nd_SH ++ t) σ := by
  unfold f_X11_runs_170 at h
  refine nd_iinc (v := (x5 + (1 : Int32))) (ls' := [(5, .int (x5 + (1 : Int32))), (0, .ref 60), (1, .int x1), (3, .int x3), (4, .int x4)]) dX11_runs_170 4 rfl (congrArg (HAdd.hAdd _) ic_1) (by decide) rfl ?_
  refine nd_goto dX11_runs_173 12 (by decide) ?_
  refine nd_sub [1, 2, 3, 4, 0] rfl ?_
  exact hrec12 _ _ _ _ _ h
set_option maxRecDepth 100000 in
set_option maxHeartbeats 4000000 in
theorem b_X11_runs_83 (F : Nat) (rec12 : Int32 → Int32 → Int32 → Int32 → nd_Mem → nd_Res) (t : List nd_S) (hL : (nd_SH ++ t).length < nd_ro) {z : Int32 × nd_Mem} (hrec12 : ∀ (x1 : Int32) (x3 : Int32) (x4 : Int32) (x5 : Int32) (σ : nd_Mem), rec12 x1 x3 x4 x5 σ = some z → nd_V M_X11_runs (nd_rm 1) (nd_Pi (nd_SH ++ t) z) 0 0 12 [(0, .ref 60), (1, .int x1), (3, .int x3), (4, .int x4), (5, .int x5)] [] (nd_SH ++ t) σ) (x1 : Int32) (x3 : Int32) (x4 : Int32) (x5 : Int32) (s0 : Int32) (s1 : Int32) (σ : nd_Mem) (h : f_X11_runs_83 F rec12 x1 x3 x4 x5 s0 s1 σ = some z) : nd_V M_X11_runs (nd_rm 1) (nd_Pi (nd_SH ++ t) z) 0 0 83 [(0, .ref 60), (1, .int x1), (3, .int x3), (4, .int x4), (5, .int x5)] [.int s0, .int s1, .ref 79] (nd_SH ++ t) σ := by
  unfold f_X11_runs_83 at h
  refine nd_iastoreN dX11_runs_83 (sh_79 t) h (fun σ1 h => ?_)
  refine nd_iload dX11_runs_84 3 rfl ?_
  refine nd_iconst dX11_runs_86 ic_1 ?_
  refine nd_iadd dX11_runs_87 ?_
  refine nd_istore (ls' := [(4, .int (x4 + (1 : Int32))), (0, .ref 60), (1, .int x1), (3, .int x3), (5, .int x5)]) dX11_runs_88 (by decide) rfl ?_
  refine nd_goto dX11_runs_90 170 (by decide) ?_
  refine nd_sub [1, 2, 3, 0, 4] rfl ?_
  exact b_X11_runs_170 F _ t hL hrec12 _ _ _ _ _ h
set_option maxRecDepth 100000 in
set_option maxHeartbeats 4000000 in
theorem b_X11_runs_45 (F : Nat) (rec12 : Int32 → Int32 → Int32 → Int32 → nd_Mem → nd_Res) (t : List nd_S) (hL : (nd_SH ++ t).length < nd_ro) {z : Int32 × nd_Mem} (hrec12 : ∀ (x1 : Int32) (x3 : Int32) (x4 : Int32) (x5 : Int32) (σ : nd_Mem), rec12 x1 x3 x4 x5 σ = some z → nd_V M_X11_runs (nd_rm 1) (nd_Pi (nd_SH ++ t) z) 0 0 12 [(0, .ref 60), (1, .int x1), (3, .int x3), (4, .int x4), (5, .int x5)] [] (nd_SH ++ t) σ) (x1 : Int32) (x3 : Int32) (x4 : Int32) (x5 : Int32) (σ : nd_Mem) (h : f_X11_runs_45 F rec12 x1 x3 x4 x5 σ = some z) : nd_V M_X11_runs (nd_rm 1) (nd_Pi (nd_SH ++ t) z) 0 0 45 [(0, .ref 60), (1, .int x1), (3, .int x3), (4, .int x4), (5, .int x5)] [] (nd_SH ++ t) σ := by
  unfold f_X11_runs_45 at h
  refine nd_aload_n dX11_runs_45 0 rfl ?_
  refine nd_get dX11_runs_46 gf_X11_68 (sh_60 t) rfl ?_
  refine nd_iload dX11_runs_49 3 rfl ?_
  refine nd_aload_n dX11_runs_51 0 rfl ?_
  refine nd_get dX11_runs_52 gf_X11_43 (sh_60 t) rfl ?_
  refine nd_iload dX11_runs_55 4 rfl ?_
  refine nd_ialoadN dX11_runs_57 (sh_72 t) h (fun h => ?_)
  refine nd_if_neN dX11_runs_58 71 (by decide) h (fun h => ?_) (fun h => ?_)
  · refine nd_aload_n dX11_runs_71 0 rfl ?_
    refine nd_get dX11_runs_72 gf_X11_65 (sh_60 t) rfl ?_
    refine nd_aload_n dX11_runs_75 0 rfl ?_
    refine nd_get dX11_runs_76 gf_X11_46 (sh_60 t) rfl ?_
    refine nd_iload dX11_runs_79 4 rfl ?_
    refine nd_ialoadN dX11_runs_81 (sh_73 t) h (fun h => ?_)
    refine nd_ialoadN dX11_runs_82 (sh_78 t) h (fun h => ?_)
    exact b_X11_runs_83 F _ t hL hrec12 _ _ _ _ _ _ _ h
  · refine nd_aload_n dX11_runs_61 0 rfl ?_
    refine nd_get dX11_runs_62 gf_X11_46 (sh_60 t) rfl ?_
    refine nd_iload dX11_runs_65 4 rfl ?_
    refine nd_ialoadN dX11_runs_67 (sh_73 t) h (fun h => ?_)
    refine nd_goto dX11_runs_68 83 (by decide) ?_
    exact b_X11_runs_83 F _ t hL hrec12 _ _ _ _ _ _ _ h
set_option maxRecDepth 100000 in
set_option maxHeartbeats 4000000 in
theorem b_X11_runs_12 (F : Nat) (t : List nd_S) (hL : (nd_SH ++ t).length < nd_ro) {z : Int32 × nd_Mem} (m9 : Nat) : ∀ (x1 : Int32) (x3 : Int32) (x4 : Int32) (x5 : Int32) (σ : nd_Mem), f_X11_runs_12 F m9 x1 x3 x4 x5 σ = some z → nd_V M_X11_runs (nd_rm 1) (nd_Pi (nd_SH ++ t) z) 0 0 12 [(0, .ref 60), (1, .int x1), (3, .int x3), (4, .int x4), (5, .int x5)] [] (nd_SH ++ t) σ := by
  induction m9 with
  | zero =>
    intro x1 x3 x4 x5 σ h
    have h : none = some z := h
    cases h
  | succ m9 hrec12 =>
    intro x1 x3 x4 x5 σ h
    have h : f_X11_runs_12_b F (f_X11_runs_12 F m9) x1 x3 x4 x5 σ = some z := h
    unfold f_X11_runs_12_b at h
    refine nd_iload dX11_runs_12 4 rfl ?_
    refine nd_sipush dX11_runs_14 is_400 ?_
    refine nd_iload_n dX11_runs_17 1 rfl ?_
    refine nd_imul dX11_runs_18 ?_
    refine nd_iload_n dX11_runs_19 2 rfl ?_
    refine nd_iadd dX11_runs_20 ?_
    refine nd_icmp_geN dX11_runs_21 176 (by decide) h (fun h => ?_) (fun h => ?_)
    · refine nd_aload_n dX11_runs_176 0 rfl ?_
      refine nd_get dX11_runs_177 gf_X11_68 (sh_60 t) rfl ?_
      refine nd_iconst dX11_runs_180 ic_0 ?_
      refine nd_ialoadN dX11_runs_181 (sh_79 t) h (fun h => ?_)
      exact nd_iret dX11_runs_182 (Nat.zero_le _) (Nat.zero_le _) (vp_nar_int _) (by cases h; exact ⟨rfl, rfl, rfl⟩)
    · refine nd_aload_n dX11_runs_24 0 rfl ?_
      refine nd_get dX11_runs_25 gf_X11_43 (sh_60 t) rfl ?_
      refine nd_iload dX11_runs_28 4 rfl ?_
      refine nd_ialoadN dX11_runs_30 (sh_72 t) h (fun h => ?_)
      refine nd_if_eqN dX11_runs_31 45 (by decide) h (fun h => ?_) (fun h => ?_)
      · exact b_X11_runs_45 F _ t hL hrec12 _ _ _ _ _ h
      · refine nd_aload_n dX11_runs_34 0 rfl ?_
        refine nd_get dX11_runs_35 gf_X11_43 (sh_60 t) rfl ?_
        refine nd_iload dX11_runs_38 4 rfl ?_
        refine nd_ialoadN dX11_runs_40 (sh_72 t) h (fun h => ?_)
        refine nd_iconst dX11_runs_41 ic_1 ?_
        refine nd_icmp_neN dX11_runs_42 93 (by decide) h (fun h => ?_) (fun h => ?_)
        · refine nd_aload_n dX11_runs_93 0 rfl ?_
          refine nd_get dX11_runs_94 gf_X11_43 (sh_60 t) rfl ?_
          refine nd_iload dX11_runs_97 4 rfl ?_
          refine nd_ialoadN dX11_runs_99 (sh_72 t) h (fun h => ?_)
          refine nd_bipush dX11_runs_100 ib_9 ?_
          refine nd_icmp_neN dX11_runs_102 128 (by decide) h (fun h => ?_) (fun h => ?_)
          · refine nd_iload dX11_runs_128 3 rfl ?_
            refine nd_iconst dX11_runs_130 ic_1 ?_
            refine nd_isub dX11_runs_131 ?_
            refine nd_istore (ls' := [(4, .int (x4 - (1 : Int32))), (0, .ref 60), (1, .int x1), (3, .int x3), (5, .int x5)]) dX11_runs_132 (by decide) rfl ?_
            refine nd_aload_n dX11_runs_134 1 rfl ?_
            refine nd_get dX11_runs_135 gf_X11_68 (sh_60 t) rfl ?_
            refine nd_iload dX11_runs_138 0 rfl ?_
            refine nd_iconst dX11_runs_140 ic_1 ?_
            refine nd_isub dX11_runs_141 ?_
            refine nd_aload_n dX11_runs_142 1 rfl ?_
            refine nd_aload_n dX11_runs_143 1 rfl ?_
            refine nd_get dX11_runs_144 gf_X11_43 (sh_60 t) rfl ?_
            refine nd_iload dX11_runs_147 4 rfl ?_
            refine nd_ialoadN dX11_runs_149 (sh_72 t) h (fun h => ?_)
            refine nd_aload_n dX11_runs_150 1 rfl ?_
            refine nd_get dX11_runs_151 gf_X11_68 (sh_60 t) rfl ?_
            refine nd_iload dX11_runs_154 0 rfl ?_
            refine nd_iconst dX11_runs_156 ic_1 ?_
            refine nd_isub dX11_runs_157 ?_
            refine nd_ialoadN dX11_runs_158 (sh_79 t) h (fun h => ?_)
            refine nd_aload_n dX11_runs_159 1 rfl ?_
            refine nd_get dX11_runs_160 gf_X11_68 (sh_60 t) rfl ?_
            refine nd_iload dX11_runs_163 0 rfl ?_
            refine nd_ialoadN dX11_runs_165 (sh_79 t) h (fun h => ?_)
            obtain ⟨r1, σ2, hc3, h⟩ := nd_bind_e h
            refine nd_cvi [.int (σ 72 (x5).toNatClampNeg), .int (σ 79 (((x4 - (1 : Int32)) - (1 : Int32))).toNatClampNeg), .int (σ 79 ((x4 - (1 : Int32))).toNatClampNeg)] [.int ((x4 - (1 : Int32)) - (1 : Int32)), .ref 79] dX11_runs_166 cl_X11_307 (sh_60 t) ⟨Nat.le_of_ble_eq_true rfl, Nat.le_of_ble_eq_true rfl⟩ rfl (Nat.le_of_ble_eq_true rfl) hL (t_X11_twoOf F t hL _ _ _ _ hc3) ?_
            refine nd_iastoreN dX11_runs_169 (sh_79 t) h (fun σ4 h => ?_)
            refine nd_sub [1, 2, 3, 0, 4] rfl ?_
            exact b_X11_runs_170 F _ t hL hrec12 _ _ _ _ _ h
          · refine nd_aload_n dX11_runs_105 0 rfl ?_
            refine nd_get dX11_runs_106 gf_X11_68 (sh_60 t) rfl ?_
            refine nd_iload dX11_runs_109 3 rfl ?_
            refine nd_iconst dX11_runs_111 ic_1 ?_
            refine nd_isub dX11_runs_112 ?_
            refine nd_iconst dX11_runs_113 ic_1 ?_
            refine nd_aload_n dX11_runs_114 0 rfl ?_
            refine nd_get dX11_runs_115 gf_X11_68 (sh_60 t) rfl ?_
            refine nd_iload dX11_runs_118 3 rfl ?_
            refine nd_iconst dX11_runs_120 ic_1 ?_
            refine nd_isub dX11_runs_121 ?_
            refine nd_ialoadN dX11_runs_122 (sh_79 t) h (fun h => ?_)
            refine nd_isub dX11_runs_123 ?_
            refine nd_iastoreN dX11_runs_124 (sh_79 t) h (fun σ5 h => ?_)
            refine nd_goto dX11_runs_125 170 (by decide) ?_
            exact b_X11_runs_170 F _ t hL hrec12 _ _ _ _ _ h
        · exact b_X11_runs_45 F _ t hL hrec12 _ _ _ _ _ h
set_option maxRecDepth 100000 in
set_option maxHeartbeats 4000000 in
theorem t_X11_runs (F : Nat) (t : List nd_S) (hL : (nd_SH ++ t).length < nd_ro) {z : Int32 × nd_Mem} (x1 : Int32) (x2 : Int32) (x3 : Int32) (σ : nd_Mem) (h : f_X11_runs F x1 x2 x3 σ = some z) : nd_Fn M_X11_runs (nd_rm 1) [.ref 60, .int x1, .int x2, .int x3] (nd_SH ++ t) σ (nd_Pi (nd_SH ++ t) z) := by
  refine nd_Fn.ofV (ls := [(0, .ref 60), (1, .int x1), (2, .int x2), (3, .int x3)]) pl_X11_runs rfl (fun _ => Nat.le_of_ble_eq_true rfl) (fun _ => rfl) ?_
  unfold f_X11_runs at h
  refine nd_iconst dX11_runs_0 ic_0 ?_
  refine nd_istore (ls' := [(4, .int (0 : Int32)), (0, .ref 60), (1, .int x1), (2, .int x2), (3, .int x3)]) dX11_runs_1 (by decide) rfl ?_
  refine nd_sipush dX11_runs_3 is_400 ?_
  refine nd_iload_n dX11_runs_6 2 rfl ?_
  refine nd_imul dX11_runs_7 ?_
  refine nd_iload_n dX11_runs_8 3 rfl ?_
  refine nd_iadd dX11_runs_9 ?_
  refine nd_istore (ls' := [(5, .int (((400 : Int32) * x1) + x2)), (4, .int (0 : Int32)), (0, .ref 60), (1, .int x1), (2, .int x2), (3, .int x3)]) dX11_runs_10 (by decide) rfl ?_
  refine nd_sub [2, 3, 5, 1, 0] rfl ?_
  exact b_X11_runs_12 F t hL F _ _ _ _ _ h
def f_X11_set_54 (F : Nat) (σ : nd_Mem) : nd_Res := (some ((0 : Int32), σ))
def f_X11_set_130 (F : Nat) (σ : nd_Mem) : nd_Res := (nd_let (nd_up σ 60 3 (0 : Int32)) fun σ1 => (some ((1 : Int32), σ1)))
def f_X11_set_115 (F : Nat) (x1 : Int32) (x2 : Int32) (x3 : Int32) (σ : nd_Mem) : nd_Res := (if x1 = (4 : Int32) then (if ((87 : Int32) + x2) < 0 ∨ 103 ≤ (((87 : Int32) + x2)).toNatClampNeg then none else (nd_let (nd_up σ 61 (((87 : Int32) + x2)).toNatClampNeg x3) fun σ1 => (f_X11_set_130 F σ1))) else (f_X11_set_130 F σ))
def f_X11_set_100 (F : Nat) (x1 : Int32) (x2 : Int32) (x3 : Int32) (σ : nd_Mem) : nd_Res := (if x1 = (3 : Int32) then (if ((39 : Int32) + x2) < 0 ∨ 103 ≤ (((39 : Int32) + x2)).toNatClampNeg then none else (nd_let (nd_up σ 61 (((39 : Int32) + x2)).toNatClampNeg x3) fun σ1 => (f_X11_set_115 F x1 x2 x3 σ1))) else (f_X11_set_115 F x1 x2 x3 σ))
def f_X11_set_85 (F : Nat) (x1 : Int32) (x2 : Int32) (x3 : Int32) (σ : nd_Mem) : nd_Res := (if x1 = (2 : Int32) then (if ((55 : Int32) + x2) < 0 ∨ 103 ≤ (((55 : Int32) + x2)).toNatClampNeg then none else (nd_let (nd_up σ 61 (((55 : Int32) + x2)).toNatClampNeg x3) fun σ1 => (f_X11_set_100 F x1 x2 x3 σ1))) else (f_X11_set_100 F x1 x2 x3 σ))
def f_X11_set_70 (F : Nat) (x1 : Int32) (x2 : Int32) (x3 : Int32) (σ : nd_Mem) : nd_Res := (if x1 = (1 : Int32) then (if ((23 : Int32) + x2) < 0 ∨ 103 ≤ (((23 : Int32) + x2)).toNatClampNeg then none else (nd_let (nd_up σ 61 (((23 : Int32) + x2)).toNatClampNeg x3) fun σ1 => (f_X11_set_85 F x1 x2 x3 σ1))) else (f_X11_set_85 F x1 x2 x3 σ))
def f_X11_set_48 (F : Nat) (x1 : Int32) (x2 : Int32) (x3 : Int32) (s0 : Int32) (s1 : Int32) (s2 : Int32) (σ : nd_Mem) : nd_Res := (nd_bind (f_X11_isIn F s2 s1 s0 σ) fun r1 σ2 => (if r1 = 0 then (f_X11_set_54 F σ2) else (if x1 = 0 then (if ((7 : Int32) + x2) < 0 ∨ 103 ≤ (((7 : Int32) + x2)).toNatClampNeg then none else (nd_let (nd_up σ2 61 (((7 : Int32) + x2)).toNatClampNeg x3) fun σ4 => (f_X11_set_70 F x1 x2 x3 σ4))) else (f_X11_set_70 F x1 x2 x3 σ2))))
def f_X11_set (F : Nat) (x1 : Int32) (x2 : Int32) (x3 : Int32) (σ : nd_Mem) : nd_Res := (nd_let (nd_up σ 60 0 (0 : Int32)) fun σ1 => (nd_bind (f_X11_isIn F x1 (0 : Int32) (4 : Int32) σ1) fun r2 σ3 => (if r2 = 0 then (f_X11_set_54 F σ3) else (nd_bind (f_X11_isHouse F x2 σ3) fun r5 σ6 => (if r5 = 0 then (f_X11_set_54 F σ6) else (if x1 = (2 : Int32) then (f_X11_set_48 F x1 x2 x3 (9999 : Int32) (0 : Int32) x3 σ6) else (if x1 = (4 : Int32) then (f_X11_set_48 F x1 x2 x3 (1 : Int32) (0 : Int32) x3 σ6) else (f_X11_set_48 F x1 x2 x3 (9 : Int32) (0 : Int32) x3 σ6))))))))
set_option maxRecDepth 100000 in
set_option maxHeartbeats 4000000 in
theorem b_X11_set_54 (F : Nat) (t : List nd_S) (hL : (nd_SH ++ t).length < nd_ro) {z : Int32 × nd_Mem} (σ : nd_Mem) (h : f_X11_set_54 F σ = some z) : nd_V M_X11_set (nd_rm 1) (nd_Pi (nd_SH ++ t) z) 0 0 54 [(0, .ref 60)] [] (nd_SH ++ t) σ := by
  unfold f_X11_set_54 at h
  refine nd_iconst dX11_set_54 ic_0 ?_
  exact nd_iret dX11_set_55 (Nat.zero_le _) (Nat.zero_le _) rfl (by cases h; exact ⟨rfl, rfl, rfl⟩)
set_option maxRecDepth 100000 in
set_option maxHeartbeats 4000000 in
theorem b_X11_set_130 (F : Nat) (t : List nd_S) (hL : (nd_SH ++ t).length < nd_ro) {z : Int32 × nd_Mem} (σ : nd_Mem) (h : f_X11_set_130 F σ = some z) : nd_V M_X11_set (nd_rm 1) (nd_Pi (nd_SH ++ t) z) 0 0 130 [(0, .ref 60)] [] (nd_SH ++ t) σ := by
  unfold f_X11_set_130 at h
  refine nd_aload_n dX11_set_130 0 rfl ?_
  refine nd_iconst dX11_set_131 ic_0 ?_
  refine nd_putiN dX11_set_132 pf_X11_135 (sh_60 t) rfl h (fun σ1 h => ?_)
  refine nd_iconst dX11_set_135 ic_1 ?_
  exact nd_iret dX11_set_136 (Nat.zero_le _) (Nat.zero_le _) rfl (by cases h; exact ⟨rfl, rfl, rfl⟩)
set_option maxRecDepth 100000 in
set_option maxHeartbeats 4000000 in
theorem b_X11_set_115 (F : Nat) (t : List nd_S) (hL : (nd_SH ++ t).length < nd_ro) {z : Int32 × nd_Mem} (x1 : Int32) (x2 : Int32) (x3 : Int32) (σ : nd_Mem) (h : f_X11_set_115 F x1 x2 x3 σ = some z) : nd_V M_X11_set (nd_rm 1) (nd_Pi (nd_SH ++ t) z) 0 0 115 [(0, .ref 60), (1, .int x1), (2, .int x2), (3, .int x3)] [] (nd_SH ++ t) σ := by
  unfold f_X11_set_115 at h
  refine nd_iload_n dX11_set_115 1 rfl ?_
  refine nd_iconst dX11_set_116 ic_4 ?_
  refine nd_icmp_neN dX11_set_117 130 (by decide) h (fun h => ?_) (fun h => ?_)
  · refine nd_sub [0] rfl ?_
    exact b_X11_set_130 F t hL _ h
  · refine nd_aload_n dX11_set_120 0 rfl ?_
    refine nd_get dX11_set_121 gf_X11_7 (sh_60 t) rfl ?_
    refine nd_bipush dX11_set_124 ib_87 ?_
    refine nd_iload_n dX11_set_126 2 rfl ?_
    refine nd_iadd dX11_set_127 ?_
    refine nd_iload_n dX11_set_128 3 rfl ?_
    refine nd_iastoreN dX11_set_129 (sh_61 t) h (fun σ1 h => ?_)
    refine nd_sub [0] rfl ?_
    exact b_X11_set_130 F t hL _ h
set_option maxRecDepth 100000 in
set_option maxHeartbeats 4000000 in
theorem b_X11_set_100 (F : Nat) (t : List nd_S) (hL : (nd_SH ++ t).length < nd_ro) {z : Int32 × nd_Mem} (x1 : Int32) (x2 : Int32) (x3 : Int32) (σ : nd_Mem) (h : f_X11_set_100 F x1 x2 x3 σ = some z) : nd_V M_X11_set (nd_rm 1) (nd_Pi (nd_SH ++ t) z) 0 0 100 [(0, .ref 60), (1, .int x1), (2, .int x2), (3, .int x3)] [] (nd_SH ++ t) σ := by
  unfold f_X11_set_100 at h
  refine nd_iload_n dX11_set_100 1 rfl ?_
  refine nd_iconst dX11_set_101 ic_3 ?_
  refine nd_icmp_neN dX11_set_102 115 (by decide) h (fun h => ?_) (fun h => ?_)
  · exact b_X11_set_115 F t hL _ _ _ _ h
  · refine nd_aload_n dX11_set_105 0 rfl ?_
    refine nd_get dX11_set_106 gf_X11_7 (sh_60 t) rfl ?_
    refine nd_bipush dX11_set_109 ib_39 ?_
    refine nd_iload_n dX11_set_111 2 rfl ?_
    refine nd_iadd dX11_set_112 ?_
    refine nd_iload_n dX11_set_113 3 rfl ?_
    refine nd_iastoreN dX11_set_114 (sh_61 t) h (fun σ1 h => ?_)
    exact b_X11_set_115 F t hL _ _ _ _ h
set_option maxRecDepth 100000 in
set_option maxHeartbeats 4000000 in
theorem b_X11_set_85 (F : Nat) (t : List nd_S) (hL : (nd_SH ++ t).length < nd_ro) {z : Int32 × nd_Mem} (x1 : Int32) (x2 : Int32) (x3 : Int32) (σ : nd_Mem) (h : f_X11_set_85 F x1 x2 x3 σ = some z) : nd_V M_X11_set (nd_rm 1) (nd_Pi (nd_SH ++ t) z) 0 0 85 [(0, .ref 60), (1, .int x1), (2, .int x2), (3, .int x3)] [] (nd_SH ++ t) σ := by
  unfold f_X11_set_85 at h
  refine nd_iload_n dX11_set_85 1 rfl ?_
  refine nd_iconst dX11_set_86 ic_2 ?_
  refine nd_icmp_neN dX11_set_87 100 (by decide) h (fun h => ?_) (fun h => ?_)
  · exact b_X11_set_100 F t hL _ _ _ _ h
  · refine nd_aload_n dX11_set_90 0 rfl ?_
    refine nd_get dX11_set_91 gf_X11_7 (sh_60 t) rfl ?_
    refine nd_bipush dX11_set_94 ib_55 ?_
    refine nd_iload_n dX11_set_96 2 rfl ?_
    refine nd_iadd dX11_set_97 ?_
    refine nd_iload_n dX11_set_98 3 rfl ?_
    refine nd_iastoreN dX11_set_99 (sh_61 t) h (fun σ1 h => ?_)
    exact b_X11_set_100 F t hL _ _ _ _ h
set_option maxRecDepth 100000 in
set_option maxHeartbeats 4000000 in
theorem b_X11_set_70 (F : Nat) (t : List nd_S) (hL : (nd_SH ++ t).length < nd_ro) {z : Int32 × nd_Mem} (x1 : Int32) (x2 : Int32) (x3 : Int32) (σ : nd_Mem) (h : f_X11_set_70 F x1 x2 x3 σ = some z) : nd_V M_X11_set (nd_rm 1) (nd_Pi (nd_SH ++ t) z) 0 0 70 [(0, .ref 60), (1, .int x1), (2, .int x2), (3, .int x3)] [] (nd_SH ++ t) σ := by
  unfold f_X11_set_70 at h
  refine nd_iload_n dX11_set_70 1 rfl ?_
  refine nd_iconst dX11_set_71 ic_1 ?_
  refine nd_icmp_neN dX11_set_72 85 (by decide) h (fun h => ?_) (fun h => ?_)
  · exact b_X11_set_85 F t hL _ _ _ _ h
  · refine nd_aload_n dX11_set_75 0 rfl ?_
    refine nd_get dX11_set_76 gf_X11_7 (sh_60 t) rfl ?_
    refine nd_bipush dX11_set_79 ib_23 ?_
    refine nd_iload_n dX11_set_81 2 rfl ?_
    refine nd_iadd dX11_set_82 ?_
    refine nd_iload_n dX11_set_83 3 rfl ?_
    refine nd_iastoreN dX11_set_84 (sh_61 t) h (fun σ1 h => ?_)
    exact b_X11_set_85 F t hL _ _ _ _ h
set_option maxRecDepth 100000 in
set_option maxHeartbeats 4000000 in
theorem b_X11_set_48 (F : Nat) (t : List nd_S) (hL : (nd_SH ++ t).length < nd_ro) {z : Int32 × nd_Mem} (x1 : Int32) (x2 : Int32) (x3 : Int32) (s0 : Int32) (s1 : Int32) (s2 : Int32) (σ : nd_Mem) (h : f_X11_set_48 F x1 x2 x3 s0 s1 s2 σ = some z) : nd_V M_X11_set (nd_rm 1) (nd_Pi (nd_SH ++ t) z) 0 0 48 [(0, .ref 60), (1, .int x1), (2, .int x2), (3, .int x3)] [.int s0, .int s1, .int s2, .ref 60] (nd_SH ++ t) σ := by
  unfold f_X11_set_48 at h
  obtain ⟨r1, σ2, hc3, h⟩ := nd_bind_e h
  refine nd_cvi [.int s2, .int s1, .int s0] [] dX11_set_48 cl_X11_147 (sh_60 t) ⟨Nat.le_of_ble_eq_true rfl, Nat.le_of_ble_eq_true rfl⟩ rfl (Nat.le_of_ble_eq_true rfl) hL (t_X11_isIn F t hL _ _ _ _ hc3) ?_
  refine nd_if_neN dX11_set_51 56 (by decide) h (fun h => ?_) (fun h => ?_)
  · refine nd_iload_n dX11_set_56 1 rfl ?_
    refine nd_if_neN dX11_set_57 70 (by decide) h (fun h => ?_) (fun h => ?_)
    · exact b_X11_set_70 F t hL _ _ _ _ h
    · refine nd_aload_n dX11_set_60 0 rfl ?_
      refine nd_get dX11_set_61 gf_X11_7 (sh_60 t) rfl ?_
      refine nd_bipush dX11_set_64 ib_7 ?_
      refine nd_iload_n dX11_set_66 2 rfl ?_
      refine nd_iadd dX11_set_67 ?_
      refine nd_iload_n dX11_set_68 3 rfl ?_
      refine nd_iastoreN dX11_set_69 (sh_61 t) h (fun σ4 h => ?_)
      exact b_X11_set_70 F t hL _ _ _ _ h
  · refine nd_sub [0] rfl ?_
    exact b_X11_set_54 F t hL _ h
set_option maxRecDepth 100000 in
set_option maxHeartbeats 4000000 in
theorem t_X11_set (F : Nat) (t : List nd_S) (hL : (nd_SH ++ t).length < nd_ro) {z : Int32 × nd_Mem} (x1 : Int32) (x2 : Int32) (x3 : Int32) (σ : nd_Mem) (h : f_X11_set F x1 x2 x3 σ = some z) : nd_Fn M_X11_set (nd_rm 1) [.ref 60, .int x1, .int x2, .int x3] (nd_SH ++ t) σ (nd_Pi (nd_SH ++ t) z) := by
  refine nd_Fn.ofV (ls := [(0, .ref 60), (1, .int x1), (2, .int x2), (3, .int x3)]) pl_X11_set rfl (fun _ => Nat.le_of_ble_eq_true rfl) (fun _ => rfl) ?_
  unfold f_X11_set at h
  refine nd_aload_n dX11_set_0 0 rfl ?_
  refine nd_iconst dX11_set_1 ic_0 ?_
  refine nd_putiN dX11_set_2 pf_X11_132 (sh_60 t) rfl h (fun σ1 h => ?_)
  refine nd_aload_n dX11_set_5 0 rfl ?_
  refine nd_iload_n dX11_set_6 1 rfl ?_
  refine nd_iconst dX11_set_7 ic_0 ?_
  refine nd_iconst dX11_set_8 ic_4 ?_
  obtain ⟨r2, σ3, hc4, h⟩ := nd_bind_e h
  refine nd_cvi [.int x1, .int (0 : Int32), .int (4 : Int32)] [] dX11_set_9 cl_X11_147 (sh_60 t) ⟨Nat.le_of_ble_eq_true rfl, Nat.le_of_ble_eq_true rfl⟩ rfl (Nat.le_of_ble_eq_true rfl) hL (t_X11_isIn F t hL _ _ _ _ hc4) ?_
  refine nd_if_eqN dX11_set_12 54 (by decide) h (fun h => ?_) (fun h => ?_)
  · refine nd_sub [0] rfl ?_
    exact b_X11_set_54 F t hL _ h
  · refine nd_aload_n dX11_set_15 0 rfl ?_
    refine nd_iload_n dX11_set_16 2 rfl ?_
    obtain ⟨r5, σ6, hc7, h⟩ := nd_bind_e h
    refine nd_cvi [.int x2] [] dX11_set_17 cl_X11_151 (sh_60 t) ⟨Nat.le_of_ble_eq_true rfl, Nat.le_of_ble_eq_true rfl⟩ rfl (Nat.le_of_ble_eq_true rfl) hL (t_X11_isHouse F t hL _ _ hc7) ?_
    refine nd_if_eqN dX11_set_20 54 (by decide) h (fun h => ?_) (fun h => ?_)
    · refine nd_sub [0] rfl ?_
      exact b_X11_set_54 F t hL _ h
    · refine nd_aload_n dX11_set_23 0 rfl ?_
      refine nd_iload_n dX11_set_24 3 rfl ?_
      refine nd_iconst dX11_set_25 ic_0 ?_
      refine nd_iload_n dX11_set_26 1 rfl ?_
      refine nd_iconst dX11_set_27 ic_2 ?_
      refine nd_icmp_neN dX11_set_28 37 (by decide) h (fun h => ?_) (fun h => ?_)
      · refine nd_iload_n dX11_set_37 1 rfl ?_
        refine nd_iconst dX11_set_38 ic_4 ?_
        refine nd_icmp_neN dX11_set_39 46 (by decide) h (fun h => ?_) (fun h => ?_)
        · refine nd_bipush dX11_set_46 ib_9 ?_
          exact b_X11_set_48 F t hL _ _ _ _ _ _ _ h
        · refine nd_iconst dX11_set_42 ic_1 ?_
          refine nd_goto dX11_set_43 48 (by decide) ?_
          exact b_X11_set_48 F t hL _ _ _ _ _ _ _ h
      · refine nd_sipush dX11_set_31 is_9999 ?_
        refine nd_goto dX11_set_34 48 (by decide) ?_
        exact b_X11_set_48 F t hL _ _ _ _ _ _ _ h
def f_X11_settles_0_b (F : Nat) (rec0 : Int32 → nd_Mem → nd_Res) (x1 : Int32) (σ : nd_Mem) : nd_Res := (if (σ 60 26) ≤ 0 then (some (0, σ)) else (if ((σ 60 26) - (1 : Int32)) < 0 ∨ 40 ≤ (((σ 60 26) - (1 : Int32))).toNatClampNeg then none else (if (σ 74 (((σ 60 26) - (1 : Int32))).toNatClampNeg) = x1 then (nd_let (nd_up σ 60 26 ((σ 60 26) - (1 : Int32))) fun σ1 => (nd_bind (f_X11_emits F x1 (0 : Int32) σ1) fun r2 σ3 => (if x1 = (9 : Int32) then (nd_let (nd_up σ3 60 24 ((σ3 60 24) - (1 : Int32))) fun σ5 => (rec0 x1 σ5)) else (rec0 x1 σ3)))) else (some (0, σ)))))
def f_X11_settles_0 (F : Nat) : Nat → Int32 → nd_Mem → nd_Res
  | 0, _, _ => none
  | m9 + 1, x1, σ => f_X11_settles_0_b F (f_X11_settles_0 F m9) x1 σ
def f_X11_settles (F : Nat) (x1 : Int32) (σ : nd_Mem) : nd_Res := (f_X11_settles_0 F F x1 σ)
set_option maxRecDepth 100000 in
set_option maxHeartbeats 4000000 in
theorem b_X11_settles_0 (F : Nat) (t : List nd_S) (hL : (nd_SH ++ t).length < nd_ro) {z : Int32 × nd_Mem} (m9 : Nat) : ∀ (x1 : Int32) (σ : nd_Mem), f_X11_settles_0 F m9 x1 σ = some z → nd_V M_X11_settles (nd_rm 1) (nd_Pv (nd_SH ++ t) z) 0 0 0 [(0, .ref 60), (1, .int x1)] [] (nd_SH ++ t) σ := by
  induction m9 with
  | zero =>
    intro x1 σ h
    have h : none = some z := h
    cases h
  | succ m9 hrec0 =>
    intro x1 σ h
    have h : f_X11_settles_0_b F (f_X11_settles_0 F m9) x1 σ = some z := h
    unfold f_X11_settles_0_b at h
    refine nd_aload_n dX11_settles_0 0 rfl ?_
    refine nd_get dX11_settles_1 gf_X11_226 (sh_60 t) rfl ?_
    refine nd_if_leN dX11_settles_4 57 (by decide) h (fun h => ?_) (fun h => ?_)
    · exact nd_vret dX11_settles_57 (Nat.zero_le _) (Nat.zero_le _) trivial (by cases h; exact ⟨rfl, rfl, rfl⟩)
    · refine nd_aload_n dX11_settles_7 0 rfl ?_
      refine nd_get dX11_settles_8 gf_X11_49 (sh_60 t) rfl ?_
      refine nd_aload_n dX11_settles_11 0 rfl ?_
      refine nd_get dX11_settles_12 gf_X11_226 (sh_60 t) rfl ?_
      refine nd_iconst dX11_settles_15 ic_1 ?_
      refine nd_isub dX11_settles_16 ?_
      refine nd_ialoadN dX11_settles_17 (sh_74 t) h (fun h => ?_)
      refine nd_iload_n dX11_settles_18 1 rfl ?_
      refine nd_icmp_neN dX11_settles_19 57 (by decide) h (fun h => ?_) (fun h => ?_)
      · exact nd_vret dX11_settles_57 (Nat.zero_le _) (Nat.zero_le _) trivial (by cases h; exact ⟨rfl, rfl, rfl⟩)
      · refine nd_aload_n dX11_settles_22 0 rfl ?_
        refine nd_aload_n dX11_settles_23 0 rfl ?_
        refine nd_get dX11_settles_24 gf_X11_226 (sh_60 t) rfl ?_
        refine nd_iconst dX11_settles_27 ic_1 ?_
        refine nd_isub dX11_settles_28 ?_
        refine nd_putiN dX11_settles_29 pf_X11_226 (sh_60 t) rfl h (fun σ1 h => ?_)
        refine nd_aload_n dX11_settles_32 0 rfl ?_
        refine nd_iload_n dX11_settles_33 1 rfl ?_
        refine nd_iconst dX11_settles_34 ic_0 ?_
        obtain ⟨r2, σ3, hc4, h⟩ := nd_bind_e h
        refine nd_cvv [.int x1, .int (0 : Int32)] [] dX11_settles_35 cl_X11_206 (sh_60 t) ⟨Nat.le_of_ble_eq_true rfl, Nat.le_of_ble_eq_true rfl⟩ rfl (Nat.le_of_ble_eq_true rfl) hL (t_X11_emits F t hL _ _ _ hc4) ?_
        refine nd_iload_n dX11_settles_38 1 rfl ?_
        refine nd_bipush dX11_settles_39 ib_9 ?_
        refine nd_icmp_neN dX11_settles_41 0 (by decide) h (fun h => ?_) (fun h => ?_)
        · exact hrec0 _ _ h
        · refine nd_aload_n dX11_settles_44 0 rfl ?_
          refine nd_aload_n dX11_settles_45 0 rfl ?_
          refine nd_get dX11_settles_46 gf_X11_229 (sh_60 t) rfl ?_
          refine nd_iconst dX11_settles_49 ic_1 ?_
          refine nd_isub dX11_settles_50 ?_
          refine nd_putiN dX11_settles_51 pf_X11_229 (sh_60 t) rfl h (fun σ5 h => ?_)
          refine nd_goto dX11_settles_54 0 (by decide) ?_
          exact hrec0 _ _ h
set_option maxRecDepth 100000 in
set_option maxHeartbeats 4000000 in
theorem t_X11_settles (F : Nat) (t : List nd_S) (hL : (nd_SH ++ t).length < nd_ro) {z : Int32 × nd_Mem} (x1 : Int32) (σ : nd_Mem) (h : f_X11_settles F x1 σ = some z) : nd_Fn M_X11_settles (nd_rm 1) [.ref 60, .int x1] (nd_SH ++ t) σ (nd_Pv (nd_SH ++ t) z) := by
  refine nd_Fn.ofV (ls := [(0, .ref 60), (1, .int x1)]) pl_X11_settles rfl (fun _ => Nat.le_of_ble_eq_true rfl) (fun _ => rfl) ?_
  unfold f_X11_settles at h
  exact b_X11_settles_0 F t hL F _ _ h
def f_X11_streets_36 (F : Nat) (σ : nd_Mem) : nd_Res := (some ((-1 : Int32), σ))
def f_X11_streets_127 (F : Nat) (x1 : Int32) (x4 : Int32) (s0 : Int32) (σ : nd_Mem) : nd_Res := (if ((2 : Int32) * x1) = 0 then none else (some (((x4 + s0) / ((2 : Int32) * x1)), σ)))
def f_X11_streets_44_b (F : Nat) (rec44 : Int32 → Int32 → Int32 → Int32 → Int32 → nd_Mem → nd_Res) (x1 : Int32) (x2 : Int32) (x3 : Int32) (x4 : Int32) (x5 : Int32) (σ : nd_Mem) : nd_Res := (if x1 < x5 then (if x3 = 0 then (if x1 = 0 then none else (some ((x4 / x1), σ))) else (if (q_rem x1 (2 : Int32)) = (1 : Int32) then (nd_bind (f_X11_power F x2 ((x1 + (1 : Int32)) / (2 : Int32)) σ) fun r7 σ8 => (f_X11_streets_127 F x1 x4 (x1 * r7) σ8)) else (nd_bind (f_X11_power F x2 (x1 / (2 : Int32)) σ) fun r1 σ2 => (nd_bind (f_X11_power F x2 ((x1 / (2 : Int32)) + (1 : Int32)) σ2) fun r4 σ5 => (f_X11_streets_127 F x1 x4 ((x1 / (2 : Int32)) * (r1 + r4)) σ5))))) else (nd_bind (f_X11_common F x5 x1 σ) fun r10 σ11 => (nd_bind (f_X11_power F x2 r10 σ11) fun r13 σ14 => (rec44 x1 x2 x3 (x4 + r13) (x5 + (1 : Int32)) σ14))))
def f_X11_streets_44 (F : Nat) : Nat → Int32 → Int32 → Int32 → Int32 → Int32 → nd_Mem → nd_Res
  | 0, _, _, _, _, _, _ => none
  | m9 + 1, x1, x2, x3, x4, x5, σ => f_X11_streets_44_b F (f_X11_streets_44 F m9) x1 x2 x3 x4 x5 σ
def f_X11_streets (F : Nat) (x1 : Int32) (x2 : Int32) (x3 : Int32) (σ : nd_Mem) : nd_Res := (nd_let (nd_up σ 60 0 (0 : Int32)) fun σ1 => (nd_bind (f_X11_isIn F x1 (1 : Int32) (12 : Int32) σ1) fun r2 σ3 => (if r2 = 0 then (f_X11_streets_36 F σ3) else (nd_bind (f_X11_isIn F x2 (1 : Int32) (4 : Int32) σ3) fun r5 σ6 => (if r5 = 0 then (f_X11_streets_36 F σ6) else (nd_bind (f_X11_isIn F x3 (0 : Int32) (1 : Int32) σ6) fun r8 σ9 => (if r8 = 0 then (f_X11_streets_36 F σ9) else (f_X11_streets_44 F F x1 x2 x3 (0 : Int32) (1 : Int32) σ9))))))))
set_option maxRecDepth 100000 in
set_option maxHeartbeats 4000000 in
theorem b_X11_streets_36 (F : Nat) (t : List nd_S) (hL : (nd_SH ++ t).length < nd_ro) {z : Int32 × nd_Mem} (σ : nd_Mem) (h : f_X11_streets_36 F σ = some z) : nd_V M_X11_streets (nd_rm 1) (nd_Pi (nd_SH ++ t) z) 0 0 36 [(0, .ref 60)] [] (nd_SH ++ t) σ := by
  unfold f_X11_streets_36 at h
  refine nd_iconst dX11_streets_36 ic_m1 ?_
  exact nd_iret dX11_streets_37 (Nat.zero_le _) (Nat.zero_le _) (vp_nar_int _) (by cases h; exact ⟨rfl, rfl, rfl⟩)
set_option maxRecDepth 100000 in
set_option maxHeartbeats 4000000 in
theorem b_X11_streets_127 (F : Nat) (t : List nd_S) (hL : (nd_SH ++ t).length < nd_ro) {z : Int32 × nd_Mem} (x1 : Int32) (x4 : Int32) (s0 : Int32) (σ : nd_Mem) (h : f_X11_streets_127 F x1 x4 s0 σ = some z) : nd_V M_X11_streets (nd_rm 1) (nd_Pi (nd_SH ++ t) z) 0 0 127 [(0, .ref 60), (1, .int x1), (4, .int x4)] [.int s0] (nd_SH ++ t) σ := by
  unfold f_X11_streets_127 at h
  refine nd_istore (ls' := [(5, .int s0), (0, .ref 60), (1, .int x1), (4, .int x4)]) dX11_streets_127 (by decide) rfl ?_
  refine nd_iload dX11_streets_129 3 rfl ?_
  refine nd_iload dX11_streets_131 0 rfl ?_
  refine nd_iadd dX11_streets_133 ?_
  refine nd_iconst dX11_streets_134 ic_2 ?_
  refine nd_iload_n dX11_streets_135 2 rfl ?_
  refine nd_imul dX11_streets_136 ?_
  refine nd_idivN dX11_streets_137 h (fun h => ?_)
  exact nd_iret dX11_streets_138 (Nat.zero_le _) (Nat.zero_le _) (vp_nar_int _) (by cases h; exact ⟨rfl, rfl, rfl⟩)
set_option maxRecDepth 100000 in
set_option maxHeartbeats 4000000 in
theorem b_X11_streets_44 (F : Nat) (t : List nd_S) (hL : (nd_SH ++ t).length < nd_ro) {z : Int32 × nd_Mem} (m9 : Nat) : ∀ (x1 : Int32) (x2 : Int32) (x3 : Int32) (x4 : Int32) (x5 : Int32) (σ : nd_Mem), f_X11_streets_44 F m9 x1 x2 x3 x4 x5 σ = some z → nd_V M_X11_streets (nd_rm 1) (nd_Pi (nd_SH ++ t) z) 0 0 44 [(0, .ref 60), (1, .int x1), (2, .int x2), (3, .int x3), (4, .int x4), (5, .int x5)] [] (nd_SH ++ t) σ := by
  induction m9 with
  | zero =>
    intro x1 x2 x3 x4 x5 σ h
    have h : none = some z := h
    cases h
  | succ m9 hrec44 =>
    intro x1 x2 x3 x4 x5 σ h
    have h : f_X11_streets_44_b F (f_X11_streets_44 F m9) x1 x2 x3 x4 x5 σ = some z := h
    unfold f_X11_streets_44_b at h
    refine nd_iload dX11_streets_44 5 rfl ?_
    refine nd_iload_n dX11_streets_46 1 rfl ?_
    refine nd_icmp_gtN dX11_streets_47 73 (by decide) h (fun h => ?_) (fun h => ?_)
    · refine nd_iload_n dX11_streets_73 3 rfl ?_
      refine nd_if_neN dX11_streets_74 82 (by decide) h (fun h => ?_) (fun h => ?_)
      · refine nd_iload_n dX11_streets_82 1 rfl ?_
        refine nd_iconst dX11_streets_83 ic_2 ?_
        refine nd_irem dX11_streets_84 (by decide) ?_
        refine nd_iconst dX11_streets_85 ic_1 ?_
        refine nd_icmp_neN dX11_streets_86 104 (by decide) h (fun h => ?_) (fun h => ?_)
        · refine nd_iload_n dX11_streets_104 1 rfl ?_
          refine nd_iconst dX11_streets_105 ic_2 ?_
          refine nd_idiv dX11_streets_106 (by decide) ?_
          refine nd_aload_n dX11_streets_107 0 rfl ?_
          refine nd_iload_n dX11_streets_108 2 rfl ?_
          refine nd_iload_n dX11_streets_109 1 rfl ?_
          refine nd_iconst dX11_streets_110 ic_2 ?_
          refine nd_idiv dX11_streets_111 (by decide) ?_
          obtain ⟨r1, σ2, hc3, h⟩ := nd_bind_e h
          refine nd_cvi [.int x2, .int (x1 / (2 : Int32))] [.int (x1 / (2 : Int32))] dX11_streets_112 cl_X11_449 (sh_60 t) ⟨Nat.le_of_ble_eq_true rfl, Nat.le_of_ble_eq_true rfl⟩ rfl (Nat.le_of_ble_eq_true rfl) hL (t_X11_power F t hL _ _ _ hc3) ?_
          refine nd_aload_n dX11_streets_115 0 rfl ?_
          refine nd_iload_n dX11_streets_116 2 rfl ?_
          refine nd_iload_n dX11_streets_117 1 rfl ?_
          refine nd_iconst dX11_streets_118 ic_2 ?_
          refine nd_idiv dX11_streets_119 (by decide) ?_
          refine nd_iconst dX11_streets_120 ic_1 ?_
          refine nd_iadd dX11_streets_121 ?_
          obtain ⟨r4, σ5, hc6, h⟩ := nd_bind_e h
          refine nd_cvi [.int x2, .int ((x1 / (2 : Int32)) + (1 : Int32))] [.int r1, .int (x1 / (2 : Int32))] dX11_streets_122 cl_X11_449 (sh_60 t) ⟨Nat.le_of_ble_eq_true rfl, Nat.le_of_ble_eq_true rfl⟩ rfl (Nat.le_of_ble_eq_true rfl) hL (t_X11_power F t hL _ _ _ hc6) ?_
          refine nd_iadd dX11_streets_125 ?_
          refine nd_imul dX11_streets_126 ?_
          refine nd_sub [0, 1, 4] rfl ?_
          exact b_X11_streets_127 F t hL _ _ _ _ h
        · refine nd_iload_n dX11_streets_89 1 rfl ?_
          refine nd_aload_n dX11_streets_90 0 rfl ?_
          refine nd_iload_n dX11_streets_91 2 rfl ?_
          refine nd_iload_n dX11_streets_92 1 rfl ?_
          refine nd_iconst dX11_streets_93 ic_1 ?_
          refine nd_iadd dX11_streets_94 ?_
          refine nd_iconst dX11_streets_95 ic_2 ?_
          refine nd_idiv dX11_streets_96 (by decide) ?_
          obtain ⟨r7, σ8, hc9, h⟩ := nd_bind_e h
          refine nd_cvi [.int x2, .int ((x1 + (1 : Int32)) / (2 : Int32))] [.int x1] dX11_streets_97 cl_X11_449 (sh_60 t) ⟨Nat.le_of_ble_eq_true rfl, Nat.le_of_ble_eq_true rfl⟩ rfl (Nat.le_of_ble_eq_true rfl) hL (t_X11_power F t hL _ _ _ hc9) ?_
          refine nd_imul dX11_streets_100 ?_
          refine nd_goto dX11_streets_101 127 (by decide) ?_
          refine nd_sub [0, 1, 4] rfl ?_
          exact b_X11_streets_127 F t hL _ _ _ _ h
      · refine nd_iload dX11_streets_77 4 rfl ?_
        refine nd_iload_n dX11_streets_79 1 rfl ?_
        refine nd_idivN dX11_streets_80 h (fun h => ?_)
        exact nd_iret dX11_streets_81 (Nat.zero_le _) (Nat.zero_le _) (vp_nar_int _) (by cases h; exact ⟨rfl, rfl, rfl⟩)
    · refine nd_iload dX11_streets_50 4 rfl ?_
      refine nd_aload_n dX11_streets_52 0 rfl ?_
      refine nd_iload_n dX11_streets_53 2 rfl ?_
      refine nd_aload_n dX11_streets_54 0 rfl ?_
      refine nd_iload dX11_streets_55 5 rfl ?_
      refine nd_iload_n dX11_streets_57 1 rfl ?_
      obtain ⟨r10, σ11, hc12, h⟩ := nd_bind_e h
      refine nd_cvi [.int x5, .int x1] [.int x2, .ref 60, .int x4] dX11_streets_58 cl_X11_429 (sh_60 t) ⟨Nat.le_of_ble_eq_true rfl, Nat.le_of_ble_eq_true rfl⟩ rfl (Nat.le_of_ble_eq_true rfl) hL (t_X11_common F t hL _ _ _ hc12) ?_
      obtain ⟨r13, σ14, hc15, h⟩ := nd_bind_e h
      refine nd_cvi [.int x2, .int r10] [.int x4] dX11_streets_61 cl_X11_449 (sh_60 t) ⟨Nat.le_of_ble_eq_true rfl, Nat.le_of_ble_eq_true rfl⟩ rfl (Nat.le_of_ble_eq_true rfl) hL (t_X11_power F t hL _ _ _ hc15) ?_
      refine nd_iadd dX11_streets_64 ?_
      refine nd_istore (ls' := [(4, .int (x4 + r13)), (0, .ref 60), (1, .int x1), (2, .int x2), (3, .int x3), (5, .int x5)]) dX11_streets_65 (by decide) rfl ?_
      refine nd_iinc (v := (x5 + (1 : Int32))) (ls' := [(5, .int (x5 + (1 : Int32))), (4, .int (x4 + r13)), (0, .ref 60), (1, .int x1), (2, .int x2), (3, .int x3)]) dX11_streets_67 5 rfl (congrArg (HAdd.hAdd _) ic_1) (by decide) rfl ?_
      refine nd_goto dX11_streets_70 44 (by decide) ?_
      refine nd_sub [2, 3, 4, 5, 1, 0] rfl ?_
      exact hrec44 _ _ _ _ _ _ h
set_option maxRecDepth 100000 in
set_option maxHeartbeats 4000000 in
theorem t_X11_streets (F : Nat) (t : List nd_S) (hL : (nd_SH ++ t).length < nd_ro) {z : Int32 × nd_Mem} (x1 : Int32) (x2 : Int32) (x3 : Int32) (σ : nd_Mem) (h : f_X11_streets F x1 x2 x3 σ = some z) : nd_Fn M_X11_streets (nd_rm 1) [.ref 60, .int x1, .int x2, .int x3] (nd_SH ++ t) σ (nd_Pi (nd_SH ++ t) z) := by
  refine nd_Fn.ofV (ls := [(0, .ref 60), (1, .int x1), (2, .int x2), (3, .int x3)]) pl_X11_streets rfl (fun _ => Nat.le_of_ble_eq_true rfl) (fun _ => rfl) ?_
  unfold f_X11_streets at h
  refine nd_aload_n dX11_streets_0 0 rfl ?_
  refine nd_iconst dX11_streets_1 ic_0 ?_
  refine nd_putiN dX11_streets_2 pf_X11_132 (sh_60 t) rfl h (fun σ1 h => ?_)
  refine nd_aload_n dX11_streets_5 0 rfl ?_
  refine nd_iload_n dX11_streets_6 1 rfl ?_
  refine nd_iconst dX11_streets_7 ic_1 ?_
  refine nd_bipush dX11_streets_8 ib_12 ?_
  obtain ⟨r2, σ3, hc4, h⟩ := nd_bind_e h
  refine nd_cvi [.int x1, .int (1 : Int32), .int (12 : Int32)] [] dX11_streets_10 cl_X11_147 (sh_60 t) ⟨Nat.le_of_ble_eq_true rfl, Nat.le_of_ble_eq_true rfl⟩ rfl (Nat.le_of_ble_eq_true rfl) hL (t_X11_isIn F t hL _ _ _ _ hc4) ?_
  refine nd_if_eqN dX11_streets_13 36 (by decide) h (fun h => ?_) (fun h => ?_)
  · refine nd_sub [0] rfl ?_
    exact b_X11_streets_36 F t hL _ h
  · refine nd_aload_n dX11_streets_16 0 rfl ?_
    refine nd_iload_n dX11_streets_17 2 rfl ?_
    refine nd_iconst dX11_streets_18 ic_1 ?_
    refine nd_iconst dX11_streets_19 ic_4 ?_
    obtain ⟨r5, σ6, hc7, h⟩ := nd_bind_e h
    refine nd_cvi [.int x2, .int (1 : Int32), .int (4 : Int32)] [] dX11_streets_20 cl_X11_147 (sh_60 t) ⟨Nat.le_of_ble_eq_true rfl, Nat.le_of_ble_eq_true rfl⟩ rfl (Nat.le_of_ble_eq_true rfl) hL (t_X11_isIn F t hL _ _ _ _ hc7) ?_
    refine nd_if_eqN dX11_streets_23 36 (by decide) h (fun h => ?_) (fun h => ?_)
    · refine nd_sub [0] rfl ?_
      exact b_X11_streets_36 F t hL _ h
    · refine nd_aload_n dX11_streets_26 0 rfl ?_
      refine nd_iload_n dX11_streets_27 3 rfl ?_
      refine nd_iconst dX11_streets_28 ic_0 ?_
      refine nd_iconst dX11_streets_29 ic_1 ?_
      obtain ⟨r8, σ9, hc10, h⟩ := nd_bind_e h
      refine nd_cvi [.int x3, .int (0 : Int32), .int (1 : Int32)] [] dX11_streets_30 cl_X11_147 (sh_60 t) ⟨Nat.le_of_ble_eq_true rfl, Nat.le_of_ble_eq_true rfl⟩ rfl (Nat.le_of_ble_eq_true rfl) hL (t_X11_isIn F t hL _ _ _ _ hc10) ?_
      refine nd_if_neN dX11_streets_33 38 (by decide) h (fun h => ?_) (fun h => ?_)
      · refine nd_iconst dX11_streets_38 ic_0 ?_
        refine nd_istore (ls' := [(4, .int (0 : Int32)), (0, .ref 60), (1, .int x1), (2, .int x2), (3, .int x3)]) dX11_streets_39 (by decide) rfl ?_
        refine nd_iconst dX11_streets_41 ic_1 ?_
        refine nd_istore (ls' := [(5, .int (1 : Int32)), (4, .int (0 : Int32)), (0, .ref 60), (1, .int x1), (2, .int x2), (3, .int x3)]) dX11_streets_42 (by decide) rfl ?_
        refine nd_sub [2, 3, 4, 5, 1, 0] rfl ?_
        exact b_X11_streets_44 F t hL F _ _ _ _ _ _ h
      · refine nd_sub [0] rfl ?_
        exact b_X11_streets_36 F t hL _ h
def f_X11_winningDoor_47 (F : Nat) (x3 : Int32) (σ : nd_Mem) : nd_Res := (some (x3, σ))
def f_X11_winningDoor_49 (F : Nat) (rec2 : Int32 → Int32 → Int32 → nd_Mem → nd_Res) (x1 : Int32) (x2 : Int32) (x3 : Int32) (σ : nd_Mem) : nd_Res := (rec2 x1 x2 (x3 + (1 : Int32)) σ)
def f_X11_winningDoor_2_b (F : Nat) (rec2 : Int32 → Int32 → Int32 → nd_Mem → nd_Res) (x1 : Int32) (x2 : Int32) (x3 : Int32) (σ : nd_Mem) : nd_Res := (if x1 ≤ x3 then (some ((-1 : Int32), σ)) else (nd_bind (f_X11_has F x2 x3 σ) fun r1 σ2 => (if r1 = 0 then (nd_bind (f_X11_hasThree F (x2 ||| ((1 : Int32) <<< (x3 &&& 31))) σ2) fun r4 σ5 => (if r4 = 0 then (if x1 ≤ (2 : Int32) then (f_X11_winningDoor_49 F rec2 x1 x2 x3 σ5) else (if (x2 ||| ((1 : Int32) <<< (x3 &&& 31))) < 0 ∨ 262144 ≤ ((x2 ||| ((1 : Int32) <<< (x3 &&& 31)))).toNatClampNeg then none else (if (σ5 98 ((x2 ||| ((1 : Int32) <<< (x3 &&& 31)))).toNatClampNeg) = 0 then (f_X11_winningDoor_47 F x3 σ5) else (f_X11_winningDoor_49 F rec2 x1 x2 x3 σ5)))) else (f_X11_winningDoor_47 F x3 σ5))) else (f_X11_winningDoor_49 F rec2 x1 x2 x3 σ2))))
def f_X11_winningDoor_2 (F : Nat) : Nat → Int32 → Int32 → Int32 → nd_Mem → nd_Res
  | 0, _, _, _, _ => none
  | m9 + 1, x1, x2, x3, σ => f_X11_winningDoor_2_b F (f_X11_winningDoor_2 F m9) x1 x2 x3 σ
def f_X11_winningDoor (F : Nat) (x1 : Int32) (x2 : Int32) (σ : nd_Mem) : nd_Res := (f_X11_winningDoor_2 F F x1 x2 (0 : Int32) σ)
set_option maxRecDepth 100000 in
set_option maxHeartbeats 4000000 in
theorem b_X11_winningDoor_47 (F : Nat) (t : List nd_S) (hL : (nd_SH ++ t).length < nd_ro) {z : Int32 × nd_Mem} (x3 : Int32) (σ : nd_Mem) (h : f_X11_winningDoor_47 F x3 σ = some z) : nd_V M_X11_winningDoor (nd_rm 1) (nd_Pi (nd_SH ++ t) z) 0 0 47 [(0, .ref 60), (3, .int x3)] [] (nd_SH ++ t) σ := by
  unfold f_X11_winningDoor_47 at h
  refine nd_iload_n dX11_winningDoor_47 1 rfl ?_
  exact nd_iret dX11_winningDoor_48 (Nat.zero_le _) (Nat.zero_le _) (vp_nar_int _) (by cases h; exact ⟨rfl, rfl, rfl⟩)
set_option maxRecDepth 100000 in
set_option maxHeartbeats 4000000 in
theorem b_X11_winningDoor_49 (F : Nat) (rec2 : Int32 → Int32 → Int32 → nd_Mem → nd_Res) (t : List nd_S) (hL : (nd_SH ++ t).length < nd_ro) {z : Int32 × nd_Mem} (hrec2 : ∀ (x1 : Int32) (x2 : Int32) (x3 : Int32) (σ : nd_Mem), rec2 x1 x2 x3 σ = some z → nd_V M_X11_winningDoor (nd_rm 1) (nd_Pi (nd_SH ++ t) z) 0 0 2 [(0, .ref 60), (1, .int x1), (2, .int x2), (3, .int x3)] [] (nd_SH ++ t) σ) (x1 : Int32) (x2 : Int32) (x3 : Int32) (σ : nd_Mem) (h : f_X11_winningDoor_49 F rec2 x1 x2 x3 σ = some z) : nd_V M_X11_winningDoor (nd_rm 1) (nd_Pi (nd_SH ++ t) z) 0 0 49 [(0, .ref 60), (1, .int x1), (2, .int x2), (3, .int x3)] [] (nd_SH ++ t) σ := by
  unfold f_X11_winningDoor_49 at h
  refine nd_iinc (v := (x3 + (1 : Int32))) (ls' := [(3, .int (x3 + (1 : Int32))), (0, .ref 60), (1, .int x1), (2, .int x2)]) dX11_winningDoor_49 3 rfl (congrArg (HAdd.hAdd _) ic_1) (by decide) rfl ?_
  refine nd_goto dX11_winningDoor_52 2 (by decide) ?_
  refine nd_sub [1, 2, 3, 0] rfl ?_
  exact hrec2 _ _ _ _ h
set_option maxRecDepth 100000 in
set_option maxHeartbeats 4000000 in
theorem b_X11_winningDoor_2 (F : Nat) (t : List nd_S) (hL : (nd_SH ++ t).length < nd_ro) {z : Int32 × nd_Mem} (m9 : Nat) : ∀ (x1 : Int32) (x2 : Int32) (x3 : Int32) (σ : nd_Mem), f_X11_winningDoor_2 F m9 x1 x2 x3 σ = some z → nd_V M_X11_winningDoor (nd_rm 1) (nd_Pi (nd_SH ++ t) z) 0 0 2 [(0, .ref 60), (1, .int x1), (2, .int x2), (3, .int x3)] [] (nd_SH ++ t) σ := by
  induction m9 with
  | zero =>
    intro x1 x2 x3 σ h
    have h : none = some z := h
    cases h
  | succ m9 hrec2 =>
    intro x1 x2 x3 σ h
    have h : f_X11_winningDoor_2_b F (f_X11_winningDoor_2 F m9) x1 x2 x3 σ = some z := h
    unfold f_X11_winningDoor_2_b at h
    refine nd_iload_n dX11_winningDoor_2 3 rfl ?_
    refine nd_iload_n dX11_winningDoor_3 1 rfl ?_
    refine nd_icmp_geN dX11_winningDoor_4 55 (by decide) h (fun h => ?_) (fun h => ?_)
    · refine nd_iconst dX11_winningDoor_55 ic_m1 ?_
      exact nd_iret dX11_winningDoor_56 (Nat.zero_le _) (Nat.zero_le _) (vp_nar_int _) (by cases h; exact ⟨rfl, rfl, rfl⟩)
    · refine nd_iload_n dX11_winningDoor_7 2 rfl ?_
      refine nd_iconst dX11_winningDoor_8 ic_1 ?_
      refine nd_iload_n dX11_winningDoor_9 3 rfl ?_
      refine nd_ishl dX11_winningDoor_10 ?_
      refine nd_ior dX11_winningDoor_11 ?_
      refine nd_istore (ls' := [(4, .int (x2 ||| ((1 : Int32) <<< (x3 &&& 31)))), (0, .ref 60), (1, .int x1), (2, .int x2), (3, .int x3)]) dX11_winningDoor_12 (by decide) rfl ?_
      refine nd_aload_n dX11_winningDoor_14 1 rfl ?_
      refine nd_iload_n dX11_winningDoor_15 3 rfl ?_
      refine nd_iload_n dX11_winningDoor_16 4 rfl ?_
      obtain ⟨r1, σ2, hc3, h⟩ := nd_bind_e h
      refine nd_cvi [.int x2, .int x3] [] dX11_winningDoor_17 cl_X11_328 (sh_60 t) ⟨Nat.le_of_ble_eq_true rfl, Nat.le_of_ble_eq_true rfl⟩ rfl (Nat.le_of_ble_eq_true rfl) hL (t_X11_has F t hL _ _ _ hc3) ?_
      refine nd_if_neN dX11_winningDoor_20 49 (by decide) h (fun h => ?_) (fun h => ?_)
      · refine nd_sub [1, 2, 3, 4] rfl ?_
        exact b_X11_winningDoor_49 F _ t hL hrec2 _ _ _ _ h
      · refine nd_aload_n dX11_winningDoor_23 1 rfl ?_
        refine nd_iload dX11_winningDoor_24 0 rfl ?_
        obtain ⟨r4, σ5, hc6, h⟩ := nd_bind_e h
        refine nd_cvi [.int (x2 ||| ((1 : Int32) <<< (x3 &&& 31)))] [] dX11_winningDoor_26 cl_X11_470 (sh_60 t) ⟨Nat.le_of_ble_eq_true rfl, Nat.le_of_ble_eq_true rfl⟩ rfl (Nat.le_of_ble_eq_true rfl) hL (t_X11_hasThree F t hL _ _ hc6) ?_
        refine nd_if_neN dX11_winningDoor_29 47 (by decide) h (fun h => ?_) (fun h => ?_)
        · refine nd_sub [1, 4] rfl ?_
          exact b_X11_winningDoor_47 F t hL _ _ h
        · refine nd_iload_n dX11_winningDoor_32 2 rfl ?_
          refine nd_iconst dX11_winningDoor_33 ic_2 ?_
          refine nd_icmp_leN dX11_winningDoor_34 49 (by decide) h (fun h => ?_) (fun h => ?_)
          · refine nd_sub [1, 2, 3, 4] rfl ?_
            exact b_X11_winningDoor_49 F _ t hL hrec2 _ _ _ _ h
          · refine nd_aload_n dX11_winningDoor_37 1 rfl ?_
            refine nd_get dX11_winningDoor_38 gf_X11_126 (sh_60 t) rfl ?_
            refine nd_iload dX11_winningDoor_41 0 rfl ?_
            refine nd_ialoadN dX11_winningDoor_43 (sh_98 t) h (fun h => ?_)
            refine nd_if_neN dX11_winningDoor_44 49 (by decide) h (fun h => ?_) (fun h => ?_)
            · refine nd_sub [1, 2, 3, 4] rfl ?_
              exact b_X11_winningDoor_49 F _ t hL hrec2 _ _ _ _ h
            · refine nd_sub [1, 4] rfl ?_
              exact b_X11_winningDoor_47 F t hL _ _ h
set_option maxRecDepth 100000 in
set_option maxHeartbeats 4000000 in
theorem t_X11_winningDoor (F : Nat) (t : List nd_S) (hL : (nd_SH ++ t).length < nd_ro) {z : Int32 × nd_Mem} (x1 : Int32) (x2 : Int32) (σ : nd_Mem) (h : f_X11_winningDoor F x1 x2 σ = some z) : nd_Fn M_X11_winningDoor (nd_rm 1) [.ref 60, .int x1, .int x2] (nd_SH ++ t) σ (nd_Pi (nd_SH ++ t) z) := by
  refine nd_Fn.ofV (ls := [(0, .ref 60), (1, .int x1), (2, .int x2)]) pl_X11_winningDoor rfl (fun _ => Nat.le_of_ble_eq_true rfl) (fun _ => rfl) ?_
  unfold f_X11_winningDoor at h
  refine nd_iconst dX11_winningDoor_0 ic_0 ?_
  refine nd_istore_n (ls' := [(3, .int (0 : Int32)), (0, .ref 60), (1, .int x1), (2, .int x2)]) dX11_winningDoor_1 (by decide) rfl ?_
  refine nd_sub [1, 2, 3, 0] rfl ?_
  exact b_X11_winningDoor_2 F t hL F _ _ _ _ h
def f_X11_akin_45 (F : Nat) (σ : nd_Mem) : nd_Res := (some ((-1 : Int32), σ))
def f_X11_akin (F : Nat) (x1 : Int32) (x2 : Int32) (x3 : Int32) (σ : nd_Mem) : nd_Res := (nd_let (nd_up σ 60 0 (0 : Int32)) fun σ1 => (nd_bind (f_X11_isIn F x1 (0 : Int32) ((σ1 60 54) - (1 : Int32)) σ1) fun r2 σ3 => (if r2 = 0 then (f_X11_akin_45 F σ3) else (nd_bind (f_X11_isIn F x2 (0 : Int32) ((σ3 60 54) - (1 : Int32)) σ3) fun r5 σ6 => (if r5 = 0 then (f_X11_akin_45 F σ6) else (nd_bind (f_X11_isIn F x3 (0 : Int32) (1 : Int32) σ6) fun r8 σ9 => (if r8 = 0 then (f_X11_akin_45 F σ9) else (nd_bind (f_X11_findsAkin F σ9) fun r11 σ12 => (if (((14 : Int32) * x1) + x2) < 0 ∨ 196 ≤ ((((14 : Int32) * x1) + x2)).toNatClampNeg then none else (nd_bind (f_X11_isFraction F (σ12 94 ((((14 : Int32) * x1) + x2)).toNatClampNeg) (268435456 : Int32) σ12) fun r14 σ15 => (if x3 = 0 then (some ((σ15 60 58), σ15)) else (some ((σ15 60 59), σ15)))))))))))))
set_option maxRecDepth 100000 in
set_option maxHeartbeats 4000000 in
theorem b_X11_akin_45 (F : Nat) (t : List nd_S) (hL : (nd_SH ++ t).length < nd_ro) {z : Int32 × nd_Mem} (σ : nd_Mem) (h : f_X11_akin_45 F σ = some z) : nd_V M_X11_akin (nd_rm 2) (nd_Pi (nd_SH ++ t) z) 0 0 45 [(0, .ref 60)] [] (nd_SH ++ t) σ := by
  unfold f_X11_akin_45 at h
  refine nd_iconst dX11_akin_45 ic_m1 ?_
  exact nd_iret dX11_akin_46 (Nat.zero_le _) (Nat.zero_le _) (vp_nar_int _) (by cases h; exact ⟨rfl, rfl, rfl⟩)
set_option maxRecDepth 100000 in
set_option maxHeartbeats 4000000 in
theorem t_X11_akin (F : Nat) (t : List nd_S) (hL : (nd_SH ++ t).length < nd_ro) {z : Int32 × nd_Mem} (x1 : Int32) (x2 : Int32) (x3 : Int32) (σ : nd_Mem) (h : f_X11_akin F x1 x2 x3 σ = some z) : nd_Fn M_X11_akin (nd_rm 2) [.ref 60, .int x1, .int x2, .int x3] (nd_SH ++ t) σ (nd_Pi (nd_SH ++ t) z) := by
  refine nd_Fn.ofV (ls := [(0, .ref 60), (1, .int x1), (2, .int x2), (3, .int x3)]) pl_X11_akin rfl (fun _ => Nat.le_of_ble_eq_true rfl) (fun _ => rfl) ?_
  unfold f_X11_akin at h
  refine nd_aload_n dX11_akin_0 0 rfl ?_
  refine nd_iconst dX11_akin_1 ic_0 ?_
  refine nd_putiN dX11_akin_2 pf_X11_132 (sh_60 t) rfl h (fun σ1 h => ?_)
  refine nd_aload_n dX11_akin_5 0 rfl ?_
  refine nd_iload_n dX11_akin_6 1 rfl ?_
  refine nd_iconst dX11_akin_7 ic_0 ?_
  refine nd_aload_n dX11_akin_8 0 rfl ?_
  refine nd_get dX11_akin_9 gf_X11_438 (sh_60 t) rfl ?_
  refine nd_iconst dX11_akin_12 ic_1 ?_
  refine nd_isub dX11_akin_13 ?_
  obtain ⟨r2, σ3, hc4, h⟩ := nd_bind_e h
  refine nd_cvi [.int x1, .int (0 : Int32), .int ((σ1 60 54) - (1 : Int32))] [] dX11_akin_14 cl_X11_147 (sh_60 t) ⟨Nat.le_of_ble_eq_true rfl, Nat.le_of_ble_eq_true rfl⟩ rfl (Nat.le_of_ble_eq_true rfl) hL (t_X11_isIn F t hL _ _ _ _ hc4) ?_
  refine nd_if_eqN dX11_akin_17 45 (by decide) h (fun h => ?_) (fun h => ?_)
  · refine nd_sub [0] rfl ?_
    exact b_X11_akin_45 F t hL _ h
  · refine nd_aload_n dX11_akin_20 0 rfl ?_
    refine nd_iload_n dX11_akin_21 2 rfl ?_
    refine nd_iconst dX11_akin_22 ic_0 ?_
    refine nd_aload_n dX11_akin_23 0 rfl ?_
    refine nd_get dX11_akin_24 gf_X11_438 (sh_60 t) rfl ?_
    refine nd_iconst dX11_akin_27 ic_1 ?_
    refine nd_isub dX11_akin_28 ?_
    obtain ⟨r5, σ6, hc7, h⟩ := nd_bind_e h
    refine nd_cvi [.int x2, .int (0 : Int32), .int ((σ3 60 54) - (1 : Int32))] [] dX11_akin_29 cl_X11_147 (sh_60 t) ⟨Nat.le_of_ble_eq_true rfl, Nat.le_of_ble_eq_true rfl⟩ rfl (Nat.le_of_ble_eq_true rfl) hL (t_X11_isIn F t hL _ _ _ _ hc7) ?_
    refine nd_if_eqN dX11_akin_32 45 (by decide) h (fun h => ?_) (fun h => ?_)
    · refine nd_sub [0] rfl ?_
      exact b_X11_akin_45 F t hL _ h
    · refine nd_aload_n dX11_akin_35 0 rfl ?_
      refine nd_iload_n dX11_akin_36 3 rfl ?_
      refine nd_iconst dX11_akin_37 ic_0 ?_
      refine nd_iconst dX11_akin_38 ic_1 ?_
      obtain ⟨r8, σ9, hc10, h⟩ := nd_bind_e h
      refine nd_cvi [.int x3, .int (0 : Int32), .int (1 : Int32)] [] dX11_akin_39 cl_X11_147 (sh_60 t) ⟨Nat.le_of_ble_eq_true rfl, Nat.le_of_ble_eq_true rfl⟩ rfl (Nat.le_of_ble_eq_true rfl) hL (t_X11_isIn F t hL _ _ _ _ hc10) ?_
      refine nd_if_neN dX11_akin_42 47 (by decide) h (fun h => ?_) (fun h => ?_)
      · refine nd_aload_n dX11_akin_47 0 rfl ?_
        obtain ⟨r11, σ12, hc13, h⟩ := nd_bind_e h
        refine nd_cvv [] [] dX11_akin_48 cl_X11_442 (sh_60 t) ⟨Nat.le_of_ble_eq_true rfl, Nat.le_of_ble_eq_true rfl⟩ rfl (Nat.le_of_ble_eq_true rfl) hL (t_X11_findsAkin F t hL _ hc13) ?_
        refine nd_aload_n dX11_akin_51 0 rfl ?_
        refine nd_aload_n dX11_akin_52 0 rfl ?_
        refine nd_get dX11_akin_53 gf_X11_113 (sh_60 t) rfl ?_
        refine nd_bipush dX11_akin_56 ib_14 ?_
        refine nd_iload_n dX11_akin_58 1 rfl ?_
        refine nd_imul dX11_akin_59 ?_
        refine nd_iload_n dX11_akin_60 2 rfl ?_
        refine nd_iadd dX11_akin_61 ?_
        refine nd_ialoadN dX11_akin_62 (sh_94 t) h (fun h => ?_)
        refine nd_ldcw dX11_akin_63 kc_X11_445 ?_
        obtain ⟨r14, σ15, hc16, h⟩ := nd_bind_e h
        refine nd_cvv [.int (σ12 94 ((((14 : Int32) * x1) + x2)).toNatClampNeg), .int (268435456 : Int32)] [] dX11_akin_66 cl_X11_446 (sh_60 t) ⟨Nat.le_of_ble_eq_true rfl, Nat.le_of_ble_eq_true rfl⟩ rfl (Nat.le_of_ble_eq_true rfl) hL (t_X11_isFraction F t hL _ _ _ hc16) ?_
        refine nd_iload_n dX11_akin_69 3 rfl ?_
        refine nd_if_neN dX11_akin_70 80 (by decide) h (fun h => ?_) (fun h => ?_)
        · refine nd_aload_n dX11_akin_80 0 rfl ?_
          refine nd_get dX11_akin_81 gf_X11_435 (sh_60 t) rfl ?_
          exact nd_iret dX11_akin_84 (Nat.zero_le _) (Nat.zero_le _) (vp_nar_int _) (by cases h; exact ⟨rfl, rfl, rfl⟩)
        · refine nd_aload_n dX11_akin_73 0 rfl ?_
          refine nd_get dX11_akin_74 gf_X11_432 (sh_60 t) rfl ?_
          refine nd_goto dX11_akin_77 84 (by decide) ?_
          exact nd_iret dX11_akin_84 (Nat.zero_le _) (Nat.zero_le _) (vp_nar_int _) (by cases h; exact ⟨rfl, rfl, rfl⟩)
      · refine nd_sub [0] rfl ?_
        exact b_X11_akin_45 F t hL _ h
def f_X11_canGo_63 (F : Nat) (σ : nd_Mem) : nd_Res := (some ((1 : Int32), σ))
def f_X11_canGo_67 (F : Nat) (σ : nd_Mem) : nd_Res := (some ((0 : Int32), σ))
def f_X11_canGo (F : Nat) (x1 : Int32) (σ : nd_Mem) : nd_Res := (nd_bind (f_X11_nextOf F x1 σ) fun r1 σ2 => (if r1 = (-1 : Int32) then (f_X11_canGo_63 F σ2) else (if ((23 : Int32) + r1) < 0 ∨ 103 ≤ (((23 : Int32) + r1)).toNatClampNeg then none else (if (σ2 61 (((23 : Int32) + r1)).toNatClampNeg) ≤ 0 then (f_X11_canGo_67 F σ2) else (if ((87 : Int32) + r1) < 0 ∨ 103 ≤ (((87 : Int32) + r1)).toNatClampNeg then none else (if (σ2 61 (((87 : Int32) + r1)).toNatClampNeg) = 0 then (if x1 < 0 ∨ 32 ≤ (x1).toNatClampNeg then none else (nd_bind (f_X11_has F (σ2 76 (x1).toNatClampNeg) r1 σ2) fun r4 σ5 => (if r4 = 0 then (if r1 < 0 ∨ 32 ≤ (r1).toNatClampNeg then none else (nd_bind (f_X11_has F (σ5 76 (r1).toNatClampNeg) x1 σ5) fun r7 σ8 => (if r7 = 0 then (f_X11_canGo_63 F σ8) else (f_X11_canGo_67 F σ8)))) else (f_X11_canGo_67 F σ5)))) else (f_X11_canGo_67 F σ2)))))))
set_option maxRecDepth 100000 in
set_option maxHeartbeats 4000000 in
theorem b_X11_canGo_63 (F : Nat) (t : List nd_S) (hL : (nd_SH ++ t).length < nd_ro) {z : Int32 × nd_Mem} (σ : nd_Mem) (h : f_X11_canGo_63 F σ = some z) : nd_V M_X11_canGo (nd_rm 2) (nd_Pi (nd_SH ++ t) z) 0 0 63 [(0, .ref 60)] [] (nd_SH ++ t) σ := by
  unfold f_X11_canGo_63 at h
  refine nd_iconst dX11_canGo_63 ic_1 ?_
  refine nd_goto dX11_canGo_64 68 (by decide) ?_
  exact nd_iret dX11_canGo_68 (Nat.zero_le _) (Nat.zero_le _) rfl (by cases h; exact ⟨rfl, rfl, rfl⟩)
set_option maxRecDepth 100000 in
set_option maxHeartbeats 4000000 in
theorem b_X11_canGo_67 (F : Nat) (t : List nd_S) (hL : (nd_SH ++ t).length < nd_ro) {z : Int32 × nd_Mem} (σ : nd_Mem) (h : f_X11_canGo_67 F σ = some z) : nd_V M_X11_canGo (nd_rm 2) (nd_Pi (nd_SH ++ t) z) 0 0 67 [(0, .ref 60)] [] (nd_SH ++ t) σ := by
  unfold f_X11_canGo_67 at h
  refine nd_iconst dX11_canGo_67 ic_0 ?_
  exact nd_iret dX11_canGo_68 (Nat.zero_le _) (Nat.zero_le _) rfl (by cases h; exact ⟨rfl, rfl, rfl⟩)
set_option maxRecDepth 100000 in
set_option maxHeartbeats 4000000 in
theorem t_X11_canGo (F : Nat) (t : List nd_S) (hL : (nd_SH ++ t).length < nd_ro) {z : Int32 × nd_Mem} (x1 : Int32) (σ : nd_Mem) (h : f_X11_canGo F x1 σ = some z) : nd_Fn M_X11_canGo (nd_rm 2) [.ref 60, .int x1] (nd_SH ++ t) σ (nd_Pi (nd_SH ++ t) z) := by
  refine nd_Fn.ofV (ls := [(0, .ref 60), (1, .int x1)]) pl_X11_canGo rfl (fun _ => Nat.le_of_ble_eq_true rfl) (fun _ => rfl) ?_
  unfold f_X11_canGo at h
  refine nd_aload_n dX11_canGo_0 0 rfl ?_
  refine nd_iload_n dX11_canGo_1 1 rfl ?_
  obtain ⟨r1, σ2, hc3, h⟩ := nd_bind_e h
  refine nd_cvi [.int x1] [] dX11_canGo_2 cl_X11_325 (sh_60 t) ⟨Nat.le_of_ble_eq_true rfl, Nat.le_of_ble_eq_true rfl⟩ rfl (Nat.le_of_ble_eq_true rfl) hL (t_X11_nextOf F t hL _ _ hc3) ?_
  refine nd_istore_n (ls' := [(2, .int r1), (0, .ref 60), (1, .int x1)]) dX11_canGo_5 (by decide) rfl ?_
  refine nd_iload_n dX11_canGo_6 0 rfl ?_
  refine nd_iconst dX11_canGo_7 ic_m1 ?_
  refine nd_icmp_eqN dX11_canGo_8 63 (by decide) h (fun h => ?_) (fun h => ?_)
  · refine nd_sub [1] rfl ?_
    exact b_X11_canGo_63 F t hL _ h
  · refine nd_aload_n dX11_canGo_11 1 rfl ?_
    refine nd_get dX11_canGo_12 gf_X11_7 (sh_60 t) rfl ?_
    refine nd_bipush dX11_canGo_15 ib_23 ?_
    refine nd_iload_n dX11_canGo_17 0 rfl ?_
    refine nd_iadd dX11_canGo_18 ?_
    refine nd_ialoadN dX11_canGo_19 (sh_61 t) h (fun h => ?_)
    refine nd_if_leN dX11_canGo_20 67 (by decide) h (fun h => ?_) (fun h => ?_)
    · refine nd_sub [1] rfl ?_
      exact b_X11_canGo_67 F t hL _ h
    · refine nd_aload_n dX11_canGo_23 1 rfl ?_
      refine nd_get dX11_canGo_24 gf_X11_7 (sh_60 t) rfl ?_
      refine nd_bipush dX11_canGo_27 ib_87 ?_
      refine nd_iload_n dX11_canGo_29 0 rfl ?_
      refine nd_iadd dX11_canGo_30 ?_
      refine nd_ialoadN dX11_canGo_31 (sh_61 t) h (fun h => ?_)
      refine nd_if_neN dX11_canGo_32 67 (by decide) h (fun h => ?_) (fun h => ?_)
      · refine nd_sub [1] rfl ?_
        exact b_X11_canGo_67 F t hL _ h
      · refine nd_aload_n dX11_canGo_35 1 rfl ?_
        refine nd_aload_n dX11_canGo_36 1 rfl ?_
        refine nd_get dX11_canGo_37 gf_X11_59 (sh_60 t) rfl ?_
        refine nd_iload_n dX11_canGo_40 2 rfl ?_
        refine nd_ialoadN dX11_canGo_41 (sh_76 t) h (fun h => ?_)
        refine nd_iload_n dX11_canGo_42 0 rfl ?_
        obtain ⟨r4, σ5, hc6, h⟩ := nd_bind_e h
        refine nd_cvi [.int (σ2 76 (x1).toNatClampNeg), .int r1] [] dX11_canGo_43 cl_X11_328 (sh_60 t) ⟨Nat.le_of_ble_eq_true rfl, Nat.le_of_ble_eq_true rfl⟩ rfl (Nat.le_of_ble_eq_true rfl) hL (t_X11_has F t hL _ _ _ hc6) ?_
        refine nd_if_neN dX11_canGo_46 67 (by decide) h (fun h => ?_) (fun h => ?_)
        · refine nd_sub [1] rfl ?_
          exact b_X11_canGo_67 F t hL _ h
        · refine nd_aload_n dX11_canGo_49 1 rfl ?_
          refine nd_aload_n dX11_canGo_50 1 rfl ?_
          refine nd_get dX11_canGo_51 gf_X11_59 (sh_60 t) rfl ?_
          refine nd_iload_n dX11_canGo_54 0 rfl ?_
          refine nd_ialoadN dX11_canGo_55 (sh_76 t) h (fun h => ?_)
          refine nd_iload_n dX11_canGo_56 2 rfl ?_
          obtain ⟨r7, σ8, hc9, h⟩ := nd_bind_e h
          refine nd_cvi [.int (σ5 76 (r1).toNatClampNeg), .int x1] [] dX11_canGo_57 cl_X11_328 (sh_60 t) ⟨Nat.le_of_ble_eq_true rfl, Nat.le_of_ble_eq_true rfl⟩ rfl (Nat.le_of_ble_eq_true rfl) hL (t_X11_has F t hL _ _ _ hc9) ?_
          refine nd_if_neN dX11_canGo_60 67 (by decide) h (fun h => ?_) (fun h => ?_)
          · refine nd_sub [1] rfl ?_
            exact b_X11_canGo_67 F t hL _ h
          · refine nd_sub [1] rfl ?_
            exact b_X11_canGo_63 F t hL _ h
def f_X11_chain_39 (F : Nat) (rec9 : Int32 → Int32 → nd_Mem → nd_Res) (x1 : Int32) (x2 : Int32) (σ : nd_Mem) : nd_Res := (rec9 x1 (x2 + (1 : Int32)) σ)
def f_X11_chain_9_b (F : Nat) (rec9 : Int32 → Int32 → nd_Mem → nd_Res) (x1 : Int32) (x2 : Int32) (σ : nd_Mem) : nd_Res := (if (1024 : Int32) ≤ x2 then (some (x1, σ)) else (nd_bind (f_X11_onesOf F x2 σ) fun r1 σ2 => (if r1 ≤ x1 then (f_X11_chain_39 F rec9 x1 x2 σ2) else (nd_bind (f_X11_canMove F x2 σ2) fun r4 σ5 => (if r4 = 0 then (f_X11_chain_39 F rec9 x1 x2 σ5) else (nd_bind (f_X11_onesOf F x2 σ5) fun r7 σ8 => (f_X11_chain_39 F rec9 r7 x2 σ8)))))))
def f_X11_chain_9 (F : Nat) : Nat → Int32 → Int32 → nd_Mem → nd_Res
  | 0, _, _, _ => none
  | m9 + 1, x1, x2, σ => f_X11_chain_9_b F (f_X11_chain_9 F m9) x1 x2 σ
def f_X11_chain (F : Nat) (σ : nd_Mem) : nd_Res := (nd_let (nd_up σ 60 0 (0 : Int32)) fun σ1 => (f_X11_chain_9 F F (0 : Int32) (0 : Int32) σ1))
set_option maxRecDepth 100000 in
set_option maxHeartbeats 4000000 in
theorem b_X11_chain_39 (F : Nat) (rec9 : Int32 → Int32 → nd_Mem → nd_Res) (t : List nd_S) (hL : (nd_SH ++ t).length < nd_ro) {z : Int32 × nd_Mem} (hrec9 : ∀ (x1 : Int32) (x2 : Int32) (σ : nd_Mem), rec9 x1 x2 σ = some z → nd_V M_X11_chain (nd_rm 2) (nd_Pi (nd_SH ++ t) z) 0 0 9 [(0, .ref 60), (1, .int x1), (2, .int x2)] [] (nd_SH ++ t) σ) (x1 : Int32) (x2 : Int32) (σ : nd_Mem) (h : f_X11_chain_39 F rec9 x1 x2 σ = some z) : nd_V M_X11_chain (nd_rm 2) (nd_Pi (nd_SH ++ t) z) 0 0 39 [(0, .ref 60), (1, .int x1), (2, .int x2)] [] (nd_SH ++ t) σ := by
  unfold f_X11_chain_39 at h
  refine nd_iinc (v := (x2 + (1 : Int32))) (ls' := [(2, .int (x2 + (1 : Int32))), (0, .ref 60), (1, .int x1)]) dX11_chain_39 2 rfl (congrArg (HAdd.hAdd _) ic_1) (by decide) rfl ?_
  refine nd_goto dX11_chain_42 9 (by decide) ?_
  refine nd_sub [1, 2, 0] rfl ?_
  exact hrec9 _ _ _ h
set_option maxRecDepth 100000 in
set_option maxHeartbeats 4000000 in
theorem b_X11_chain_9 (F : Nat) (t : List nd_S) (hL : (nd_SH ++ t).length < nd_ro) {z : Int32 × nd_Mem} (m9 : Nat) : ∀ (x1 : Int32) (x2 : Int32) (σ : nd_Mem), f_X11_chain_9 F m9 x1 x2 σ = some z → nd_V M_X11_chain (nd_rm 2) (nd_Pi (nd_SH ++ t) z) 0 0 9 [(0, .ref 60), (1, .int x1), (2, .int x2)] [] (nd_SH ++ t) σ := by
  induction m9 with
  | zero =>
    intro x1 x2 σ h
    have h : none = some z := h
    cases h
  | succ m9 hrec9 =>
    intro x1 x2 σ h
    have h : f_X11_chain_9_b F (f_X11_chain_9 F m9) x1 x2 σ = some z := h
    unfold f_X11_chain_9_b at h
    refine nd_iload_n dX11_chain_9 2 rfl ?_
    refine nd_sipush dX11_chain_10 is_1024 ?_
    refine nd_icmp_geN dX11_chain_13 45 (by decide) h (fun h => ?_) (fun h => ?_)
    · refine nd_iload_n dX11_chain_45 1 rfl ?_
      exact nd_iret dX11_chain_46 (Nat.zero_le _) (Nat.zero_le _) (vp_nar_int _) (by cases h; exact ⟨rfl, rfl, rfl⟩)
    · refine nd_aload_n dX11_chain_16 0 rfl ?_
      refine nd_iload_n dX11_chain_17 2 rfl ?_
      obtain ⟨r1, σ2, hc3, h⟩ := nd_bind_e h
      refine nd_cvi [.int x2] [] dX11_chain_18 cl_X11_395 (sh_60 t) ⟨Nat.le_of_ble_eq_true rfl, Nat.le_of_ble_eq_true rfl⟩ rfl (Nat.le_of_ble_eq_true rfl) hL (t_X11_onesOf F t hL _ _ hc3) ?_
      refine nd_iload_n dX11_chain_21 1 rfl ?_
      refine nd_icmp_leN dX11_chain_22 39 (by decide) h (fun h => ?_) (fun h => ?_)
      · exact b_X11_chain_39 F _ t hL hrec9 _ _ _ h
      · refine nd_aload_n dX11_chain_25 0 rfl ?_
        refine nd_iload_n dX11_chain_26 2 rfl ?_
        obtain ⟨r4, σ5, hc6, h⟩ := nd_bind_e h
        refine nd_cvi [.int x2] [] dX11_chain_27 cl_X11_452 (sh_60 t) ⟨Nat.le_of_ble_eq_true rfl, Nat.le_of_ble_eq_true rfl⟩ rfl (Nat.le_of_ble_eq_true rfl) hL (t_X11_canMove F t hL _ _ hc6) ?_
        refine nd_if_eqN dX11_chain_30 39 (by decide) h (fun h => ?_) (fun h => ?_)
        · exact b_X11_chain_39 F _ t hL hrec9 _ _ _ h
        · refine nd_aload_n dX11_chain_33 0 rfl ?_
          refine nd_iload_n dX11_chain_34 2 rfl ?_
          obtain ⟨r7, σ8, hc9, h⟩ := nd_bind_e h
          refine nd_cvi [.int x2] [] dX11_chain_35 cl_X11_395 (sh_60 t) ⟨Nat.le_of_ble_eq_true rfl, Nat.le_of_ble_eq_true rfl⟩ rfl (Nat.le_of_ble_eq_true rfl) hL (t_X11_onesOf F t hL _ _ hc9) ?_
          refine nd_istore_n (ls' := [(1, .int r7), (0, .ref 60), (2, .int x2)]) dX11_chain_38 (by decide) rfl ?_
          refine nd_sub [1, 0, 2] rfl ?_
          exact b_X11_chain_39 F _ t hL hrec9 _ _ _ h
set_option maxRecDepth 100000 in
set_option maxHeartbeats 4000000 in
theorem t_X11_chain (F : Nat) (t : List nd_S) (hL : (nd_SH ++ t).length < nd_ro) {z : Int32 × nd_Mem} (σ : nd_Mem) (h : f_X11_chain F σ = some z) : nd_Fn M_X11_chain (nd_rm 2) [.ref 60] (nd_SH ++ t) σ (nd_Pi (nd_SH ++ t) z) := by
  refine nd_Fn.ofV (ls := [(0, .ref 60)]) pl_X11_chain rfl (fun _ => Nat.le_of_ble_eq_true rfl) (fun _ => rfl) ?_
  unfold f_X11_chain at h
  refine nd_aload_n dX11_chain_0 0 rfl ?_
  refine nd_iconst dX11_chain_1 ic_0 ?_
  refine nd_putiN dX11_chain_2 pf_X11_132 (sh_60 t) rfl h (fun σ1 h => ?_)
  refine nd_iconst dX11_chain_5 ic_0 ?_
  refine nd_istore_n (ls' := [(1, .int (0 : Int32)), (0, .ref 60)]) dX11_chain_6 (by decide) rfl ?_
  refine nd_iconst dX11_chain_7 ic_0 ?_
  refine nd_istore_n (ls' := [(2, .int (0 : Int32)), (1, .int (0 : Int32)), (0, .ref 60)]) dX11_chain_8 (by decide) rfl ?_
  refine nd_sub [2, 1, 0] rfl ?_
  exact b_X11_chain_9 F t hL F _ _ _ h
def f_X11_does_126 (F : Nat) (x2 : Int32) (x3 : Int32) (σ : nd_Mem) : nd_Res := (if x2 = (5 : Int32) then (if (6 : Int32) < 0 ∨ 103 ≤ ((6 : Int32)).toNatClampNeg then none else (nd_let (nd_up σ 61 ((6 : Int32)).toNatClampNeg x3) fun σ1 => (some (0, σ1)))) else (some (0, σ)))
def f_X11_does_108 (F : Nat) (x1 : Int32) (x2 : Int32) (x3 : Int32) (σ : nd_Mem) : nd_Res := (if x2 = (4 : Int32) then (if (x1 + (3 : Int32)) < 0 ∨ 128 ≤ ((x1 + (3 : Int32))).toNatClampNeg then none else (nd_bind (f_X11_getsRicher F x3 (σ 75 ((x1 + (3 : Int32))).toNatClampNeg) σ) fun r1 σ2 => (f_X11_does_126 F x2 x3 σ2))) else (f_X11_does_126 F x2 x3 σ))
def f_X11_does_107 (F : Nat) (x1 : Int32) (x2 : Int32) (x3 : Int32) (s0 : Int32) (s1 : Int32) (σ : nd_Mem) : nd_Res := (if s1 < 0 ∨ 103 ≤ (s1).toNatClampNeg then none else (nd_let (nd_up σ 61 (s1).toNatClampNeg s0) fun σ1 => (f_X11_does_108 F x1 x2 x3 σ1)))
def f_X11_does_89 (F : Nat) (x1 : Int32) (x2 : Int32) (x3 : Int32) (σ : nd_Mem) : nd_Res := (if x2 = (2 : Int32) then (f_X11_does_107 F x1 x2 x3 (1 : Int32) ((87 : Int32) + x3) σ) else (f_X11_does_107 F x1 x2 x3 (0 : Int32) ((87 : Int32) + x3) σ))
def f_X11_does_79 (F : Nat) (x1 : Int32) (x2 : Int32) (x3 : Int32) (σ : nd_Mem) : nd_Res := (if x2 = (2 : Int32) then (f_X11_does_89 F x1 x2 x3 σ) else (if x2 = (3 : Int32) then (f_X11_does_89 F x1 x2 x3 σ) else (f_X11_does_108 F x1 x2 x3 σ)))
def f_X11_does_48 (F : Nat) (x1 : Int32) (x2 : Int32) (x3 : Int32) (σ : nd_Mem) : nd_Res := (if x2 = (1 : Int32) then (if ((23 : Int32) + x3) < 0 ∨ 103 ≤ (((23 : Int32) + x3)).toNatClampNeg then none else (nd_bind (f_X11_lesser F (9 : Int32) ((σ 61 (((23 : Int32) + x3)).toNatClampNeg) + (1 : Int32)) σ) fun r1 σ2 => (if ((23 : Int32) + x3) < 0 ∨ 103 ≤ (((23 : Int32) + x3)).toNatClampNeg then none else (nd_let (nd_up σ2 61 (((23 : Int32) + x3)).toNatClampNeg r1) fun σ4 => (f_X11_does_79 F x1 x2 x3 σ4))))) else (f_X11_does_79 F x1 x2 x3 σ))
def f_X11_does (F : Nat) (x1 : Int32) (σ : nd_Mem) : nd_Res := (if (x1 + (1 : Int32)) < 0 ∨ 128 ≤ ((x1 + (1 : Int32))).toNatClampNeg then none else (if (x1 + (2 : Int32)) < 0 ∨ 128 ≤ ((x1 + (2 : Int32))).toNatClampNeg then none else (if (σ 75 ((x1 + (1 : Int32))).toNatClampNeg) = 0 then (if ((7 : Int32) + (σ 75 ((x1 + (2 : Int32))).toNatClampNeg)) < 0 ∨ 103 ≤ (((7 : Int32) + (σ 75 ((x1 + (2 : Int32))).toNatClampNeg))).toNatClampNeg then none else (nd_bind (f_X11_lesser F (9 : Int32) ((σ 61 (((7 : Int32) + (σ 75 ((x1 + (2 : Int32))).toNatClampNeg))).toNatClampNeg) + (1 : Int32)) σ) fun r1 σ2 => (if ((7 : Int32) + (σ 75 ((x1 + (2 : Int32))).toNatClampNeg)) < 0 ∨ 103 ≤ (((7 : Int32) + (σ 75 ((x1 + (2 : Int32))).toNatClampNeg))).toNatClampNeg then none else (nd_let (nd_up σ2 61 (((7 : Int32) + (σ 75 ((x1 + (2 : Int32))).toNatClampNeg))).toNatClampNeg r1) fun σ4 => (f_X11_does_48 F x1 (σ 75 ((x1 + (1 : Int32))).toNatClampNeg) (σ 75 ((x1 + (2 : Int32))).toNatClampNeg) σ4))))) else (f_X11_does_48 F x1 (σ 75 ((x1 + (1 : Int32))).toNatClampNeg) (σ 75 ((x1 + (2 : Int32))).toNatClampNeg) σ))))
set_option maxRecDepth 100000 in
set_option maxHeartbeats 4000000 in
theorem b_X11_does_126 (F : Nat) (t : List nd_S) (hL : (nd_SH ++ t).length < nd_ro) {z : Int32 × nd_Mem} (x2 : Int32) (x3 : Int32) (σ : nd_Mem) (h : f_X11_does_126 F x2 x3 σ = some z) : nd_V M_X11_does (nd_rm 2) (nd_Pv (nd_SH ++ t) z) 0 0 126 [(0, .ref 60), (2, .int x2), (3, .int x3)] [] (nd_SH ++ t) σ := by
  unfold f_X11_does_126 at h
  refine nd_iload_n dX11_does_126 1 rfl ?_
  refine nd_iconst dX11_does_127 ic_5 ?_
  refine nd_icmp_neN dX11_does_128 139 (by decide) h (fun h => ?_) (fun h => ?_)
  · exact nd_vret dX11_does_139 (Nat.zero_le _) (Nat.zero_le _) trivial (by cases h; exact ⟨rfl, rfl, rfl⟩)
  · refine nd_aload_n dX11_does_131 0 rfl ?_
    refine nd_get dX11_does_132 gf_X11_7 (sh_60 t) rfl ?_
    refine nd_bipush dX11_does_135 ib_6 ?_
    refine nd_iload_n dX11_does_137 2 rfl ?_
    refine nd_iastoreN dX11_does_138 (sh_61 t) h (fun σ1 h => ?_)
    exact nd_vret dX11_does_139 (Nat.zero_le _) (Nat.zero_le _) trivial (by cases h; exact ⟨rfl, rfl, rfl⟩)
set_option maxRecDepth 100000 in
set_option maxHeartbeats 4000000 in
theorem b_X11_does_108 (F : Nat) (t : List nd_S) (hL : (nd_SH ++ t).length < nd_ro) {z : Int32 × nd_Mem} (x1 : Int32) (x2 : Int32) (x3 : Int32) (σ : nd_Mem) (h : f_X11_does_108 F x1 x2 x3 σ = some z) : nd_V M_X11_does (nd_rm 2) (nd_Pv (nd_SH ++ t) z) 0 0 108 [(0, .ref 60), (1, .int x1), (2, .int x2), (3, .int x3)] [] (nd_SH ++ t) σ := by
  unfold f_X11_does_108 at h
  refine nd_iload_n dX11_does_108 2 rfl ?_
  refine nd_iconst dX11_does_109 ic_4 ?_
  refine nd_icmp_neN dX11_does_110 126 (by decide) h (fun h => ?_) (fun h => ?_)
  · refine nd_sub [0, 2, 3] rfl ?_
    exact b_X11_does_126 F t hL _ _ _ h
  · refine nd_aload_n dX11_does_113 0 rfl ?_
    refine nd_iload_n dX11_does_114 3 rfl ?_
    refine nd_aload_n dX11_does_115 0 rfl ?_
    refine nd_get dX11_does_116 gf_X11_56 (sh_60 t) rfl ?_
    refine nd_iload_n dX11_does_119 1 rfl ?_
    refine nd_iconst dX11_does_120 ic_3 ?_
    refine nd_iadd dX11_does_121 ?_
    refine nd_ialoadN dX11_does_122 (sh_75 t) h (fun h => ?_)
    obtain ⟨r1, σ2, hc3, h⟩ := nd_bind_e h
    refine nd_cvv [.int x3, .int (σ 75 ((x1 + (3 : Int32))).toNatClampNeg)] [] dX11_does_123 cl_X11_342 (sh_60 t) ⟨Nat.le_of_ble_eq_true rfl, Nat.le_of_ble_eq_true rfl⟩ rfl (Nat.le_of_ble_eq_true rfl) hL (t_X11_getsRicher F t hL _ _ _ hc3) ?_
    refine nd_sub [0, 2, 3] rfl ?_
    exact b_X11_does_126 F t hL _ _ _ h
set_option maxRecDepth 100000 in
set_option maxHeartbeats 4000000 in
theorem b_X11_does_107 (F : Nat) (t : List nd_S) (hL : (nd_SH ++ t).length < nd_ro) {z : Int32 × nd_Mem} (x1 : Int32) (x2 : Int32) (x3 : Int32) (s0 : Int32) (s1 : Int32) (σ : nd_Mem) (h : f_X11_does_107 F x1 x2 x3 s0 s1 σ = some z) : nd_V M_X11_does (nd_rm 2) (nd_Pv (nd_SH ++ t) z) 0 0 107 [(0, .ref 60), (1, .int x1), (2, .int x2), (3, .int x3)] [.int s0, .int s1, .ref 61] (nd_SH ++ t) σ := by
  unfold f_X11_does_107 at h
  refine nd_iastoreN dX11_does_107 (sh_61 t) h (fun σ1 h => ?_)
  exact b_X11_does_108 F t hL _ _ _ _ h
set_option maxRecDepth 100000 in
set_option maxHeartbeats 4000000 in
theorem b_X11_does_89 (F : Nat) (t : List nd_S) (hL : (nd_SH ++ t).length < nd_ro) {z : Int32 × nd_Mem} (x1 : Int32) (x2 : Int32) (x3 : Int32) (σ : nd_Mem) (h : f_X11_does_89 F x1 x2 x3 σ = some z) : nd_V M_X11_does (nd_rm 2) (nd_Pv (nd_SH ++ t) z) 0 0 89 [(0, .ref 60), (1, .int x1), (2, .int x2), (3, .int x3)] [] (nd_SH ++ t) σ := by
  unfold f_X11_does_89 at h
  refine nd_aload_n dX11_does_89 0 rfl ?_
  refine nd_get dX11_does_90 gf_X11_7 (sh_60 t) rfl ?_
  refine nd_bipush dX11_does_93 ib_87 ?_
  refine nd_iload_n dX11_does_95 3 rfl ?_
  refine nd_iadd dX11_does_96 ?_
  refine nd_iload_n dX11_does_97 2 rfl ?_
  refine nd_iconst dX11_does_98 ic_2 ?_
  refine nd_icmp_neN dX11_does_99 106 (by decide) h (fun h => ?_) (fun h => ?_)
  · refine nd_iconst dX11_does_106 ic_0 ?_
    exact b_X11_does_107 F t hL _ _ _ _ _ _ h
  · refine nd_iconst dX11_does_102 ic_1 ?_
    refine nd_goto dX11_does_103 107 (by decide) ?_
    exact b_X11_does_107 F t hL _ _ _ _ _ _ h
set_option maxRecDepth 100000 in
set_option maxHeartbeats 4000000 in
theorem b_X11_does_79 (F : Nat) (t : List nd_S) (hL : (nd_SH ++ t).length < nd_ro) {z : Int32 × nd_Mem} (x1 : Int32) (x2 : Int32) (x3 : Int32) (σ : nd_Mem) (h : f_X11_does_79 F x1 x2 x3 σ = some z) : nd_V M_X11_does (nd_rm 2) (nd_Pv (nd_SH ++ t) z) 0 0 79 [(0, .ref 60), (1, .int x1), (2, .int x2), (3, .int x3)] [] (nd_SH ++ t) σ := by
  unfold f_X11_does_79 at h
  refine nd_iload_n dX11_does_79 2 rfl ?_
  refine nd_iconst dX11_does_80 ic_2 ?_
  refine nd_icmp_eqN dX11_does_81 89 (by decide) h (fun h => ?_) (fun h => ?_)
  · exact b_X11_does_89 F t hL _ _ _ _ h
  · refine nd_iload_n dX11_does_84 2 rfl ?_
    refine nd_iconst dX11_does_85 ic_3 ?_
    refine nd_icmp_neN dX11_does_86 108 (by decide) h (fun h => ?_) (fun h => ?_)
    · exact b_X11_does_108 F t hL _ _ _ _ h
    · exact b_X11_does_89 F t hL _ _ _ _ h
set_option maxRecDepth 100000 in
set_option maxHeartbeats 4000000 in
theorem b_X11_does_48 (F : Nat) (t : List nd_S) (hL : (nd_SH ++ t).length < nd_ro) {z : Int32 × nd_Mem} (x1 : Int32) (x2 : Int32) (x3 : Int32) (σ : nd_Mem) (h : f_X11_does_48 F x1 x2 x3 σ = some z) : nd_V M_X11_does (nd_rm 2) (nd_Pv (nd_SH ++ t) z) 0 0 48 [(0, .ref 60), (1, .int x1), (2, .int x2), (3, .int x3)] [] (nd_SH ++ t) σ := by
  unfold f_X11_does_48 at h
  refine nd_iload_n dX11_does_48 2 rfl ?_
  refine nd_iconst dX11_does_49 ic_1 ?_
  refine nd_icmp_neN dX11_does_50 79 (by decide) h (fun h => ?_) (fun h => ?_)
  · exact b_X11_does_79 F t hL _ _ _ _ h
  · refine nd_aload_n dX11_does_53 0 rfl ?_
    refine nd_get dX11_does_54 gf_X11_7 (sh_60 t) rfl ?_
    refine nd_bipush dX11_does_57 ib_23 ?_
    refine nd_iload_n dX11_does_59 3 rfl ?_
    refine nd_iadd dX11_does_60 ?_
    refine nd_aload_n dX11_does_61 0 rfl ?_
    refine nd_bipush dX11_does_62 ib_9 ?_
    refine nd_aload_n dX11_does_64 0 rfl ?_
    refine nd_get dX11_does_65 gf_X11_7 (sh_60 t) rfl ?_
    refine nd_bipush dX11_does_68 ib_23 ?_
    refine nd_iload_n dX11_does_70 3 rfl ?_
    refine nd_iadd dX11_does_71 ?_
    refine nd_ialoadN dX11_does_72 (sh_61 t) h (fun h => ?_)
    refine nd_iconst dX11_does_73 ic_1 ?_
    refine nd_iadd dX11_does_74 ?_
    obtain ⟨r1, σ2, hc3, h⟩ := nd_bind_e h
    refine nd_cvi [.int (9 : Int32), .int ((σ 61 (((23 : Int32) + x3)).toNatClampNeg) + (1 : Int32))] [.int ((23 : Int32) + x3), .ref 61] dX11_does_75 cl_X11_332 (sh_60 t) ⟨Nat.le_of_ble_eq_true rfl, Nat.le_of_ble_eq_true rfl⟩ rfl (Nat.le_of_ble_eq_true rfl) hL (t_X11_lesser F t hL _ _ _ hc3) ?_
    refine nd_iastoreN dX11_does_78 (sh_61 t) h (fun σ4 h => ?_)
    exact b_X11_does_79 F t hL _ _ _ _ h
set_option maxRecDepth 100000 in
set_option maxHeartbeats 4000000 in
theorem t_X11_does (F : Nat) (t : List nd_S) (hL : (nd_SH ++ t).length < nd_ro) {z : Int32 × nd_Mem} (x1 : Int32) (σ : nd_Mem) (h : f_X11_does F x1 σ = some z) : nd_Fn M_X11_does (nd_rm 2) [.ref 60, .int x1] (nd_SH ++ t) σ (nd_Pv (nd_SH ++ t) z) := by
  refine nd_Fn.ofV (ls := [(0, .ref 60), (1, .int x1)]) pl_X11_does rfl (fun _ => Nat.le_of_ble_eq_true rfl) (fun _ => rfl) ?_
  unfold f_X11_does at h
  refine nd_aload_n dX11_does_0 0 rfl ?_
  refine nd_get dX11_does_1 gf_X11_56 (sh_60 t) rfl ?_
  refine nd_iload_n dX11_does_4 1 rfl ?_
  refine nd_iconst dX11_does_5 ic_1 ?_
  refine nd_iadd dX11_does_6 ?_
  refine nd_ialoadN dX11_does_7 (sh_75 t) h (fun h => ?_)
  refine nd_istore_n (ls' := [(2, .int (σ 75 ((x1 + (1 : Int32))).toNatClampNeg)), (0, .ref 60), (1, .int x1)]) dX11_does_8 (by decide) rfl ?_
  refine nd_aload_n dX11_does_9 1 rfl ?_
  refine nd_get dX11_does_10 gf_X11_56 (sh_60 t) rfl ?_
  refine nd_iload_n dX11_does_13 2 rfl ?_
  refine nd_iconst dX11_does_14 ic_2 ?_
  refine nd_iadd dX11_does_15 ?_
  refine nd_ialoadN dX11_does_16 (sh_75 t) h (fun h => ?_)
  refine nd_istore_n (ls' := [(3, .int (σ 75 ((x1 + (2 : Int32))).toNatClampNeg)), (2, .int (σ 75 ((x1 + (1 : Int32))).toNatClampNeg)), (0, .ref 60), (1, .int x1)]) dX11_does_17 (by decide) rfl ?_
  refine nd_iload_n dX11_does_18 1 rfl ?_
  refine nd_if_neN dX11_does_19 48 (by decide) h (fun h => ?_) (fun h => ?_)
  · refine nd_sub [2, 3, 1, 0] rfl ?_
    exact b_X11_does_48 F t hL _ _ _ _ h
  · refine nd_aload_n dX11_does_22 2 rfl ?_
    refine nd_get dX11_does_23 gf_X11_7 (sh_60 t) rfl ?_
    refine nd_bipush dX11_does_26 ib_7 ?_
    refine nd_iload_n dX11_does_28 0 rfl ?_
    refine nd_iadd dX11_does_29 ?_
    refine nd_aload_n dX11_does_30 2 rfl ?_
    refine nd_bipush dX11_does_31 ib_9 ?_
    refine nd_aload_n dX11_does_33 2 rfl ?_
    refine nd_get dX11_does_34 gf_X11_7 (sh_60 t) rfl ?_
    refine nd_bipush dX11_does_37 ib_7 ?_
    refine nd_iload_n dX11_does_39 0 rfl ?_
    refine nd_iadd dX11_does_40 ?_
    refine nd_ialoadN dX11_does_41 (sh_61 t) h (fun h => ?_)
    refine nd_iconst dX11_does_42 ic_1 ?_
    refine nd_iadd dX11_does_43 ?_
    obtain ⟨r1, σ2, hc3, h⟩ := nd_bind_e h
    refine nd_cvi [.int (9 : Int32), .int ((σ 61 (((7 : Int32) + (σ 75 ((x1 + (2 : Int32))).toNatClampNeg))).toNatClampNeg) + (1 : Int32))] [.int ((7 : Int32) + (σ 75 ((x1 + (2 : Int32))).toNatClampNeg)), .ref 61] dX11_does_44 cl_X11_332 (sh_60 t) ⟨Nat.le_of_ble_eq_true rfl, Nat.le_of_ble_eq_true rfl⟩ rfl (Nat.le_of_ble_eq_true rfl) hL (t_X11_lesser F t hL _ _ _ hc3) ?_
    refine nd_iastoreN dX11_does_47 (sh_61 t) h (fun σ4 h => ?_)
    refine nd_sub [2, 3, 1, 0] rfl ?_
    exact b_X11_does_48 F t hL _ _ _ _ h
def f_X11_game_48 (F : Nat) (σ : nd_Mem) : nd_Res := (some ((-1 : Int32), σ))
def f_X11_game_103 (F : Nat) (rec57 : Int32 → Int32 → Int32 → Int32 → nd_Mem → nd_Res) (x1 : Int32) (x2 : Int32) (x3 : Int32) (x4 : Int32) (σ : nd_Mem) : nd_Res := (rec57 x1 x2 x3 (x4 + (-1 : Int32)) σ)
def f_X11_game_102 (F : Nat) (rec57 : Int32 → Int32 → Int32 → Int32 → nd_Mem → nd_Res) (x1 : Int32) (x2 : Int32) (x3 : Int32) (x4 : Int32) (s0 : Int32) (s1 : Int32) (σ : nd_Mem) : nd_Res := (if s1 < 0 ∨ 262144 ≤ (s1).toNatClampNeg then none else (nd_let (nd_up σ 98 (s1).toNatClampNeg s0) fun σ1 => (f_X11_game_103 F rec57 x1 x2 x3 x4 σ1)))
def f_X11_game_57_b (F : Nat) (rec57 : Int32 → Int32 → Int32 → Int32 → nd_Mem → nd_Res) (x1 : Int32) (x2 : Int32) (x3 : Int32) (x4 : Int32) (σ : nd_Mem) : nd_Res := (if x4 < x2 then (if x3 = 0 then (if x2 < 0 ∨ 262144 ≤ (x2).toNatClampNeg then none else (some ((σ 98 (x2).toNatClampNeg), σ))) else (nd_bind (f_X11_winningDoor F x1 x2 σ) fun r1 σ2 => (some (r1, σ2)))) else (if (x4 &&& x2) = x2 then (nd_bind (f_X11_hasThree F x4 σ) fun r4 σ5 => (if r4 = 0 then (nd_bind (f_X11_winningDoor F x1 x4 σ5) fun r7 σ8 => (if r7 = (-1 : Int32) then (f_X11_game_102 F rec57 x1 x2 x3 x4 (0 : Int32) x4 σ8) else (f_X11_game_102 F rec57 x1 x2 x3 x4 (1 : Int32) x4 σ8))) else (f_X11_game_103 F rec57 x1 x2 x3 x4 σ5))) else (f_X11_game_103 F rec57 x1 x2 x3 x4 σ)))
def f_X11_game_57 (F : Nat) : Nat → Int32 → Int32 → Int32 → Int32 → nd_Mem → nd_Res
  | 0, _, _, _, _, _ => none
  | m9 + 1, x1, x2, x3, x4, σ => f_X11_game_57_b F (f_X11_game_57 F m9) x1 x2 x3 x4 σ
def f_X11_game (F : Nat) (x1 : Int32) (x2 : Int32) (x3 : Int32) (σ : nd_Mem) : nd_Res := (nd_let (nd_up σ 60 0 (0 : Int32)) fun σ1 => (nd_bind (f_X11_isIn F x1 (1 : Int32) (18 : Int32) σ1) fun r2 σ3 => (if r2 = 0 then (f_X11_game_48 F σ3) else (nd_bind (f_X11_isIn F x2 (0 : Int32) (((1 : Int32) <<< (x1 &&& 31)) - (1 : Int32)) σ3) fun r5 σ6 => (if r5 = 0 then (f_X11_game_48 F σ6) else (nd_bind (f_X11_hasThree F x2 σ6) fun r8 σ9 => (if r8 = 0 then (nd_bind (f_X11_isIn F x3 (0 : Int32) (1 : Int32) σ9) fun r11 σ12 => (if r11 = 0 then (f_X11_game_48 F σ12) else (f_X11_game_57 F F x1 x2 x3 (((1 : Int32) <<< (x1 &&& 31)) - (1 : Int32)) σ12))) else (f_X11_game_48 F σ9))))))))
set_option maxRecDepth 100000 in
set_option maxHeartbeats 4000000 in
theorem b_X11_game_48 (F : Nat) (t : List nd_S) (hL : (nd_SH ++ t).length < nd_ro) {z : Int32 × nd_Mem} (σ : nd_Mem) (h : f_X11_game_48 F σ = some z) : nd_V M_X11_game (nd_rm 2) (nd_Pi (nd_SH ++ t) z) 0 0 48 [(0, .ref 60)] [] (nd_SH ++ t) σ := by
  unfold f_X11_game_48 at h
  refine nd_iconst dX11_game_48 ic_m1 ?_
  exact nd_iret dX11_game_49 (Nat.zero_le _) (Nat.zero_le _) (vp_nar_int _) (by cases h; exact ⟨rfl, rfl, rfl⟩)
set_option maxRecDepth 100000 in
set_option maxHeartbeats 4000000 in
theorem b_X11_game_103 (F : Nat) (rec57 : Int32 → Int32 → Int32 → Int32 → nd_Mem → nd_Res) (t : List nd_S) (hL : (nd_SH ++ t).length < nd_ro) {z : Int32 × nd_Mem} (hrec57 : ∀ (x1 : Int32) (x2 : Int32) (x3 : Int32) (x4 : Int32) (σ : nd_Mem), rec57 x1 x2 x3 x4 σ = some z → nd_V M_X11_game (nd_rm 2) (nd_Pi (nd_SH ++ t) z) 0 0 57 [(0, .ref 60), (1, .int x1), (2, .int x2), (3, .int x3), (4, .int x4)] [] (nd_SH ++ t) σ) (x1 : Int32) (x2 : Int32) (x3 : Int32) (x4 : Int32) (σ : nd_Mem) (h : f_X11_game_103 F rec57 x1 x2 x3 x4 σ = some z) : nd_V M_X11_game (nd_rm 2) (nd_Pi (nd_SH ++ t) z) 0 0 103 [(0, .ref 60), (1, .int x1), (2, .int x2), (3, .int x3), (4, .int x4)] [] (nd_SH ++ t) σ := by
  unfold f_X11_game_103 at h
  refine nd_iinc (v := (x4 + (-1 : Int32))) (ls' := [(4, .int (x4 + (-1 : Int32))), (0, .ref 60), (1, .int x1), (2, .int x2), (3, .int x3)]) dX11_game_103 4 rfl (congrArg (HAdd.hAdd _) ic_m1) (by decide) rfl ?_
  refine nd_goto dX11_game_106 57 (by decide) ?_
  refine nd_sub [1, 2, 3, 4, 0] rfl ?_
  exact hrec57 _ _ _ _ _ h
set_option maxRecDepth 100000 in
set_option maxHeartbeats 4000000 in
theorem b_X11_game_102 (F : Nat) (rec57 : Int32 → Int32 → Int32 → Int32 → nd_Mem → nd_Res) (t : List nd_S) (hL : (nd_SH ++ t).length < nd_ro) {z : Int32 × nd_Mem} (hrec57 : ∀ (x1 : Int32) (x2 : Int32) (x3 : Int32) (x4 : Int32) (σ : nd_Mem), rec57 x1 x2 x3 x4 σ = some z → nd_V M_X11_game (nd_rm 2) (nd_Pi (nd_SH ++ t) z) 0 0 57 [(0, .ref 60), (1, .int x1), (2, .int x2), (3, .int x3), (4, .int x4)] [] (nd_SH ++ t) σ) (x1 : Int32) (x2 : Int32) (x3 : Int32) (x4 : Int32) (s0 : Int32) (s1 : Int32) (σ : nd_Mem) (h : f_X11_game_102 F rec57 x1 x2 x3 x4 s0 s1 σ = some z) : nd_V M_X11_game (nd_rm 2) (nd_Pi (nd_SH ++ t) z) 0 0 102 [(0, .ref 60), (1, .int x1), (2, .int x2), (3, .int x3), (4, .int x4)] [.int s0, .int s1, .ref 98] (nd_SH ++ t) σ := by
  unfold f_X11_game_102 at h
  refine nd_iastoreN dX11_game_102 (sh_98 t) h (fun σ1 h => ?_)
  exact b_X11_game_103 F _ t hL hrec57 _ _ _ _ _ h
set_option maxRecDepth 100000 in
set_option maxHeartbeats 4000000 in
theorem b_X11_game_57 (F : Nat) (t : List nd_S) (hL : (nd_SH ++ t).length < nd_ro) {z : Int32 × nd_Mem} (m9 : Nat) : ∀ (x1 : Int32) (x2 : Int32) (x3 : Int32) (x4 : Int32) (σ : nd_Mem), f_X11_game_57 F m9 x1 x2 x3 x4 σ = some z → nd_V M_X11_game (nd_rm 2) (nd_Pi (nd_SH ++ t) z) 0 0 57 [(0, .ref 60), (1, .int x1), (2, .int x2), (3, .int x3), (4, .int x4)] [] (nd_SH ++ t) σ := by
  induction m9 with
  | zero =>
    intro x1 x2 x3 x4 σ h
    have h : none = some z := h
    cases h
  | succ m9 hrec57 =>
    intro x1 x2 x3 x4 σ h
    have h : f_X11_game_57_b F (f_X11_game_57 F m9) x1 x2 x3 x4 σ = some z := h
    unfold f_X11_game_57_b at h
    refine nd_iload dX11_game_57 4 rfl ?_
    refine nd_iload_n dX11_game_59 2 rfl ?_
    refine nd_icmp_ltN dX11_game_60 109 (by decide) h (fun h => ?_) (fun h => ?_)
    · refine nd_iload_n dX11_game_109 3 rfl ?_
      refine nd_if_neN dX11_game_110 122 (by decide) h (fun h => ?_) (fun h => ?_)
      · refine nd_aload_n dX11_game_122 0 rfl ?_
        refine nd_iload_n dX11_game_123 1 rfl ?_
        refine nd_iload_n dX11_game_124 2 rfl ?_
        obtain ⟨r1, σ2, hc3, h⟩ := nd_bind_e h
        refine nd_cvi [.int x1, .int x2] [] dX11_game_125 cl_X11_473 (sh_60 t) ⟨Nat.le_of_ble_eq_true rfl, Nat.le_of_ble_eq_true rfl⟩ rfl (Nat.le_of_ble_eq_true rfl) hL (t_X11_winningDoor F t hL _ _ _ hc3) ?_
        exact nd_iret dX11_game_128 (Nat.zero_le _) (Nat.zero_le _) (vp_nar_int _) (by cases h; exact ⟨rfl, rfl, rfl⟩)
      · refine nd_aload_n dX11_game_113 0 rfl ?_
        refine nd_get dX11_game_114 gf_X11_126 (sh_60 t) rfl ?_
        refine nd_iload_n dX11_game_117 2 rfl ?_
        refine nd_ialoadN dX11_game_118 (sh_98 t) h (fun h => ?_)
        refine nd_goto dX11_game_119 128 (by decide) ?_
        exact nd_iret dX11_game_128 (Nat.zero_le _) (Nat.zero_le _) (vp_nar_int _) (by cases h; exact ⟨rfl, rfl, rfl⟩)
    · refine nd_iload dX11_game_63 4 rfl ?_
      refine nd_iload_n dX11_game_65 2 rfl ?_
      refine nd_iand dX11_game_66 ?_
      refine nd_iload_n dX11_game_67 2 rfl ?_
      refine nd_icmp_neN dX11_game_68 103 (by decide) h (fun h => ?_) (fun h => ?_)
      · exact b_X11_game_103 F _ t hL hrec57 _ _ _ _ _ h
      · refine nd_aload_n dX11_game_71 0 rfl ?_
        refine nd_iload dX11_game_72 4 rfl ?_
        obtain ⟨r4, σ5, hc6, h⟩ := nd_bind_e h
        refine nd_cvi [.int x4] [] dX11_game_74 cl_X11_470 (sh_60 t) ⟨Nat.le_of_ble_eq_true rfl, Nat.le_of_ble_eq_true rfl⟩ rfl (Nat.le_of_ble_eq_true rfl) hL (t_X11_hasThree F t hL _ _ hc6) ?_
        refine nd_if_neN dX11_game_77 103 (by decide) h (fun h => ?_) (fun h => ?_)
        · exact b_X11_game_103 F _ t hL hrec57 _ _ _ _ _ h
        · refine nd_aload_n dX11_game_80 0 rfl ?_
          refine nd_get dX11_game_81 gf_X11_126 (sh_60 t) rfl ?_
          refine nd_iload dX11_game_84 4 rfl ?_
          refine nd_aload_n dX11_game_86 0 rfl ?_
          refine nd_iload_n dX11_game_87 1 rfl ?_
          refine nd_iload dX11_game_88 4 rfl ?_
          obtain ⟨r7, σ8, hc9, h⟩ := nd_bind_e h
          refine nd_cvi [.int x1, .int x4] [.int x4, .ref 98] dX11_game_90 cl_X11_473 (sh_60 t) ⟨Nat.le_of_ble_eq_true rfl, Nat.le_of_ble_eq_true rfl⟩ rfl (Nat.le_of_ble_eq_true rfl) hL (t_X11_winningDoor F t hL _ _ _ hc9) ?_
          refine nd_iconst dX11_game_93 ic_m1 ?_
          refine nd_icmp_neN dX11_game_94 101 (by decide) h (fun h => ?_) (fun h => ?_)
          · refine nd_iconst dX11_game_101 ic_1 ?_
            exact b_X11_game_102 F _ t hL hrec57 _ _ _ _ _ _ _ h
          · refine nd_iconst dX11_game_97 ic_0 ?_
            refine nd_goto dX11_game_98 102 (by decide) ?_
            exact b_X11_game_102 F _ t hL hrec57 _ _ _ _ _ _ _ h
set_option maxRecDepth 100000 in
set_option maxHeartbeats 4000000 in
theorem t_X11_game (F : Nat) (t : List nd_S) (hL : (nd_SH ++ t).length < nd_ro) {z : Int32 × nd_Mem} (x1 : Int32) (x2 : Int32) (x3 : Int32) (σ : nd_Mem) (h : f_X11_game F x1 x2 x3 σ = some z) : nd_Fn M_X11_game (nd_rm 2) [.ref 60, .int x1, .int x2, .int x3] (nd_SH ++ t) σ (nd_Pi (nd_SH ++ t) z) := by
  refine nd_Fn.ofV (ls := [(0, .ref 60), (1, .int x1), (2, .int x2), (3, .int x3)]) pl_X11_game rfl (fun _ => Nat.le_of_ble_eq_true rfl) (fun _ => rfl) ?_
  unfold f_X11_game at h
  refine nd_aload_n dX11_game_0 0 rfl ?_
  refine nd_iconst dX11_game_1 ic_0 ?_
  refine nd_putiN dX11_game_2 pf_X11_132 (sh_60 t) rfl h (fun σ1 h => ?_)
  refine nd_aload_n dX11_game_5 0 rfl ?_
  refine nd_iload_n dX11_game_6 1 rfl ?_
  refine nd_iconst dX11_game_7 ic_1 ?_
  refine nd_bipush dX11_game_8 ib_18 ?_
  obtain ⟨r2, σ3, hc4, h⟩ := nd_bind_e h
  refine nd_cvi [.int x1, .int (1 : Int32), .int (18 : Int32)] [] dX11_game_10 cl_X11_147 (sh_60 t) ⟨Nat.le_of_ble_eq_true rfl, Nat.le_of_ble_eq_true rfl⟩ rfl (Nat.le_of_ble_eq_true rfl) hL (t_X11_isIn F t hL _ _ _ _ hc4) ?_
  refine nd_if_eqN dX11_game_13 48 (by decide) h (fun h => ?_) (fun h => ?_)
  · refine nd_sub [0] rfl ?_
    exact b_X11_game_48 F t hL _ h
  · refine nd_aload_n dX11_game_16 0 rfl ?_
    refine nd_iload_n dX11_game_17 2 rfl ?_
    refine nd_iconst dX11_game_18 ic_0 ?_
    refine nd_iconst dX11_game_19 ic_1 ?_
    refine nd_iload_n dX11_game_20 1 rfl ?_
    refine nd_ishl dX11_game_21 ?_
    refine nd_iconst dX11_game_22 ic_1 ?_
    refine nd_isub dX11_game_23 ?_
    obtain ⟨r5, σ6, hc7, h⟩ := nd_bind_e h
    refine nd_cvi [.int x2, .int (0 : Int32), .int (((1 : Int32) <<< (x1 &&& 31)) - (1 : Int32))] [] dX11_game_24 cl_X11_147 (sh_60 t) ⟨Nat.le_of_ble_eq_true rfl, Nat.le_of_ble_eq_true rfl⟩ rfl (Nat.le_of_ble_eq_true rfl) hL (t_X11_isIn F t hL _ _ _ _ hc7) ?_
    refine nd_if_eqN dX11_game_27 48 (by decide) h (fun h => ?_) (fun h => ?_)
    · refine nd_sub [0] rfl ?_
      exact b_X11_game_48 F t hL _ h
    · refine nd_aload_n dX11_game_30 0 rfl ?_
      refine nd_iload_n dX11_game_31 2 rfl ?_
      obtain ⟨r8, σ9, hc10, h⟩ := nd_bind_e h
      refine nd_cvi [.int x2] [] dX11_game_32 cl_X11_470 (sh_60 t) ⟨Nat.le_of_ble_eq_true rfl, Nat.le_of_ble_eq_true rfl⟩ rfl (Nat.le_of_ble_eq_true rfl) hL (t_X11_hasThree F t hL _ _ hc10) ?_
      refine nd_if_neN dX11_game_35 48 (by decide) h (fun h => ?_) (fun h => ?_)
      · refine nd_sub [0] rfl ?_
        exact b_X11_game_48 F t hL _ h
      · refine nd_aload_n dX11_game_38 0 rfl ?_
        refine nd_iload_n dX11_game_39 3 rfl ?_
        refine nd_iconst dX11_game_40 ic_0 ?_
        refine nd_iconst dX11_game_41 ic_1 ?_
        obtain ⟨r11, σ12, hc13, h⟩ := nd_bind_e h
        refine nd_cvi [.int x3, .int (0 : Int32), .int (1 : Int32)] [] dX11_game_42 cl_X11_147 (sh_60 t) ⟨Nat.le_of_ble_eq_true rfl, Nat.le_of_ble_eq_true rfl⟩ rfl (Nat.le_of_ble_eq_true rfl) hL (t_X11_isIn F t hL _ _ _ _ hc13) ?_
        refine nd_if_neN dX11_game_45 50 (by decide) h (fun h => ?_) (fun h => ?_)
        · refine nd_iconst dX11_game_50 ic_1 ?_
          refine nd_iload_n dX11_game_51 1 rfl ?_
          refine nd_ishl dX11_game_52 ?_
          refine nd_iconst dX11_game_53 ic_1 ?_
          refine nd_isub dX11_game_54 ?_
          refine nd_istore (ls' := [(4, .int (((1 : Int32) <<< (x1 &&& 31)) - (1 : Int32))), (0, .ref 60), (1, .int x1), (2, .int x2), (3, .int x3)]) dX11_game_55 (by decide) rfl ?_
          refine nd_sub [1, 2, 3, 4, 0] rfl ?_
          exact b_X11_game_57 F t hL F _ _ _ _ _ h
        · refine nd_sub [0] rfl ?_
          exact b_X11_game_48 F t hL _ h
def f_X11_home_80 (F : Nat) (σ : nd_Mem) : nd_Res := (some ((-1 : Int32), σ))
def f_X11_home_149 (F : Nat) (x4 : Int32) (σ : nd_Mem) : nd_Res := (if x4 = 0 then (some ((σ 60 58), σ)) else (some ((σ 60 59), σ)))
def f_X11_home (F : Nat) (x1 : Int32) (x2 : Int32) (x3 : Int32) (x4 : Int32) (σ : nd_Mem) : nd_Res := (nd_let (nd_up σ 60 0 (0 : Int32)) fun σ1 => (nd_bind (f_X11_isIn F x2 (1 : Int32) (8 : Int32) σ1) fun r2 σ3 => (if r2 = 0 then (f_X11_home_80 F σ3) else (nd_bind (f_X11_isIn F x1 (0 : Int32) x2 σ3) fun r5 σ6 => (if r5 = 0 then (f_X11_home_80 F σ6) else (nd_bind (f_X11_isIn F x3 (12 : Int32) (56 : Int32) σ6) fun r8 σ9 => (if r8 = 0 then (f_X11_home_80 F σ9) else (nd_bind (f_X11_isIn F (q_rem x3 (10 : Int32)) (2 : Int32) (6 : Int32) σ9) fun r11 σ12 => (if r11 = 0 then (f_X11_home_80 F σ12) else (if (q_rem x3 (10 : Int32)) ≤ (x3 / (10 : Int32)) then (f_X11_home_80 F σ12) else (nd_bind (f_X11_isIn F x4 (0 : Int32) (1 : Int32) σ12) fun r14 σ15 => (if r14 = 0 then (f_X11_home_80 F σ15) else (if (x3 / (10 : Int32)) = ((q_rem x3 (10 : Int32)) - (x3 / (10 : Int32))) then (nd_bind (f_X11_isFraction F x1 x2 σ15) fun r35 σ36 => (f_X11_home_149 F x4 σ36)) else (nd_bind (f_X11_power F (x3 / (10 : Int32)) (x2 - x1) σ15) fun r17 σ18 => (nd_bind (f_X11_power F (x3 / (10 : Int32)) x1 σ18) fun r20 σ21 => (nd_bind (f_X11_power F ((q_rem x3 (10 : Int32)) - (x3 / (10 : Int32))) x1 σ21) fun r23 σ24 => (nd_bind (f_X11_power F (x3 / (10 : Int32)) x2 σ24) fun r26 σ27 => (nd_bind (f_X11_power F ((q_rem x3 (10 : Int32)) - (x3 / (10 : Int32))) x2 σ27) fun r29 σ30 => (nd_bind (f_X11_isFraction F (r17 * (r20 - r23)) (r26 - r29) σ30) fun r32 σ33 => (f_X11_home_149 F x4 σ33))))))))))))))))))))
set_option maxRecDepth 100000 in
set_option maxHeartbeats 4000000 in
theorem b_X11_home_80 (F : Nat) (t : List nd_S) (hL : (nd_SH ++ t).length < nd_ro) {z : Int32 × nd_Mem} (σ : nd_Mem) (h : f_X11_home_80 F σ = some z) : nd_V M_X11_home (nd_rm 2) (nd_Pi (nd_SH ++ t) z) 0 0 80 [(0, .ref 60)] [] (nd_SH ++ t) σ := by
  unfold f_X11_home_80 at h
  refine nd_iconst dX11_home_80 ic_m1 ?_
  exact nd_iret dX11_home_81 (Nat.zero_le _) (Nat.zero_le _) (vp_nar_int _) (by cases h; exact ⟨rfl, rfl, rfl⟩)
set_option maxRecDepth 100000 in
set_option maxHeartbeats 4000000 in
theorem b_X11_home_149 (F : Nat) (t : List nd_S) (hL : (nd_SH ++ t).length < nd_ro) {z : Int32 × nd_Mem} (x4 : Int32) (σ : nd_Mem) (h : f_X11_home_149 F x4 σ = some z) : nd_V M_X11_home (nd_rm 2) (nd_Pi (nd_SH ++ t) z) 0 0 149 [(0, .ref 60), (4, .int x4)] [] (nd_SH ++ t) σ := by
  unfold f_X11_home_149 at h
  refine nd_iload dX11_home_149 1 rfl ?_
  refine nd_if_neN dX11_home_151 161 (by decide) h (fun h => ?_) (fun h => ?_)
  · refine nd_aload_n dX11_home_161 0 rfl ?_
    refine nd_get dX11_home_162 gf_X11_435 (sh_60 t) rfl ?_
    exact nd_iret dX11_home_165 (Nat.zero_le _) (Nat.zero_le _) (vp_nar_int _) (by cases h; exact ⟨rfl, rfl, rfl⟩)
  · refine nd_aload_n dX11_home_154 0 rfl ?_
    refine nd_get dX11_home_155 gf_X11_432 (sh_60 t) rfl ?_
    refine nd_goto dX11_home_158 165 (by decide) ?_
    exact nd_iret dX11_home_165 (Nat.zero_le _) (Nat.zero_le _) (vp_nar_int _) (by cases h; exact ⟨rfl, rfl, rfl⟩)
set_option maxRecDepth 100000 in
set_option maxHeartbeats 4000000 in
theorem t_X11_home (F : Nat) (t : List nd_S) (hL : (nd_SH ++ t).length < nd_ro) {z : Int32 × nd_Mem} (x1 : Int32) (x2 : Int32) (x3 : Int32) (x4 : Int32) (σ : nd_Mem) (h : f_X11_home F x1 x2 x3 x4 σ = some z) : nd_Fn M_X11_home (nd_rm 2) [.ref 60, .int x1, .int x2, .int x3, .int x4] (nd_SH ++ t) σ (nd_Pi (nd_SH ++ t) z) := by
  refine nd_Fn.ofV (ls := [(0, .ref 60), (1, .int x1), (2, .int x2), (3, .int x3), (4, .int x4)]) pl_X11_home rfl (fun _ => Nat.le_of_ble_eq_true rfl) (fun _ => rfl) ?_
  unfold f_X11_home at h
  refine nd_aload_n dX11_home_0 0 rfl ?_
  refine nd_iconst dX11_home_1 ic_0 ?_
  refine nd_putiN dX11_home_2 pf_X11_132 (sh_60 t) rfl h (fun σ1 h => ?_)
  refine nd_iload_n dX11_home_5 3 rfl ?_
  refine nd_bipush dX11_home_6 ib_10 ?_
  refine nd_idiv dX11_home_8 (by decide) ?_
  refine nd_istore (ls' := [(5, .int (x3 / (10 : Int32))), (0, .ref 60), (1, .int x1), (2, .int x2), (3, .int x3), (4, .int x4)]) dX11_home_9 (by decide) rfl ?_
  refine nd_iload_n dX11_home_11 4 rfl ?_
  refine nd_bipush dX11_home_12 ib_10 ?_
  refine nd_irem dX11_home_14 (by decide) ?_
  refine nd_istore (ls' := [(6, .int (q_rem x3 (10 : Int32))), (5, .int (x3 / (10 : Int32))), (0, .ref 60), (1, .int x1), (2, .int x2), (3, .int x3), (4, .int x4)]) dX11_home_15 (by decide) rfl ?_
  refine nd_aload_n dX11_home_17 2 rfl ?_
  refine nd_iload_n dX11_home_18 4 rfl ?_
  refine nd_iconst dX11_home_19 ic_1 ?_
  refine nd_bipush dX11_home_20 ib_8 ?_
  obtain ⟨r2, σ3, hc4, h⟩ := nd_bind_e h
  refine nd_cvi [.int x2, .int (1 : Int32), .int (8 : Int32)] [] dX11_home_22 cl_X11_147 (sh_60 t) ⟨Nat.le_of_ble_eq_true rfl, Nat.le_of_ble_eq_true rfl⟩ rfl (Nat.le_of_ble_eq_true rfl) hL (t_X11_isIn F t hL _ _ _ _ hc4) ?_
  refine nd_if_eqN dX11_home_25 80 (by decide) h (fun h => ?_) (fun h => ?_)
  · refine nd_sub [2] rfl ?_
    exact b_X11_home_80 F t hL _ h
  · refine nd_aload_n dX11_home_28 2 rfl ?_
    refine nd_iload_n dX11_home_29 3 rfl ?_
    refine nd_iconst dX11_home_30 ic_0 ?_
    refine nd_iload_n dX11_home_31 4 rfl ?_
    obtain ⟨r5, σ6, hc7, h⟩ := nd_bind_e h
    refine nd_cvi [.int x1, .int (0 : Int32), .int x2] [] dX11_home_32 cl_X11_147 (sh_60 t) ⟨Nat.le_of_ble_eq_true rfl, Nat.le_of_ble_eq_true rfl⟩ rfl (Nat.le_of_ble_eq_true rfl) hL (t_X11_isIn F t hL _ _ _ _ hc7) ?_
    refine nd_if_eqN dX11_home_35 80 (by decide) h (fun h => ?_) (fun h => ?_)
    · refine nd_sub [2] rfl ?_
      exact b_X11_home_80 F t hL _ h
    · refine nd_aload_n dX11_home_38 2 rfl ?_
      refine nd_iload_n dX11_home_39 5 rfl ?_
      refine nd_bipush dX11_home_40 ib_12 ?_
      refine nd_bipush dX11_home_42 ib_56 ?_
      obtain ⟨r8, σ9, hc10, h⟩ := nd_bind_e h
      refine nd_cvi [.int x3, .int (12 : Int32), .int (56 : Int32)] [] dX11_home_44 cl_X11_147 (sh_60 t) ⟨Nat.le_of_ble_eq_true rfl, Nat.le_of_ble_eq_true rfl⟩ rfl (Nat.le_of_ble_eq_true rfl) hL (t_X11_isIn F t hL _ _ _ _ hc10) ?_
      refine nd_if_eqN dX11_home_47 80 (by decide) h (fun h => ?_) (fun h => ?_)
      · refine nd_sub [2] rfl ?_
        exact b_X11_home_80 F t hL _ h
      · refine nd_aload_n dX11_home_50 2 rfl ?_
        refine nd_iload dX11_home_51 0 rfl ?_
        refine nd_iconst dX11_home_53 ic_2 ?_
        refine nd_bipush dX11_home_54 ib_6 ?_
        obtain ⟨r11, σ12, hc13, h⟩ := nd_bind_e h
        refine nd_cvi [.int (q_rem x3 (10 : Int32)), .int (2 : Int32), .int (6 : Int32)] [] dX11_home_56 cl_X11_147 (sh_60 t) ⟨Nat.le_of_ble_eq_true rfl, Nat.le_of_ble_eq_true rfl⟩ rfl (Nat.le_of_ble_eq_true rfl) hL (t_X11_isIn F t hL _ _ _ _ hc13) ?_
        refine nd_if_eqN dX11_home_59 80 (by decide) h (fun h => ?_) (fun h => ?_)
        · refine nd_sub [2] rfl ?_
          exact b_X11_home_80 F t hL _ h
        · refine nd_iload dX11_home_62 1 rfl ?_
          refine nd_iload dX11_home_64 0 rfl ?_
          refine nd_icmp_geN dX11_home_66 80 (by decide) h (fun h => ?_) (fun h => ?_)
          · refine nd_sub [2] rfl ?_
            exact b_X11_home_80 F t hL _ h
          · refine nd_aload_n dX11_home_69 2 rfl ?_
            refine nd_iload dX11_home_70 6 rfl ?_
            refine nd_iconst dX11_home_72 ic_0 ?_
            refine nd_iconst dX11_home_73 ic_1 ?_
            obtain ⟨r14, σ15, hc16, h⟩ := nd_bind_e h
            refine nd_cvi [.int x4, .int (0 : Int32), .int (1 : Int32)] [] dX11_home_74 cl_X11_147 (sh_60 t) ⟨Nat.le_of_ble_eq_true rfl, Nat.le_of_ble_eq_true rfl⟩ rfl (Nat.le_of_ble_eq_true rfl) hL (t_X11_isIn F t hL _ _ _ _ hc16) ?_
            refine nd_if_neN dX11_home_77 82 (by decide) h (fun h => ?_) (fun h => ?_)
            · refine nd_iload dX11_home_82 0 rfl ?_
              refine nd_iload dX11_home_84 1 rfl ?_
              refine nd_isub dX11_home_86 ?_
              refine nd_istore (ls' := [(7, .int ((q_rem x3 (10 : Int32)) - (x3 / (10 : Int32)))), (6, .int (q_rem x3 (10 : Int32))), (5, .int (x3 / (10 : Int32))), (0, .ref 60), (1, .int x1), (2, .int x2), (3, .int x3), (4, .int x4)]) dX11_home_87 (by decide) rfl ?_
              refine nd_iload dX11_home_89 2 rfl ?_
              refine nd_iload dX11_home_91 0 rfl ?_
              refine nd_icmp_neN dX11_home_93 105 (by decide) h (fun h => ?_) (fun h => ?_)
              · refine nd_aload_n dX11_home_105 3 rfl ?_
                refine nd_aload_n dX11_home_106 3 rfl ?_
                refine nd_iload dX11_home_107 2 rfl ?_
                refine nd_iload_n dX11_home_109 5 rfl ?_
                refine nd_iload_n dX11_home_110 4 rfl ?_
                refine nd_isub dX11_home_111 ?_
                obtain ⟨r17, σ18, hc19, h⟩ := nd_bind_e h
                refine nd_cvi [.int (x3 / (10 : Int32)), .int (x2 - x1)] [.ref 60] dX11_home_112 cl_X11_449 (sh_60 t) ⟨Nat.le_of_ble_eq_true rfl, Nat.le_of_ble_eq_true rfl⟩ rfl (Nat.le_of_ble_eq_true rfl) hL (t_X11_power F t hL _ _ _ hc19) ?_
                refine nd_aload_n dX11_home_115 3 rfl ?_
                refine nd_iload dX11_home_116 2 rfl ?_
                refine nd_iload_n dX11_home_118 4 rfl ?_
                obtain ⟨r20, σ21, hc22, h⟩ := nd_bind_e h
                refine nd_cvi [.int (x3 / (10 : Int32)), .int x1] [.int r17, .ref 60] dX11_home_119 cl_X11_449 (sh_60 t) ⟨Nat.le_of_ble_eq_true rfl, Nat.le_of_ble_eq_true rfl⟩ rfl (Nat.le_of_ble_eq_true rfl) hL (t_X11_power F t hL _ _ _ hc22) ?_
                refine nd_aload_n dX11_home_122 3 rfl ?_
                refine nd_iload dX11_home_123 0 rfl ?_
                refine nd_iload_n dX11_home_125 4 rfl ?_
                obtain ⟨r23, σ24, hc25, h⟩ := nd_bind_e h
                refine nd_cvi [.int ((q_rem x3 (10 : Int32)) - (x3 / (10 : Int32))), .int x1] [.int r20, .int r17, .ref 60] dX11_home_126 cl_X11_449 (sh_60 t) ⟨Nat.le_of_ble_eq_true rfl, Nat.le_of_ble_eq_true rfl⟩ rfl (Nat.le_of_ble_eq_true rfl) hL (t_X11_power F t hL _ _ _ hc25) ?_
                refine nd_isub dX11_home_129 ?_
                refine nd_imul dX11_home_130 ?_
                refine nd_aload_n dX11_home_131 3 rfl ?_
                refine nd_iload dX11_home_132 2 rfl ?_
                refine nd_iload_n dX11_home_134 5 rfl ?_
                obtain ⟨r26, σ27, hc28, h⟩ := nd_bind_e h
                refine nd_cvi [.int (x3 / (10 : Int32)), .int x2] [.int (r17 * (r20 - r23)), .ref 60] dX11_home_135 cl_X11_449 (sh_60 t) ⟨Nat.le_of_ble_eq_true rfl, Nat.le_of_ble_eq_true rfl⟩ rfl (Nat.le_of_ble_eq_true rfl) hL (t_X11_power F t hL _ _ _ hc28) ?_
                refine nd_aload_n dX11_home_138 3 rfl ?_
                refine nd_iload dX11_home_139 0 rfl ?_
                refine nd_iload_n dX11_home_141 5 rfl ?_
                obtain ⟨r29, σ30, hc31, h⟩ := nd_bind_e h
                refine nd_cvi [.int ((q_rem x3 (10 : Int32)) - (x3 / (10 : Int32))), .int x2] [.int r26, .int (r17 * (r20 - r23)), .ref 60] dX11_home_142 cl_X11_449 (sh_60 t) ⟨Nat.le_of_ble_eq_true rfl, Nat.le_of_ble_eq_true rfl⟩ rfl (Nat.le_of_ble_eq_true rfl) hL (t_X11_power F t hL _ _ _ hc31) ?_
                refine nd_isub dX11_home_145 ?_
                obtain ⟨r32, σ33, hc34, h⟩ := nd_bind_e h
                refine nd_cvv [.int (r17 * (r20 - r23)), .int (r26 - r29)] [] dX11_home_146 cl_X11_446 (sh_60 t) ⟨Nat.le_of_ble_eq_true rfl, Nat.le_of_ble_eq_true rfl⟩ rfl (Nat.le_of_ble_eq_true rfl) hL (t_X11_isFraction F t hL _ _ _ hc34) ?_
                refine nd_sub [3, 7] rfl ?_
                exact b_X11_home_149 F t hL _ _ h
              · refine nd_aload_n dX11_home_96 3 rfl ?_
                refine nd_iload_n dX11_home_97 4 rfl ?_
                refine nd_iload_n dX11_home_98 5 rfl ?_
                obtain ⟨r35, σ36, hc37, h⟩ := nd_bind_e h
                refine nd_cvv [.int x1, .int x2] [] dX11_home_99 cl_X11_446 (sh_60 t) ⟨Nat.le_of_ble_eq_true rfl, Nat.le_of_ble_eq_true rfl⟩ rfl (Nat.le_of_ble_eq_true rfl) hL (t_X11_isFraction F t hL _ _ _ hc37) ?_
                refine nd_goto dX11_home_102 149 (by decide) ?_
                refine nd_sub [3, 7] rfl ?_
                exact b_X11_home_149 F t hL _ _ h
            · refine nd_sub [2] rfl ?_
              exact b_X11_home_80 F t hL _ h
def f_X11_image_111 (F : Nat) (σ : nd_Mem) : nd_Res := (some ((1 : Int32), σ))
def f_X11_image_69_b (F : Nat) (rec69 : Int32 → Int32 → nd_Mem → nd_Res) (x1 : Int32) (x2 : Int32) (σ : nd_Mem) : nd_Res := (if (600 : Int32) ≤ x2 then (nd_bind (f_X11_keepsLaw F σ) fun r1 σ2 => (if x1 = 0 then (nd_let (nd_up σ2 60 3 (0 : Int32)) fun σ4 => (f_X11_image_111 F σ4)) else (f_X11_image_111 F σ2))) else (if x2 < 0 ∨ 600 ≤ (x2).toNatClampNeg then none else (nd_bind (f_X11_keeps F (σ 64 (x2).toNatClampNeg) σ) fun r5 σ6 => (if x2 < 0 ∨ 600 ≤ (x2).toNatClampNeg then none else (nd_let (nd_up σ6 64 (x2).toNatClampNeg r5) fun σ8 => (rec69 x1 (x2 + (1 : Int32)) σ8))))))
def f_X11_image_69 (F : Nat) : Nat → Int32 → Int32 → nd_Mem → nd_Res
  | 0, _, _, _ => none
  | m9 + 1, x1, x2, σ => f_X11_image_69_b F (f_X11_image_69 F m9) x1 x2 σ
def f_X11_image_35_b (F : Nat) (rec35 : Int32 → Int32 → nd_Mem → nd_Res) (x1 : Int32) (x2 : Int32) (σ : nd_Mem) : nd_Res := (if (103 : Int32) ≤ x2 then (nd_bind (f_X11_keepsTold F σ) fun r1 σ2 => (f_X11_image_69 F F x1 (0 : Int32) σ2)) else (if x2 < 0 ∨ 103 ≤ (x2).toNatClampNeg then none else (nd_bind (f_X11_keeps F (σ 61 (x2).toNatClampNeg) σ) fun r4 σ5 => (if x2 < 0 ∨ 103 ≤ (x2).toNatClampNeg then none else (nd_let (nd_up σ5 61 (x2).toNatClampNeg r4) fun σ7 => (rec35 x1 (x2 + (1 : Int32)) σ7))))))
def f_X11_image_35 (F : Nat) : Nat → Int32 → Int32 → nd_Mem → nd_Res
  | 0, _, _, _ => none
  | m9 + 1, x1, x2, σ => f_X11_image_35_b F (f_X11_image_35 F m9) x1 x2 σ
def f_X11_image_18 (F : Nat) (x1 : Int32) (σ : nd_Mem) : nd_Res := (if ¬ (x1 = 0 ∨ x1 = 1) then none else (nd_let (nd_up σ 60 65 x1) fun σ1 => (if ¬ ((1 : Int32) = 0 ∨ (1 : Int32) = 1) then none else (nd_let (nd_up σ1 60 66 (1 : Int32)) fun σ2 => (nd_let (nd_up σ2 60 67 (0 : Int32)) fun σ3 => (f_X11_image_35 F F x1 (0 : Int32) σ3))))))
def f_X11_image (F : Nat) (x1 : Int32) (σ : nd_Mem) : nd_Res := (nd_let (nd_up σ 60 0 (0 : Int32)) fun σ1 => (if x1 = 0 then (if (σ1 60 66) = 0 then (some ((0 : Int32), σ1)) else (f_X11_image_18 F x1 σ1)) else (f_X11_image_18 F x1 σ1)))
set_option maxRecDepth 100000 in
set_option maxHeartbeats 4000000 in
theorem b_X11_image_111 (F : Nat) (t : List nd_S) (hL : (nd_SH ++ t).length < nd_ro) {z : Int32 × nd_Mem} (σ : nd_Mem) (h : f_X11_image_111 F σ = some z) : nd_V M_X11_image (nd_rm 2) (nd_Pi (nd_SH ++ t) z) 0 0 111 [(0, .ref 60)] [] (nd_SH ++ t) σ := by
  unfold f_X11_image_111 at h
  refine nd_iconst dX11_image_111 ic_1 ?_
  exact nd_iret dX11_image_112 (Nat.zero_le _) (Nat.zero_le _) rfl (by cases h; exact ⟨rfl, rfl, rfl⟩)
set_option maxRecDepth 100000 in
set_option maxHeartbeats 4000000 in
theorem b_X11_image_69 (F : Nat) (t : List nd_S) (hL : (nd_SH ++ t).length < nd_ro) {z : Int32 × nd_Mem} (m9 : Nat) : ∀ (x1 : Int32) (x2 : Int32) (σ : nd_Mem), f_X11_image_69 F m9 x1 x2 σ = some z → nd_V M_X11_image (nd_rm 2) (nd_Pi (nd_SH ++ t) z) 0 0 69 [(0, .ref 60), (1, .int x1), (2, .int x2)] [] (nd_SH ++ t) σ := by
  induction m9 with
  | zero =>
    intro x1 x2 σ h
    have h : none = some z := h
    cases h
  | succ m9 hrec69 =>
    intro x1 x2 σ h
    have h : f_X11_image_69_b F (f_X11_image_69 F m9) x1 x2 σ = some z := h
    unfold f_X11_image_69_b at h
    refine nd_iload_n dX11_image_69 2 rfl ?_
    refine nd_sipush dX11_image_70 is_600 ?_
    refine nd_icmp_geN dX11_image_73 98 (by decide) h (fun h => ?_) (fun h => ?_)
    · refine nd_aload_n dX11_image_98 0 rfl ?_
      obtain ⟨r1, σ2, hc3, h⟩ := nd_bind_e h
      refine nd_cvv [] [] dX11_image_99 cl_X11_491 (sh_60 t) ⟨Nat.le_of_ble_eq_true rfl, Nat.le_of_ble_eq_true rfl⟩ rfl (Nat.le_of_ble_eq_true rfl) hL (t_X11_keepsLaw F t hL _ hc3) ?_
      refine nd_iload_n dX11_image_102 1 rfl ?_
      refine nd_if_neN dX11_image_103 111 (by decide) h (fun h => ?_) (fun h => ?_)
      · refine nd_sub [0] rfl ?_
        exact b_X11_image_111 F t hL _ h
      · refine nd_aload_n dX11_image_106 0 rfl ?_
        refine nd_iconst dX11_image_107 ic_0 ?_
        refine nd_putiN dX11_image_108 pf_X11_135 (sh_60 t) rfl h (fun σ4 h => ?_)
        refine nd_sub [0] rfl ?_
        exact b_X11_image_111 F t hL _ h
    · refine nd_aload_n dX11_image_76 0 rfl ?_
      refine nd_get dX11_image_77 gf_X11_19 (sh_60 t) rfl ?_
      refine nd_iload_n dX11_image_80 2 rfl ?_
      refine nd_aload_n dX11_image_81 0 rfl ?_
      refine nd_aload_n dX11_image_82 0 rfl ?_
      refine nd_get dX11_image_83 gf_X11_19 (sh_60 t) rfl ?_
      refine nd_iload_n dX11_image_86 2 rfl ?_
      refine nd_ialoadN dX11_image_87 (sh_64 t) h (fun h => ?_)
      obtain ⟨r5, σ6, hc7, h⟩ := nd_bind_e h
      refine nd_cvi [.int (σ 64 (x2).toNatClampNeg)] [.int x2, .ref 64] dX11_image_88 cl_X11_482 (sh_60 t) ⟨Nat.le_of_ble_eq_true rfl, Nat.le_of_ble_eq_true rfl⟩ rfl (Nat.le_of_ble_eq_true rfl) hL (t_X11_keeps F t hL _ _ hc7) ?_
      refine nd_iastoreN dX11_image_91 (sh_64 t) h (fun σ8 h => ?_)
      refine nd_iinc (v := (x2 + (1 : Int32))) (ls' := [(2, .int (x2 + (1 : Int32))), (0, .ref 60), (1, .int x1)]) dX11_image_92 2 rfl (congrArg (HAdd.hAdd _) ic_1) (by decide) rfl ?_
      refine nd_goto dX11_image_95 69 (by decide) ?_
      refine nd_sub [1, 2, 0] rfl ?_
      exact hrec69 _ _ _ h
set_option maxRecDepth 100000 in
set_option maxHeartbeats 4000000 in
theorem b_X11_image_35 (F : Nat) (t : List nd_S) (hL : (nd_SH ++ t).length < nd_ro) {z : Int32 × nd_Mem} (m9 : Nat) : ∀ (x1 : Int32) (x2 : Int32) (σ : nd_Mem), f_X11_image_35 F m9 x1 x2 σ = some z → nd_V M_X11_image (nd_rm 2) (nd_Pi (nd_SH ++ t) z) 0 0 35 [(0, .ref 60), (1, .int x1), (2, .int x2)] [] (nd_SH ++ t) σ := by
  induction m9 with
  | zero =>
    intro x1 x2 σ h
    have h : none = some z := h
    cases h
  | succ m9 hrec35 =>
    intro x1 x2 σ h
    have h : f_X11_image_35_b F (f_X11_image_35 F m9) x1 x2 σ = some z := h
    unfold f_X11_image_35_b at h
    refine nd_iload_n dX11_image_35 2 rfl ?_
    refine nd_bipush dX11_image_36 ib_103 ?_
    refine nd_icmp_geN dX11_image_38 63 (by decide) h (fun h => ?_) (fun h => ?_)
    · refine nd_aload_n dX11_image_63 0 rfl ?_
      obtain ⟨r1, σ2, hc3, h⟩ := nd_bind_e h
      refine nd_cvv [] [] dX11_image_64 cl_X11_488 (sh_60 t) ⟨Nat.le_of_ble_eq_true rfl, Nat.le_of_ble_eq_true rfl⟩ rfl (Nat.le_of_ble_eq_true rfl) hL (t_X11_keepsTold F t hL _ hc3) ?_
      refine nd_iconst dX11_image_67 ic_0 ?_
      refine nd_istore_n (ls' := [(2, .int (0 : Int32)), (0, .ref 60), (1, .int x1)]) dX11_image_68 (by decide) rfl ?_
      refine nd_sub [1, 2, 0] rfl ?_
      exact b_X11_image_69 F t hL F _ _ _ h
    · refine nd_aload_n dX11_image_41 0 rfl ?_
      refine nd_get dX11_image_42 gf_X11_7 (sh_60 t) rfl ?_
      refine nd_iload_n dX11_image_45 2 rfl ?_
      refine nd_aload_n dX11_image_46 0 rfl ?_
      refine nd_aload_n dX11_image_47 0 rfl ?_
      refine nd_get dX11_image_48 gf_X11_7 (sh_60 t) rfl ?_
      refine nd_iload_n dX11_image_51 2 rfl ?_
      refine nd_ialoadN dX11_image_52 (sh_61 t) h (fun h => ?_)
      obtain ⟨r4, σ5, hc6, h⟩ := nd_bind_e h
      refine nd_cvi [.int (σ 61 (x2).toNatClampNeg)] [.int x2, .ref 61] dX11_image_53 cl_X11_482 (sh_60 t) ⟨Nat.le_of_ble_eq_true rfl, Nat.le_of_ble_eq_true rfl⟩ rfl (Nat.le_of_ble_eq_true rfl) hL (t_X11_keeps F t hL _ _ hc6) ?_
      refine nd_iastoreN dX11_image_56 (sh_61 t) h (fun σ7 h => ?_)
      refine nd_iinc (v := (x2 + (1 : Int32))) (ls' := [(2, .int (x2 + (1 : Int32))), (0, .ref 60), (1, .int x1)]) dX11_image_57 2 rfl (congrArg (HAdd.hAdd _) ic_1) (by decide) rfl ?_
      refine nd_goto dX11_image_60 35 (by decide) ?_
      refine nd_sub [1, 2, 0] rfl ?_
      exact hrec35 _ _ _ h
set_option maxRecDepth 100000 in
set_option maxHeartbeats 4000000 in
theorem b_X11_image_18 (F : Nat) (t : List nd_S) (hL : (nd_SH ++ t).length < nd_ro) {z : Int32 × nd_Mem} (x1 : Int32) (σ : nd_Mem) (h : f_X11_image_18 F x1 σ = some z) : nd_V M_X11_image (nd_rm 2) (nd_Pi (nd_SH ++ t) z) 0 0 18 [(0, .ref 60), (1, .int x1)] [] (nd_SH ++ t) σ := by
  unfold f_X11_image_18 at h
  refine nd_aload_n dX11_image_18 0 rfl ?_
  refine nd_iload_n dX11_image_19 1 rfl ?_
  refine nd_putzN dX11_image_20 pf_X11_479 (sh_60 t) rfl h (fun σ1 h => ?_)
  refine nd_aload_n dX11_image_23 0 rfl ?_
  refine nd_iconst dX11_image_24 ic_1 ?_
  refine nd_putzN dX11_image_25 pf_X11_485 (sh_60 t) rfl h (fun σ2 h => ?_)
  refine nd_aload_n dX11_image_28 0 rfl ?_
  refine nd_iconst dX11_image_29 ic_0 ?_
  refine nd_putiN dX11_image_30 pf_X11_476 (sh_60 t) rfl h (fun σ3 h => ?_)
  refine nd_iconst dX11_image_33 ic_0 ?_
  refine nd_istore_n (ls' := [(2, .int (0 : Int32)), (0, .ref 60), (1, .int x1)]) dX11_image_34 (by decide) rfl ?_
  refine nd_sub [1, 2, 0] rfl ?_
  exact b_X11_image_35 F t hL F _ _ _ h
set_option maxRecDepth 100000 in
set_option maxHeartbeats 4000000 in
theorem t_X11_image (F : Nat) (t : List nd_S) (hL : (nd_SH ++ t).length < nd_ro) {z : Int32 × nd_Mem} (x1 : Int32) (σ : nd_Mem) (h : f_X11_image F x1 σ = some z) : nd_Fn M_X11_image (nd_rm 2) [.ref 60, .int x1] (nd_SH ++ t) σ (nd_Pi (nd_SH ++ t) z) := by
  refine nd_Fn.ofV (ls := [(0, .ref 60), (1, .int x1)]) pl_X11_image rfl (fun _ => Nat.le_of_ble_eq_true rfl) (fun _ => rfl) ?_
  unfold f_X11_image at h
  refine nd_aload_n dX11_image_0 0 rfl ?_
  refine nd_iconst dX11_image_1 ic_0 ?_
  refine nd_putiN dX11_image_2 pf_X11_132 (sh_60 t) rfl h (fun σ1 h => ?_)
  refine nd_iload_n dX11_image_5 1 rfl ?_
  refine nd_if_neN dX11_image_6 18 (by decide) h (fun h => ?_) (fun h => ?_)
  · exact b_X11_image_18 F t hL _ _ h
  · refine nd_aload_n dX11_image_9 0 rfl ?_
    refine nd_get dX11_image_10 gf_X11_485 (sh_60 t) rfl ?_
    refine nd_if_neN dX11_image_13 18 (by decide) h (fun h => ?_) (fun h => ?_)
    · exact b_X11_image_18 F t hL _ _ h
    · refine nd_iconst dX11_image_16 ic_0 ?_
      exact nd_iret dX11_image_17 (Nat.zero_le _) (Nat.zero_le _) rfl (by cases h; exact ⟨rfl, rfl, rfl⟩)
def f_X11_isKing_64 (F : Nat) (rec2 : Int32 → Int32 → nd_Mem → nd_Res) (rec33 : Int32 → Int32 → Int32 → Int32 → nd_Mem → nd_Res) (x1 : Int32) (x2 : Int32) (x3 : Int32) (x4 : Int32) (σ : nd_Mem) : nd_Res := (rec33 x1 x2 x3 (x4 + (1 : Int32)) σ)
def f_X11_isKing_33_b (F : Nat) (rec2 : Int32 → Int32 → nd_Mem → nd_Res) (rec33 : Int32 → Int32 → Int32 → Int32 → nd_Mem → nd_Res) (x1 : Int32) (x2 : Int32) (x3 : Int32) (x4 : Int32) (σ : nd_Mem) : nd_Res := (if (σ 60 6) ≤ x4 then (if x3 = 0 then (some ((0 : Int32), σ)) else (rec2 x1 (x2 + (1 : Int32)) σ)) else (nd_bind (f_X11_isAbove F x1 x4 σ) fun r1 σ2 => (if r1 = 0 then (f_X11_isKing_64 F rec2 rec33 x1 x2 x3 x4 σ2) else (nd_bind (f_X11_isAbove F x4 x2 σ2) fun r4 σ5 => (if r4 = 0 then (f_X11_isKing_64 F rec2 rec33 x1 x2 x3 x4 σ5) else (f_X11_isKing_64 F rec2 rec33 x1 x2 (1 : Int32) x4 σ5))))))
def f_X11_isKing_33 (F : Nat) (rec2 : Int32 → Int32 → nd_Mem → nd_Res) : Nat → Int32 → Int32 → Int32 → Int32 → nd_Mem → nd_Res
  | 0, _, _, _, _, _ => none
  | m9 + 1, x1, x2, x3, x4, σ => f_X11_isKing_33_b F rec2 (f_X11_isKing_33 F rec2 m9) x1 x2 x3 x4 σ
def f_X11_isKing_29 (F : Nat) (rec2 : Int32 → Int32 → nd_Mem → nd_Res) (x1 : Int32) (x2 : Int32) (s0 : Int32) (σ : nd_Mem) : nd_Res := (f_X11_isKing_33 F rec2 F x1 x2 s0 (0 : Int32) σ)
def f_X11_isKing_24 (F : Nat) (rec2 : Int32 → Int32 → nd_Mem → nd_Res) (x1 : Int32) (x2 : Int32) (σ : nd_Mem) : nd_Res := (f_X11_isKing_29 F rec2 x1 x2 (1 : Int32) σ)
def f_X11_isKing_2_b (F : Nat) (rec2 : Int32 → Int32 → nd_Mem → nd_Res) (x1 : Int32) (x2 : Int32) (σ : nd_Mem) : nd_Res := (if (σ 60 6) ≤ x2 then (some ((1 : Int32), σ)) else (if x1 = x2 then (f_X11_isKing_24 F rec2 x1 x2 σ) else (nd_bind (f_X11_isAbove F x1 x2 σ) fun r1 σ2 => (if r1 = 0 then (f_X11_isKing_29 F rec2 x1 x2 (0 : Int32) σ2) else (f_X11_isKing_24 F rec2 x1 x2 σ2)))))
def f_X11_isKing_2 (F : Nat) : Nat → Int32 → Int32 → nd_Mem → nd_Res
  | 0, _, _, _ => none
  | m9 + 1, x1, x2, σ => f_X11_isKing_2_b F (f_X11_isKing_2 F m9) x1 x2 σ
def f_X11_isKing (F : Nat) (x1 : Int32) (σ : nd_Mem) : nd_Res := (f_X11_isKing_2 F F x1 (0 : Int32) σ)
set_option maxRecDepth 100000 in
set_option maxHeartbeats 4000000 in
theorem b_X11_isKing_64 (F : Nat) (rec2 : Int32 → Int32 → nd_Mem → nd_Res) (rec33 : Int32 → Int32 → Int32 → Int32 → nd_Mem → nd_Res) (t : List nd_S) (hL : (nd_SH ++ t).length < nd_ro) {z : Int32 × nd_Mem} (hrec2 : ∀ (x1 : Int32) (x2 : Int32) (σ : nd_Mem), rec2 x1 x2 σ = some z → nd_V M_X11_isKing (nd_rm 2) (nd_Pi (nd_SH ++ t) z) 0 0 2 [(0, .ref 60), (1, .int x1), (2, .int x2)] [] (nd_SH ++ t) σ) (hrec33 : ∀ (x1 : Int32) (x2 : Int32) (x3 : Int32) (x4 : Int32) (σ : nd_Mem), rec33 x1 x2 x3 x4 σ = some z → nd_V M_X11_isKing (nd_rm 2) (nd_Pi (nd_SH ++ t) z) 0 0 33 [(0, .ref 60), (1, .int x1), (2, .int x2), (3, .int x3), (4, .int x4)] [] (nd_SH ++ t) σ) (x1 : Int32) (x2 : Int32) (x3 : Int32) (x4 : Int32) (σ : nd_Mem) (h : f_X11_isKing_64 F rec2 rec33 x1 x2 x3 x4 σ = some z) : nd_V M_X11_isKing (nd_rm 2) (nd_Pi (nd_SH ++ t) z) 0 0 64 [(0, .ref 60), (1, .int x1), (2, .int x2), (3, .int x3), (4, .int x4)] [] (nd_SH ++ t) σ := by
  unfold f_X11_isKing_64 at h
  refine nd_iinc (v := (x4 + (1 : Int32))) (ls' := [(4, .int (x4 + (1 : Int32))), (0, .ref 60), (1, .int x1), (2, .int x2), (3, .int x3)]) dX11_isKing_64 4 rfl (congrArg (HAdd.hAdd _) ic_1) (by decide) rfl ?_
  refine nd_goto dX11_isKing_67 33 (by decide) ?_
  refine nd_sub [1, 2, 3, 4, 0] rfl ?_
  exact hrec33 _ _ _ _ _ h
set_option maxRecDepth 100000 in
set_option maxHeartbeats 4000000 in
theorem b_X11_isKing_33 (F : Nat) (rec2 : Int32 → Int32 → nd_Mem → nd_Res) (t : List nd_S) (hL : (nd_SH ++ t).length < nd_ro) {z : Int32 × nd_Mem} (hrec2 : ∀ (x1 : Int32) (x2 : Int32) (σ : nd_Mem), rec2 x1 x2 σ = some z → nd_V M_X11_isKing (nd_rm 2) (nd_Pi (nd_SH ++ t) z) 0 0 2 [(0, .ref 60), (1, .int x1), (2, .int x2)] [] (nd_SH ++ t) σ) (m9 : Nat) : ∀ (x1 : Int32) (x2 : Int32) (x3 : Int32) (x4 : Int32) (σ : nd_Mem), f_X11_isKing_33 F rec2 m9 x1 x2 x3 x4 σ = some z → nd_V M_X11_isKing (nd_rm 2) (nd_Pi (nd_SH ++ t) z) 0 0 33 [(0, .ref 60), (1, .int x1), (2, .int x2), (3, .int x3), (4, .int x4)] [] (nd_SH ++ t) σ := by
  induction m9 with
  | zero =>
    intro x1 x2 x3 x4 σ h
    have h : none = some z := h
    cases h
  | succ m9 hrec33 =>
    intro x1 x2 x3 x4 σ h
    have h : f_X11_isKing_33_b F rec2 (f_X11_isKing_33 F rec2 m9) x1 x2 x3 x4 σ = some z := h
    unfold f_X11_isKing_33_b at h
    refine nd_iload dX11_isKing_33 4 rfl ?_
    refine nd_aload_n dX11_isKing_35 0 rfl ?_
    refine nd_get dX11_isKing_36 gf_X11_144 (sh_60 t) rfl ?_
    refine nd_icmp_geN dX11_isKing_39 70 (by decide) h (fun h => ?_) (fun h => ?_)
    · refine nd_iload_n dX11_isKing_70 3 rfl ?_
      refine nd_if_neN dX11_isKing_71 76 (by decide) h (fun h => ?_) (fun h => ?_)
      · refine nd_iinc (v := (x2 + (1 : Int32))) (ls' := [(2, .int (x2 + (1 : Int32))), (0, .ref 60), (1, .int x1), (3, .int x3), (4, .int x4)]) dX11_isKing_76 2 rfl (congrArg (HAdd.hAdd _) ic_1) (by decide) rfl ?_
        refine nd_goto dX11_isKing_79 2 (by decide) ?_
        refine nd_sub [1, 2, 0] rfl ?_
        exact hrec2 _ _ _ h
      · refine nd_iconst dX11_isKing_74 ic_0 ?_
        exact nd_iret dX11_isKing_75 (Nat.zero_le _) (Nat.zero_le _) rfl (by cases h; exact ⟨rfl, rfl, rfl⟩)
    · refine nd_aload_n dX11_isKing_42 0 rfl ?_
      refine nd_iload_n dX11_isKing_43 1 rfl ?_
      refine nd_iload dX11_isKing_44 4 rfl ?_
      obtain ⟨r1, σ2, hc3, h⟩ := nd_bind_e h
      refine nd_cvi [.int x1, .int x4] [] dX11_isKing_46 cl_X11_420 (sh_60 t) ⟨Nat.le_of_ble_eq_true rfl, Nat.le_of_ble_eq_true rfl⟩ rfl (Nat.le_of_ble_eq_true rfl) hL (t_X11_isAbove F t hL _ _ _ hc3) ?_
      refine nd_if_eqN dX11_isKing_49 64 (by decide) h (fun h => ?_) (fun h => ?_)
      · exact b_X11_isKing_64 F _ _ t hL hrec2 hrec33 _ _ _ _ _ h
      · refine nd_aload_n dX11_isKing_52 0 rfl ?_
        refine nd_iload dX11_isKing_53 4 rfl ?_
        refine nd_iload_n dX11_isKing_55 2 rfl ?_
        obtain ⟨r4, σ5, hc6, h⟩ := nd_bind_e h
        refine nd_cvi [.int x4, .int x2] [] dX11_isKing_56 cl_X11_420 (sh_60 t) ⟨Nat.le_of_ble_eq_true rfl, Nat.le_of_ble_eq_true rfl⟩ rfl (Nat.le_of_ble_eq_true rfl) hL (t_X11_isAbove F t hL _ _ _ hc6) ?_
        refine nd_if_eqN dX11_isKing_59 64 (by decide) h (fun h => ?_) (fun h => ?_)
        · exact b_X11_isKing_64 F _ _ t hL hrec2 hrec33 _ _ _ _ _ h
        · refine nd_iconst dX11_isKing_62 ic_1 ?_
          refine nd_istore_n (ls' := [(3, .int (1 : Int32)), (0, .ref 60), (1, .int x1), (2, .int x2), (4, .int x4)]) dX11_isKing_63 (by decide) rfl ?_
          refine nd_sub [1, 2, 3, 0, 4] rfl ?_
          exact b_X11_isKing_64 F _ _ t hL hrec2 hrec33 _ _ _ _ _ h
set_option maxRecDepth 100000 in
set_option maxHeartbeats 4000000 in
theorem b_X11_isKing_29 (F : Nat) (rec2 : Int32 → Int32 → nd_Mem → nd_Res) (t : List nd_S) (hL : (nd_SH ++ t).length < nd_ro) {z : Int32 × nd_Mem} (hrec2 : ∀ (x1 : Int32) (x2 : Int32) (σ : nd_Mem), rec2 x1 x2 σ = some z → nd_V M_X11_isKing (nd_rm 2) (nd_Pi (nd_SH ++ t) z) 0 0 2 [(0, .ref 60), (1, .int x1), (2, .int x2)] [] (nd_SH ++ t) σ) (x1 : Int32) (x2 : Int32) (s0 : Int32) (σ : nd_Mem) (h : f_X11_isKing_29 F rec2 x1 x2 s0 σ = some z) : nd_V M_X11_isKing (nd_rm 2) (nd_Pi (nd_SH ++ t) z) 0 0 29 [(0, .ref 60), (1, .int x1), (2, .int x2)] [.int s0] (nd_SH ++ t) σ := by
  unfold f_X11_isKing_29 at h
  refine nd_istore_n (ls' := [(3, .int s0), (0, .ref 60), (1, .int x1), (2, .int x2)]) dX11_isKing_29 (by decide) rfl ?_
  refine nd_iconst dX11_isKing_30 ic_0 ?_
  refine nd_istore (ls' := [(4, .int (0 : Int32)), (3, .int s0), (0, .ref 60), (1, .int x1), (2, .int x2)]) dX11_isKing_31 (by decide) rfl ?_
  refine nd_sub [2, 3, 4, 1, 0] rfl ?_
  exact b_X11_isKing_33 F _ t hL hrec2 F _ _ _ _ _ h
set_option maxRecDepth 100000 in
set_option maxHeartbeats 4000000 in
theorem b_X11_isKing_24 (F : Nat) (rec2 : Int32 → Int32 → nd_Mem → nd_Res) (t : List nd_S) (hL : (nd_SH ++ t).length < nd_ro) {z : Int32 × nd_Mem} (hrec2 : ∀ (x1 : Int32) (x2 : Int32) (σ : nd_Mem), rec2 x1 x2 σ = some z → nd_V M_X11_isKing (nd_rm 2) (nd_Pi (nd_SH ++ t) z) 0 0 2 [(0, .ref 60), (1, .int x1), (2, .int x2)] [] (nd_SH ++ t) σ) (x1 : Int32) (x2 : Int32) (σ : nd_Mem) (h : f_X11_isKing_24 F rec2 x1 x2 σ = some z) : nd_V M_X11_isKing (nd_rm 2) (nd_Pi (nd_SH ++ t) z) 0 0 24 [(0, .ref 60), (1, .int x1), (2, .int x2)] [] (nd_SH ++ t) σ := by
  unfold f_X11_isKing_24 at h
  refine nd_iconst dX11_isKing_24 ic_1 ?_
  refine nd_goto dX11_isKing_25 29 (by decide) ?_
  exact b_X11_isKing_29 F _ t hL hrec2 _ _ _ _ h
set_option maxRecDepth 100000 in
set_option maxHeartbeats 4000000 in
theorem b_X11_isKing_2 (F : Nat) (t : List nd_S) (hL : (nd_SH ++ t).length < nd_ro) {z : Int32 × nd_Mem} (m9 : Nat) : ∀ (x1 : Int32) (x2 : Int32) (σ : nd_Mem), f_X11_isKing_2 F m9 x1 x2 σ = some z → nd_V M_X11_isKing (nd_rm 2) (nd_Pi (nd_SH ++ t) z) 0 0 2 [(0, .ref 60), (1, .int x1), (2, .int x2)] [] (nd_SH ++ t) σ := by
  induction m9 with
  | zero =>
    intro x1 x2 σ h
    have h : none = some z := h
    cases h
  | succ m9 hrec2 =>
    intro x1 x2 σ h
    have h : f_X11_isKing_2_b F (f_X11_isKing_2 F m9) x1 x2 σ = some z := h
    unfold f_X11_isKing_2_b at h
    refine nd_iload_n dX11_isKing_2 2 rfl ?_
    refine nd_aload_n dX11_isKing_3 0 rfl ?_
    refine nd_get dX11_isKing_4 gf_X11_144 (sh_60 t) rfl ?_
    refine nd_icmp_geN dX11_isKing_7 82 (by decide) h (fun h => ?_) (fun h => ?_)
    · refine nd_iconst dX11_isKing_82 ic_1 ?_
      exact nd_iret dX11_isKing_83 (Nat.zero_le _) (Nat.zero_le _) rfl (by cases h; exact ⟨rfl, rfl, rfl⟩)
    · refine nd_iload_n dX11_isKing_10 1 rfl ?_
      refine nd_iload_n dX11_isKing_11 2 rfl ?_
      refine nd_icmp_eqN dX11_isKing_12 24 (by decide) h (fun h => ?_) (fun h => ?_)
      · exact b_X11_isKing_24 F _ t hL hrec2 _ _ _ h
      · refine nd_aload_n dX11_isKing_15 0 rfl ?_
        refine nd_iload_n dX11_isKing_16 1 rfl ?_
        refine nd_iload_n dX11_isKing_17 2 rfl ?_
        obtain ⟨r1, σ2, hc3, h⟩ := nd_bind_e h
        refine nd_cvi [.int x1, .int x2] [] dX11_isKing_18 cl_X11_420 (sh_60 t) ⟨Nat.le_of_ble_eq_true rfl, Nat.le_of_ble_eq_true rfl⟩ rfl (Nat.le_of_ble_eq_true rfl) hL (t_X11_isAbove F t hL _ _ _ hc3) ?_
        refine nd_if_eqN dX11_isKing_21 28 (by decide) h (fun h => ?_) (fun h => ?_)
        · refine nd_iconst dX11_isKing_28 ic_0 ?_
          exact b_X11_isKing_29 F _ t hL hrec2 _ _ _ _ h
        · exact b_X11_isKing_24 F _ t hL hrec2 _ _ _ h
set_option maxRecDepth 100000 in
set_option maxHeartbeats 4000000 in
theorem t_X11_isKing (F : Nat) (t : List nd_S) (hL : (nd_SH ++ t).length < nd_ro) {z : Int32 × nd_Mem} (x1 : Int32) (σ : nd_Mem) (h : f_X11_isKing F x1 σ = some z) : nd_Fn M_X11_isKing (nd_rm 2) [.ref 60, .int x1] (nd_SH ++ t) σ (nd_Pi (nd_SH ++ t) z) := by
  refine nd_Fn.ofV (ls := [(0, .ref 60), (1, .int x1)]) pl_X11_isKing rfl (fun _ => Nat.le_of_ble_eq_true rfl) (fun _ => rfl) ?_
  unfold f_X11_isKing at h
  refine nd_iconst dX11_isKing_0 ic_0 ?_
  refine nd_istore_n (ls' := [(2, .int (0 : Int32)), (0, .ref 60), (1, .int x1)]) dX11_isKing_1 (by decide) rfl ?_
  refine nd_sub [1, 2, 0] rfl ?_
  exact b_X11_isKing_2 F t hL F _ _ _ h
def f_X11_lineOf_57 (F : Nat) (x2 : Int32) (σ : nd_Mem) : nd_Res := (some (x2, σ))
def f_X11_lineOf_59 (F : Nat) (rec2 : Int32 → Int32 → nd_Mem → nd_Res) (x1 : Int32) (x2 : Int32) (σ : nd_Mem) : nd_Res := (rec2 x1 (x2 + (1 : Int32)) σ)
def f_X11_lineOf_2_b (F : Nat) (rec2 : Int32 → Int32 → nd_Mem → nd_Res) (x1 : Int32) (x2 : Int32) (σ : nd_Mem) : nd_Res := (if (0 : Int32) < 0 ∨ 2 ≤ ((0 : Int32)).toNatClampNeg then none else (if (σ 67 ((0 : Int32)).toNatClampNeg) ≤ x2 then (some ((-1 : Int32), σ)) else (if x2 < 0 ∨ 48 ≤ (x2).toNatClampNeg then none else (if (σ 68 (x2).toNatClampNeg) = x1 then (if x2 < 0 ∨ 48 ≤ (x2).toNatClampNeg then none else (if x2 < 0 ∨ 48 ≤ (x2).toNatClampNeg then none else (if (σ 70 (x2).toNatClampNeg) = (σ 71 (x2).toNatClampNeg) then (f_X11_lineOf_57 F x2 σ) else (if x2 < 0 ∨ 48 ≤ (x2).toNatClampNeg then none else (if x2 < 0 ∨ 48 ≤ (x2).toNatClampNeg then none else (nd_bind (f_X11_runs F (0 : Int32) (σ 70 (x2).toNatClampNeg) (σ 71 (x2).toNatClampNeg) σ) fun r1 σ2 => (if r1 = 0 then (f_X11_lineOf_59 F rec2 x1 x2 σ2) else (f_X11_lineOf_57 F x2 σ2)))))))) else (f_X11_lineOf_59 F rec2 x1 x2 σ)))))
def f_X11_lineOf_2 (F : Nat) : Nat → Int32 → Int32 → nd_Mem → nd_Res
  | 0, _, _, _ => none
  | m9 + 1, x1, x2, σ => f_X11_lineOf_2_b F (f_X11_lineOf_2 F m9) x1 x2 σ
def f_X11_lineOf (F : Nat) (x1 : Int32) (σ : nd_Mem) : nd_Res := (f_X11_lineOf_2 F F x1 (0 : Int32) σ)
set_option maxRecDepth 100000 in
set_option maxHeartbeats 4000000 in
theorem b_X11_lineOf_57 (F : Nat) (t : List nd_S) (hL : (nd_SH ++ t).length < nd_ro) {z : Int32 × nd_Mem} (x2 : Int32) (σ : nd_Mem) (h : f_X11_lineOf_57 F x2 σ = some z) : nd_V M_X11_lineOf (nd_rm 2) (nd_Pi (nd_SH ++ t) z) 0 0 57 [(0, .ref 60), (2, .int x2)] [] (nd_SH ++ t) σ := by
  unfold f_X11_lineOf_57 at h
  refine nd_iload_n dX11_lineOf_57 1 rfl ?_
  exact nd_iret dX11_lineOf_58 (Nat.zero_le _) (Nat.zero_le _) (vp_nar_int _) (by cases h; exact ⟨rfl, rfl, rfl⟩)
set_option maxRecDepth 100000 in
set_option maxHeartbeats 4000000 in
theorem b_X11_lineOf_59 (F : Nat) (rec2 : Int32 → Int32 → nd_Mem → nd_Res) (t : List nd_S) (hL : (nd_SH ++ t).length < nd_ro) {z : Int32 × nd_Mem} (hrec2 : ∀ (x1 : Int32) (x2 : Int32) (σ : nd_Mem), rec2 x1 x2 σ = some z → nd_V M_X11_lineOf (nd_rm 2) (nd_Pi (nd_SH ++ t) z) 0 0 2 [(0, .ref 60), (1, .int x1), (2, .int x2)] [] (nd_SH ++ t) σ) (x1 : Int32) (x2 : Int32) (σ : nd_Mem) (h : f_X11_lineOf_59 F rec2 x1 x2 σ = some z) : nd_V M_X11_lineOf (nd_rm 2) (nd_Pi (nd_SH ++ t) z) 0 0 59 [(0, .ref 60), (1, .int x1), (2, .int x2)] [] (nd_SH ++ t) σ := by
  unfold f_X11_lineOf_59 at h
  refine nd_iinc (v := (x2 + (1 : Int32))) (ls' := [(2, .int (x2 + (1 : Int32))), (0, .ref 60), (1, .int x1)]) dX11_lineOf_59 2 rfl (congrArg (HAdd.hAdd _) ic_1) (by decide) rfl ?_
  refine nd_goto dX11_lineOf_62 2 (by decide) ?_
  refine nd_sub [1, 2, 0] rfl ?_
  exact hrec2 _ _ _ h
set_option maxRecDepth 100000 in
set_option maxHeartbeats 4000000 in
theorem b_X11_lineOf_2 (F : Nat) (t : List nd_S) (hL : (nd_SH ++ t).length < nd_ro) {z : Int32 × nd_Mem} (m9 : Nat) : ∀ (x1 : Int32) (x2 : Int32) (σ : nd_Mem), f_X11_lineOf_2 F m9 x1 x2 σ = some z → nd_V M_X11_lineOf (nd_rm 2) (nd_Pi (nd_SH ++ t) z) 0 0 2 [(0, .ref 60), (1, .int x1), (2, .int x2)] [] (nd_SH ++ t) σ := by
  induction m9 with
  | zero =>
    intro x1 x2 σ h
    have h : none = some z := h
    cases h
  | succ m9 hrec2 =>
    intro x1 x2 σ h
    have h : f_X11_lineOf_2_b F (f_X11_lineOf_2 F m9) x1 x2 σ = some z := h
    unfold f_X11_lineOf_2_b at h
    refine nd_iload_n dX11_lineOf_2 2 rfl ?_
    refine nd_aload_n dX11_lineOf_3 0 rfl ?_
    refine nd_get dX11_lineOf_4 gf_X11_28 (sh_60 t) rfl ?_
    refine nd_iconst dX11_lineOf_7 ic_0 ?_
    refine nd_ialoadN dX11_lineOf_8 (sh_67 t) h (fun h => ?_)
    refine nd_icmp_geN dX11_lineOf_9 65 (by decide) h (fun h => ?_) (fun h => ?_)
    · refine nd_iconst dX11_lineOf_65 ic_m1 ?_
      exact nd_iret dX11_lineOf_66 (Nat.zero_le _) (Nat.zero_le _) (vp_nar_int _) (by cases h; exact ⟨rfl, rfl, rfl⟩)
    · refine nd_aload_n dX11_lineOf_12 0 rfl ?_
      refine nd_get dX11_lineOf_13 gf_X11_31 (sh_60 t) rfl ?_
      refine nd_iload_n dX11_lineOf_16 2 rfl ?_
      refine nd_ialoadN dX11_lineOf_17 (sh_68 t) h (fun h => ?_)
      refine nd_iload_n dX11_lineOf_18 1 rfl ?_
      refine nd_icmp_neN dX11_lineOf_19 59 (by decide) h (fun h => ?_) (fun h => ?_)
      · exact b_X11_lineOf_59 F _ t hL hrec2 _ _ _ h
      · refine nd_aload_n dX11_lineOf_22 0 rfl ?_
        refine nd_get dX11_lineOf_23 gf_X11_37 (sh_60 t) rfl ?_
        refine nd_iload_n dX11_lineOf_26 2 rfl ?_
        refine nd_ialoadN dX11_lineOf_27 (sh_70 t) h (fun h => ?_)
        refine nd_aload_n dX11_lineOf_28 0 rfl ?_
        refine nd_get dX11_lineOf_29 gf_X11_40 (sh_60 t) rfl ?_
        refine nd_iload_n dX11_lineOf_32 2 rfl ?_
        refine nd_ialoadN dX11_lineOf_33 (sh_71 t) h (fun h => ?_)
        refine nd_icmp_eqN dX11_lineOf_34 57 (by decide) h (fun h => ?_) (fun h => ?_)
        · refine nd_sub [0, 2] rfl ?_
          exact b_X11_lineOf_57 F t hL _ _ h
        · refine nd_aload_n dX11_lineOf_37 0 rfl ?_
          refine nd_iconst dX11_lineOf_38 ic_0 ?_
          refine nd_aload_n dX11_lineOf_39 0 rfl ?_
          refine nd_get dX11_lineOf_40 gf_X11_37 (sh_60 t) rfl ?_
          refine nd_iload_n dX11_lineOf_43 2 rfl ?_
          refine nd_ialoadN dX11_lineOf_44 (sh_70 t) h (fun h => ?_)
          refine nd_aload_n dX11_lineOf_45 0 rfl ?_
          refine nd_get dX11_lineOf_46 gf_X11_40 (sh_60 t) rfl ?_
          refine nd_iload_n dX11_lineOf_49 2 rfl ?_
          refine nd_ialoadN dX11_lineOf_50 (sh_71 t) h (fun h => ?_)
          obtain ⟨r1, σ2, hc3, h⟩ := nd_bind_e h
          refine nd_cvi [.int (0 : Int32), .int (σ 70 (x2).toNatClampNeg), .int (σ 71 (x2).toNatClampNeg)] [] dX11_lineOf_51 cl_X11_310 (sh_60 t) ⟨Nat.le_of_ble_eq_true rfl, Nat.le_of_ble_eq_true rfl⟩ rfl (Nat.le_of_ble_eq_true rfl) hL (t_X11_runs F t hL _ _ _ _ hc3) ?_
          refine nd_if_eqN dX11_lineOf_54 59 (by decide) h (fun h => ?_) (fun h => ?_)
          · exact b_X11_lineOf_59 F _ t hL hrec2 _ _ _ h
          · refine nd_sub [0, 2] rfl ?_
            exact b_X11_lineOf_57 F t hL _ _ h
set_option maxRecDepth 100000 in
set_option maxHeartbeats 4000000 in
theorem t_X11_lineOf (F : Nat) (t : List nd_S) (hL : (nd_SH ++ t).length < nd_ro) {z : Int32 × nd_Mem} (x1 : Int32) (σ : nd_Mem) (h : f_X11_lineOf F x1 σ = some z) : nd_Fn M_X11_lineOf (nd_rm 2) [.ref 60, .int x1] (nd_SH ++ t) σ (nd_Pi (nd_SH ++ t) z) := by
  refine nd_Fn.ofV (ls := [(0, .ref 60), (1, .int x1)]) pl_X11_lineOf rfl (fun _ => Nat.le_of_ble_eq_true rfl) (fun _ => rfl) ?_
  unfold f_X11_lineOf at h
  refine nd_iconst dX11_lineOf_0 ic_0 ?_
  refine nd_istore_n (ls' := [(2, .int (0 : Int32)), (0, .ref 60), (1, .int x1)]) dX11_lineOf_1 (by decide) rfl ?_
  refine nd_sub [1, 2, 0] rfl ?_
  exact b_X11_lineOf_2 F t hL F _ _ _ h
def f_X11_longest_117 (F : Nat) (rec15 : Int32 → Int32 → Int32 → nd_Mem → nd_Res) (rec32 : Int32 → Int32 → Int32 → Int32 → nd_Mem → nd_Res) (rec76 : Int32 → Int32 → Int32 → Int32 → Int32 → Int32 → Int32 → nd_Mem → nd_Res) (x1 : Int32) (x2 : Int32) (x3 : Int32) (x4 : Int32) (x5 : Int32) (x6 : Int32) (x7 : Int32) (σ : nd_Mem) : nd_Res := (rec76 x1 x2 x3 x4 x5 x6 (x7 + (1 : Int32)) σ)
def f_X11_longest_145 (F : Nat) (rec15 : Int32 → Int32 → Int32 → nd_Mem → nd_Res) (rec32 : Int32 → Int32 → Int32 → Int32 → nd_Mem → nd_Res) (x1 : Int32) (x2 : Int32) (x3 : Int32) (x4 : Int32) (σ : nd_Mem) : nd_Res := (rec32 x1 x2 x3 (x4 + (1 : Int32)) σ)
def f_X11_longest_123 (F : Nat) (rec15 : Int32 → Int32 → Int32 → nd_Mem → nd_Res) (rec32 : Int32 → Int32 → Int32 → Int32 → nd_Mem → nd_Res) (x1 : Int32) (x2 : Int32) (x3 : Int32) (x4 : Int32) (x6 : Int32) (σ : nd_Mem) : nd_Res := (if x6 = 0 then (f_X11_longest_145 F rec15 rec32 x1 x2 x3 x4 σ) else (if x3 < 0 ∨ 4096 ≤ (x3).toNatClampNeg then none else (if x3 < 0 ∨ 4096 ≤ (x3).toNatClampNeg then none else (nd_let (nd_up σ 91 (x3).toNatClampNeg ((σ 91 (x3).toNatClampNeg) ||| ((1 : Int32) <<< (x4 &&& 31)))) fun σ1 => (f_X11_longest_145 F rec15 rec32 x1 x2 x3 x4 σ1)))))
def f_X11_longest_76_b (F : Nat) (rec15 : Int32 → Int32 → Int32 → nd_Mem → nd_Res) (rec32 : Int32 → Int32 → Int32 → Int32 → nd_Mem → nd_Res) (rec76 : Int32 → Int32 → Int32 → Int32 → Int32 → Int32 → Int32 → nd_Mem → nd_Res) (x1 : Int32) (x2 : Int32) (x3 : Int32) (x4 : Int32) (x5 : Int32) (x6 : Int32) (x7 : Int32) (σ : nd_Mem) : nd_Res := (if x1 ≤ x7 then (f_X11_longest_123 F rec15 rec32 x1 x2 x3 x4 x6 σ) else (if x5 = 0 then (f_X11_longest_123 F rec15 rec32 x1 x2 x3 x4 x6 σ) else (if x5 < 0 ∨ 4096 ≤ (x5).toNatClampNeg then none else (nd_bind (f_X11_has F (σ 91 (x5).toNatClampNeg) x7 σ) fun r1 σ2 => (if r1 = 0 then (f_X11_longest_117 F rec15 rec32 rec76 x1 x2 x3 x4 x5 x6 x7 σ2) else (nd_bind (f_X11_isAbove F x7 x4 σ2) fun r4 σ5 => (if r4 = 0 then (f_X11_longest_117 F rec15 rec32 rec76 x1 x2 x3 x4 x5 x6 x7 σ5) else (f_X11_longest_117 F rec15 rec32 rec76 x1 x2 x3 x4 x5 (1 : Int32) x7 σ5))))))))
def f_X11_longest_76 (F : Nat) (rec15 : Int32 → Int32 → Int32 → nd_Mem → nd_Res) (rec32 : Int32 → Int32 → Int32 → Int32 → nd_Mem → nd_Res) : Nat → Int32 → Int32 → Int32 → Int32 → Int32 → Int32 → Int32 → nd_Mem → nd_Res
  | 0, _, _, _, _, _, _, _, _ => none
  | m9 + 1, x1, x2, x3, x4, x5, x6, x7, σ => f_X11_longest_76_b F rec15 rec32 (f_X11_longest_76 F rec15 rec32 m9) x1 x2 x3 x4 x5 x6 x7 σ
def f_X11_longest_71 (F : Nat) (rec15 : Int32 → Int32 → Int32 → nd_Mem → nd_Res) (rec32 : Int32 → Int32 → Int32 → Int32 → nd_Mem → nd_Res) (x1 : Int32) (x2 : Int32) (x3 : Int32) (x4 : Int32) (x5 : Int32) (s0 : Int32) (σ : nd_Mem) : nd_Res := (f_X11_longest_76 F rec15 rec32 F x1 x2 x3 x4 x5 s0 (0 : Int32) σ)
def f_X11_longest_171 (F : Nat) (rec15 : Int32 → Int32 → Int32 → nd_Mem → nd_Res) (x1 : Int32) (x2 : Int32) (x3 : Int32) (σ : nd_Mem) : nd_Res := (rec15 x1 x2 (x3 + (1 : Int32)) σ)
def f_X11_longest_32_b (F : Nat) (rec15 : Int32 → Int32 → Int32 → nd_Mem → nd_Res) (rec32 : Int32 → Int32 → Int32 → Int32 → nd_Mem → nd_Res) (x1 : Int32) (x2 : Int32) (x3 : Int32) (x4 : Int32) (σ : nd_Mem) : nd_Res := (if x1 ≤ x4 then (if x3 < 0 ∨ 4096 ≤ (x3).toNatClampNeg then none else (if (σ 91 (x3).toNatClampNeg) = 0 then (f_X11_longest_171 F rec15 x1 x2 x3 σ) else (nd_bind (f_X11_onesOf F x3 σ) fun r1 σ2 => (nd_bind (f_X11_greater F x2 r1 σ2) fun r4 σ5 => (f_X11_longest_171 F rec15 x1 r4 x3 σ5))))) else (nd_bind (f_X11_has F x3 x4 σ) fun r7 σ8 => (if r7 = 0 then (f_X11_longest_145 F rec15 rec32 x1 x2 x3 x4 σ8) else (if (x3 &&& (((1 : Int32) <<< (x4 &&& 31)) ^^^ (-1 : Int32))) = 0 then (f_X11_longest_71 F rec15 rec32 x1 x2 x3 x4 (x3 &&& (((1 : Int32) <<< (x4 &&& 31)) ^^^ (-1 : Int32))) (1 : Int32) σ8) else (f_X11_longest_71 F rec15 rec32 x1 x2 x3 x4 (x3 &&& (((1 : Int32) <<< (x4 &&& 31)) ^^^ (-1 : Int32))) (0 : Int32) σ8)))))
def f_X11_longest_32 (F : Nat) (rec15 : Int32 → Int32 → Int32 → nd_Mem → nd_Res) : Nat → Int32 → Int32 → Int32 → Int32 → nd_Mem → nd_Res
  | 0, _, _, _, _, _ => none
  | m9 + 1, x1, x2, x3, x4, σ => f_X11_longest_32_b F rec15 (f_X11_longest_32 F rec15 m9) x1 x2 x3 x4 σ
def f_X11_longest_15_b (F : Nat) (rec15 : Int32 → Int32 → Int32 → nd_Mem → nd_Res) (x1 : Int32) (x2 : Int32) (x3 : Int32) (σ : nd_Mem) : nd_Res := (if ((1 : Int32) <<< (x1 &&& 31)) ≤ x3 then (some (x2, σ)) else (if x3 < 0 ∨ 4096 ≤ (x3).toNatClampNeg then none else (nd_let (nd_up σ 91 (x3).toNatClampNeg (0 : Int32)) fun σ1 => (f_X11_longest_32 F rec15 F x1 x2 x3 (0 : Int32) σ1))))
def f_X11_longest_15 (F : Nat) : Nat → Int32 → Int32 → Int32 → nd_Mem → nd_Res
  | 0, _, _, _, _ => none
  | m9 + 1, x1, x2, x3, σ => f_X11_longest_15_b F (f_X11_longest_15 F m9) x1 x2 x3 σ
def f_X11_longest (F : Nat) (σ : nd_Mem) : nd_Res := (nd_bind (f_X11_lesser F (12 : Int32) (σ 60 6) σ) fun r1 σ2 => (f_X11_longest_15 F F r1 (0 : Int32) (1 : Int32) σ2))
set_option maxRecDepth 100000 in
set_option maxHeartbeats 4000000 in
theorem b_X11_longest_117 (F : Nat) (rec15 : Int32 → Int32 → Int32 → nd_Mem → nd_Res) (rec32 : Int32 → Int32 → Int32 → Int32 → nd_Mem → nd_Res) (rec76 : Int32 → Int32 → Int32 → Int32 → Int32 → Int32 → Int32 → nd_Mem → nd_Res) (t : List nd_S) (hL : (nd_SH ++ t).length < nd_ro) {z : Int32 × nd_Mem} (hrec15 : ∀ (x1 : Int32) (x2 : Int32) (x3 : Int32) (σ : nd_Mem), rec15 x1 x2 x3 σ = some z → nd_V M_X11_longest (nd_rm 2) (nd_Pi (nd_SH ++ t) z) 0 0 15 [(0, .ref 60), (1, .int x1), (2, .int x2), (3, .int x3)] [] (nd_SH ++ t) σ) (hrec32 : ∀ (x1 : Int32) (x2 : Int32) (x3 : Int32) (x4 : Int32) (σ : nd_Mem), rec32 x1 x2 x3 x4 σ = some z → nd_V M_X11_longest (nd_rm 2) (nd_Pi (nd_SH ++ t) z) 0 0 32 [(0, .ref 60), (1, .int x1), (2, .int x2), (3, .int x3), (4, .int x4)] [] (nd_SH ++ t) σ) (hrec76 : ∀ (x1 : Int32) (x2 : Int32) (x3 : Int32) (x4 : Int32) (x5 : Int32) (x6 : Int32) (x7 : Int32) (σ : nd_Mem), rec76 x1 x2 x3 x4 x5 x6 x7 σ = some z → nd_V M_X11_longest (nd_rm 2) (nd_Pi (nd_SH ++ t) z) 0 0 76 [(0, .ref 60), (1, .int x1), (2, .int x2), (3, .int x3), (4, .int x4), (5, .int x5), (6, .int x6), (7, .int x7)] [] (nd_SH ++ t) σ) (x1 : Int32) (x2 : Int32) (x3 : Int32) (x4 : Int32) (x5 : Int32) (x6 : Int32) (x7 : Int32) (σ : nd_Mem) (h : f_X11_longest_117 F rec15 rec32 rec76 x1 x2 x3 x4 x5 x6 x7 σ = some z) : nd_V M_X11_longest (nd_rm 2) (nd_Pi (nd_SH ++ t) z) 0 0 117 [(0, .ref 60), (1, .int x1), (2, .int x2), (3, .int x3), (4, .int x4), (5, .int x5), (6, .int x6), (7, .int x7)] [] (nd_SH ++ t) σ := by
  unfold f_X11_longest_117 at h
  refine nd_iinc (v := (x7 + (1 : Int32))) (ls' := [(7, .int (x7 + (1 : Int32))), (0, .ref 60), (1, .int x1), (2, .int x2), (3, .int x3), (4, .int x4), (5, .int x5), (6, .int x6)]) dX11_longest_117 7 rfl (congrArg (HAdd.hAdd _) ic_1) (by decide) rfl ?_
  refine nd_goto dX11_longest_120 76 (by decide) ?_
  refine nd_sub [1, 2, 3, 4, 5, 6, 7, 0] rfl ?_
  exact hrec76 _ _ _ _ _ _ _ _ h
set_option maxRecDepth 100000 in
set_option maxHeartbeats 4000000 in
theorem b_X11_longest_145 (F : Nat) (rec15 : Int32 → Int32 → Int32 → nd_Mem → nd_Res) (rec32 : Int32 → Int32 → Int32 → Int32 → nd_Mem → nd_Res) (t : List nd_S) (hL : (nd_SH ++ t).length < nd_ro) {z : Int32 × nd_Mem} (hrec15 : ∀ (x1 : Int32) (x2 : Int32) (x3 : Int32) (σ : nd_Mem), rec15 x1 x2 x3 σ = some z → nd_V M_X11_longest (nd_rm 2) (nd_Pi (nd_SH ++ t) z) 0 0 15 [(0, .ref 60), (1, .int x1), (2, .int x2), (3, .int x3)] [] (nd_SH ++ t) σ) (hrec32 : ∀ (x1 : Int32) (x2 : Int32) (x3 : Int32) (x4 : Int32) (σ : nd_Mem), rec32 x1 x2 x3 x4 σ = some z → nd_V M_X11_longest (nd_rm 2) (nd_Pi (nd_SH ++ t) z) 0 0 32 [(0, .ref 60), (1, .int x1), (2, .int x2), (3, .int x3), (4, .int x4)] [] (nd_SH ++ t) σ) (x1 : Int32) (x2 : Int32) (x3 : Int32) (x4 : Int32) (σ : nd_Mem) (h : f_X11_longest_145 F rec15 rec32 x1 x2 x3 x4 σ = some z) : nd_V M_X11_longest (nd_rm 2) (nd_Pi (nd_SH ++ t) z) 0 0 145 [(0, .ref 60), (1, .int x1), (2, .int x2), (3, .int x3), (4, .int x4)] [] (nd_SH ++ t) σ := by
  unfold f_X11_longest_145 at h
  refine nd_iinc (v := (x4 + (1 : Int32))) (ls' := [(4, .int (x4 + (1 : Int32))), (0, .ref 60), (1, .int x1), (2, .int x2), (3, .int x3)]) dX11_longest_145 4 rfl (congrArg (HAdd.hAdd _) ic_1) (by decide) rfl ?_
  refine nd_goto dX11_longest_148 32 (by decide) ?_
  refine nd_sub [1, 2, 3, 4, 0] rfl ?_
  exact hrec32 _ _ _ _ _ h
set_option maxRecDepth 100000 in
set_option maxHeartbeats 4000000 in
theorem b_X11_longest_123 (F : Nat) (rec15 : Int32 → Int32 → Int32 → nd_Mem → nd_Res) (rec32 : Int32 → Int32 → Int32 → Int32 → nd_Mem → nd_Res) (t : List nd_S) (hL : (nd_SH ++ t).length < nd_ro) {z : Int32 × nd_Mem} (hrec15 : ∀ (x1 : Int32) (x2 : Int32) (x3 : Int32) (σ : nd_Mem), rec15 x1 x2 x3 σ = some z → nd_V M_X11_longest (nd_rm 2) (nd_Pi (nd_SH ++ t) z) 0 0 15 [(0, .ref 60), (1, .int x1), (2, .int x2), (3, .int x3)] [] (nd_SH ++ t) σ) (hrec32 : ∀ (x1 : Int32) (x2 : Int32) (x3 : Int32) (x4 : Int32) (σ : nd_Mem), rec32 x1 x2 x3 x4 σ = some z → nd_V M_X11_longest (nd_rm 2) (nd_Pi (nd_SH ++ t) z) 0 0 32 [(0, .ref 60), (1, .int x1), (2, .int x2), (3, .int x3), (4, .int x4)] [] (nd_SH ++ t) σ) (x1 : Int32) (x2 : Int32) (x3 : Int32) (x4 : Int32) (x6 : Int32) (σ : nd_Mem) (h : f_X11_longest_123 F rec15 rec32 x1 x2 x3 x4 x6 σ = some z) : nd_V M_X11_longest (nd_rm 2) (nd_Pi (nd_SH ++ t) z) 0 0 123 [(0, .ref 60), (1, .int x1), (2, .int x2), (3, .int x3), (4, .int x4), (6, .int x6)] [] (nd_SH ++ t) σ := by
  unfold f_X11_longest_123 at h
  refine nd_iload dX11_longest_123 5 rfl ?_
  refine nd_if_eqN dX11_longest_125 145 (by decide) h (fun h => ?_) (fun h => ?_)
  · refine nd_sub [0, 1, 2, 3, 4] rfl ?_
    exact b_X11_longest_145 F _ _ t hL hrec15 hrec32 _ _ _ _ _ h
  · refine nd_aload_n dX11_longest_128 0 rfl ?_
    refine nd_get dX11_longest_129 gf_X11_104 (sh_60 t) rfl ?_
    refine nd_iload_n dX11_longest_132 3 rfl ?_
    refine nd_aload_n dX11_longest_133 0 rfl ?_
    refine nd_get dX11_longest_134 gf_X11_104 (sh_60 t) rfl ?_
    refine nd_iload_n dX11_longest_137 3 rfl ?_
    refine nd_ialoadN dX11_longest_138 (sh_91 t) h (fun h => ?_)
    refine nd_iconst dX11_longest_139 ic_1 ?_
    refine nd_iload dX11_longest_140 4 rfl ?_
    refine nd_ishl dX11_longest_142 ?_
    refine nd_ior dX11_longest_143 ?_
    refine nd_iastoreN dX11_longest_144 (sh_91 t) h (fun σ1 h => ?_)
    refine nd_sub [0, 1, 2, 3, 4] rfl ?_
    exact b_X11_longest_145 F _ _ t hL hrec15 hrec32 _ _ _ _ _ h
set_option maxRecDepth 100000 in
set_option maxHeartbeats 4000000 in
theorem b_X11_longest_76 (F : Nat) (rec15 : Int32 → Int32 → Int32 → nd_Mem → nd_Res) (rec32 : Int32 → Int32 → Int32 → Int32 → nd_Mem → nd_Res) (t : List nd_S) (hL : (nd_SH ++ t).length < nd_ro) {z : Int32 × nd_Mem} (hrec15 : ∀ (x1 : Int32) (x2 : Int32) (x3 : Int32) (σ : nd_Mem), rec15 x1 x2 x3 σ = some z → nd_V M_X11_longest (nd_rm 2) (nd_Pi (nd_SH ++ t) z) 0 0 15 [(0, .ref 60), (1, .int x1), (2, .int x2), (3, .int x3)] [] (nd_SH ++ t) σ) (hrec32 : ∀ (x1 : Int32) (x2 : Int32) (x3 : Int32) (x4 : Int32) (σ : nd_Mem), rec32 x1 x2 x3 x4 σ = some z → nd_V M_X11_longest (nd_rm 2) (nd_Pi (nd_SH ++ t) z) 0 0 32 [(0, .ref 60), (1, .int x1), (2, .int x2), (3, .int x3), (4, .int x4)] [] (nd_SH ++ t) σ) (m9 : Nat) : ∀ (x1 : Int32) (x2 : Int32) (x3 : Int32) (x4 : Int32) (x5 : Int32) (x6 : Int32) (x7 : Int32) (σ : nd_Mem), f_X11_longest_76 F rec15 rec32 m9 x1 x2 x3 x4 x5 x6 x7 σ = some z → nd_V M_X11_longest (nd_rm 2) (nd_Pi (nd_SH ++ t) z) 0 0 76 [(0, .ref 60), (1, .int x1), (2, .int x2), (3, .int x3), (4, .int x4), (5, .int x5), (6, .int x6), (7, .int x7)] [] (nd_SH ++ t) σ := by
  induction m9 with
  | zero =>
    intro x1 x2 x3 x4 x5 x6 x7 σ h
    have h : none = some z := h
    cases h
  | succ m9 hrec76 =>
    intro x1 x2 x3 x4 x5 x6 x7 σ h
    have h : f_X11_longest_76_b F rec15 rec32 (f_X11_longest_76 F rec15 rec32 m9) x1 x2 x3 x4 x5 x6 x7 σ = some z := h
    unfold f_X11_longest_76_b at h
    refine nd_iload dX11_longest_76 7 rfl ?_
    refine nd_iload_n dX11_longest_78 1 rfl ?_
    refine nd_icmp_geN dX11_longest_79 123 (by decide) h (fun h => ?_) (fun h => ?_)
    · refine nd_sub [0, 1, 2, 3, 4, 6] rfl ?_
      exact b_X11_longest_123 F _ _ t hL hrec15 hrec32 _ _ _ _ _ _ h
    · refine nd_iload dX11_longest_82 5 rfl ?_
      refine nd_if_eqN dX11_longest_84 123 (by decide) h (fun h => ?_) (fun h => ?_)
      · refine nd_sub [0, 1, 2, 3, 4, 6] rfl ?_
        exact b_X11_longest_123 F _ _ t hL hrec15 hrec32 _ _ _ _ _ _ h
      · refine nd_aload_n dX11_longest_87 0 rfl ?_
        refine nd_aload_n dX11_longest_88 0 rfl ?_
        refine nd_get dX11_longest_89 gf_X11_104 (sh_60 t) rfl ?_
        refine nd_iload dX11_longest_92 5 rfl ?_
        refine nd_ialoadN dX11_longest_94 (sh_91 t) h (fun h => ?_)
        refine nd_iload dX11_longest_95 7 rfl ?_
        obtain ⟨r1, σ2, hc3, h⟩ := nd_bind_e h
        refine nd_cvi [.int (σ 91 (x5).toNatClampNeg), .int x7] [] dX11_longest_97 cl_X11_328 (sh_60 t) ⟨Nat.le_of_ble_eq_true rfl, Nat.le_of_ble_eq_true rfl⟩ rfl (Nat.le_of_ble_eq_true rfl) hL (t_X11_has F t hL _ _ _ hc3) ?_
        refine nd_if_eqN dX11_longest_100 117 (by decide) h (fun h => ?_) (fun h => ?_)
        · exact b_X11_longest_117 F _ _ _ t hL hrec15 hrec32 hrec76 _ _ _ _ _ _ _ _ h
        · refine nd_aload_n dX11_longest_103 0 rfl ?_
          refine nd_iload dX11_longest_104 7 rfl ?_
          refine nd_iload dX11_longest_106 4 rfl ?_
          obtain ⟨r4, σ5, hc6, h⟩ := nd_bind_e h
          refine nd_cvi [.int x7, .int x4] [] dX11_longest_108 cl_X11_420 (sh_60 t) ⟨Nat.le_of_ble_eq_true rfl, Nat.le_of_ble_eq_true rfl⟩ rfl (Nat.le_of_ble_eq_true rfl) hL (t_X11_isAbove F t hL _ _ _ hc6) ?_
          refine nd_if_eqN dX11_longest_111 117 (by decide) h (fun h => ?_) (fun h => ?_)
          · exact b_X11_longest_117 F _ _ _ t hL hrec15 hrec32 hrec76 _ _ _ _ _ _ _ _ h
          · refine nd_iconst dX11_longest_114 ic_1 ?_
            refine nd_istore (ls' := [(6, .int (1 : Int32)), (0, .ref 60), (1, .int x1), (2, .int x2), (3, .int x3), (4, .int x4), (5, .int x5), (7, .int x7)]) dX11_longest_115 (by decide) rfl ?_
            refine nd_sub [1, 2, 3, 4, 5, 6, 0, 7] rfl ?_
            exact b_X11_longest_117 F _ _ _ t hL hrec15 hrec32 hrec76 _ _ _ _ _ _ _ _ h
set_option maxRecDepth 100000 in
set_option maxHeartbeats 4000000 in
theorem b_X11_longest_71 (F : Nat) (rec15 : Int32 → Int32 → Int32 → nd_Mem → nd_Res) (rec32 : Int32 → Int32 → Int32 → Int32 → nd_Mem → nd_Res) (t : List nd_S) (hL : (nd_SH ++ t).length < nd_ro) {z : Int32 × nd_Mem} (hrec15 : ∀ (x1 : Int32) (x2 : Int32) (x3 : Int32) (σ : nd_Mem), rec15 x1 x2 x3 σ = some z → nd_V M_X11_longest (nd_rm 2) (nd_Pi (nd_SH ++ t) z) 0 0 15 [(0, .ref 60), (1, .int x1), (2, .int x2), (3, .int x3)] [] (nd_SH ++ t) σ) (hrec32 : ∀ (x1 : Int32) (x2 : Int32) (x3 : Int32) (x4 : Int32) (σ : nd_Mem), rec32 x1 x2 x3 x4 σ = some z → nd_V M_X11_longest (nd_rm 2) (nd_Pi (nd_SH ++ t) z) 0 0 32 [(0, .ref 60), (1, .int x1), (2, .int x2), (3, .int x3), (4, .int x4)] [] (nd_SH ++ t) σ) (x1 : Int32) (x2 : Int32) (x3 : Int32) (x4 : Int32) (x5 : Int32) (s0 : Int32) (σ : nd_Mem) (h : f_X11_longest_71 F rec15 rec32 x1 x2 x3 x4 x5 s0 σ = some z) : nd_V M_X11_longest (nd_rm 2) (nd_Pi (nd_SH ++ t) z) 0 0 71 [(0, .ref 60), (1, .int x1), (2, .int x2), (3, .int x3), (4, .int x4), (5, .int x5)] [.int s0] (nd_SH ++ t) σ := by
  unfold f_X11_longest_71 at h
  refine nd_istore (ls' := [(6, .int s0), (0, .ref 60), (1, .int x1), (2, .int x2), (3, .int x3), (4, .int x4), (5, .int x5)]) dX11_longest_71 (by decide) rfl ?_
  refine nd_iconst dX11_longest_73 ic_0 ?_
  refine nd_istore (ls' := [(7, .int (0 : Int32)), (6, .int s0), (0, .ref 60), (1, .int x1), (2, .int x2), (3, .int x3), (4, .int x4), (5, .int x5)]) dX11_longest_74 (by decide) rfl ?_
  refine nd_sub [2, 3, 4, 5, 6, 7, 1, 0] rfl ?_
  exact b_X11_longest_76 F _ _ t hL hrec15 hrec32 F _ _ _ _ _ _ _ _ h
set_option maxRecDepth 100000 in
set_option maxHeartbeats 4000000 in
theorem b_X11_longest_171 (F : Nat) (rec15 : Int32 → Int32 → Int32 → nd_Mem → nd_Res) (t : List nd_S) (hL : (nd_SH ++ t).length < nd_ro) {z : Int32 × nd_Mem} (hrec15 : ∀ (x1 : Int32) (x2 : Int32) (x3 : Int32) (σ : nd_Mem), rec15 x1 x2 x3 σ = some z → nd_V M_X11_longest (nd_rm 2) (nd_Pi (nd_SH ++ t) z) 0 0 15 [(0, .ref 60), (1, .int x1), (2, .int x2), (3, .int x3)] [] (nd_SH ++ t) σ) (x1 : Int32) (x2 : Int32) (x3 : Int32) (σ : nd_Mem) (h : f_X11_longest_171 F rec15 x1 x2 x3 σ = some z) : nd_V M_X11_longest (nd_rm 2) (nd_Pi (nd_SH ++ t) z) 0 0 171 [(0, .ref 60), (1, .int x1), (2, .int x2), (3, .int x3)] [] (nd_SH ++ t) σ := by
  unfold f_X11_longest_171 at h
  refine nd_iinc (v := (x3 + (1 : Int32))) (ls' := [(3, .int (x3 + (1 : Int32))), (0, .ref 60), (1, .int x1), (2, .int x2)]) dX11_longest_171 3 rfl (congrArg (HAdd.hAdd _) ic_1) (by decide) rfl ?_
  refine nd_goto dX11_longest_174 15 (by decide) ?_
  refine nd_sub [1, 2, 3, 0] rfl ?_
  exact hrec15 _ _ _ _ h
set_option maxRecDepth 100000 in
set_option maxHeartbeats 4000000 in
theorem b_X11_longest_32 (F : Nat) (rec15 : Int32 → Int32 → Int32 → nd_Mem → nd_Res) (t : List nd_S) (hL : (nd_SH ++ t).length < nd_ro) {z : Int32 × nd_Mem} (hrec15 : ∀ (x1 : Int32) (x2 : Int32) (x3 : Int32) (σ : nd_Mem), rec15 x1 x2 x3 σ = some z → nd_V M_X11_longest (nd_rm 2) (nd_Pi (nd_SH ++ t) z) 0 0 15 [(0, .ref 60), (1, .int x1), (2, .int x2), (3, .int x3)] [] (nd_SH ++ t) σ) (m9 : Nat) : ∀ (x1 : Int32) (x2 : Int32) (x3 : Int32) (x4 : Int32) (σ : nd_Mem), f_X11_longest_32 F rec15 m9 x1 x2 x3 x4 σ = some z → nd_V M_X11_longest (nd_rm 2) (nd_Pi (nd_SH ++ t) z) 0 0 32 [(0, .ref 60), (1, .int x1), (2, .int x2), (3, .int x3), (4, .int x4)] [] (nd_SH ++ t) σ := by
  induction m9 with
  | zero =>
    intro x1 x2 x3 x4 σ h
    have h : none = some z := h
    cases h
  | succ m9 hrec32 =>
    intro x1 x2 x3 x4 σ h
    have h : f_X11_longest_32_b F rec15 (f_X11_longest_32 F rec15 m9) x1 x2 x3 x4 σ = some z := h
    unfold f_X11_longest_32_b at h
    refine nd_iload dX11_longest_32 4 rfl ?_
    refine nd_iload_n dX11_longest_34 1 rfl ?_
    refine nd_icmp_geN dX11_longest_35 151 (by decide) h (fun h => ?_) (fun h => ?_)
    · refine nd_aload_n dX11_longest_151 0 rfl ?_
      refine nd_get dX11_longest_152 gf_X11_104 (sh_60 t) rfl ?_
      refine nd_iload_n dX11_longest_155 3 rfl ?_
      refine nd_ialoadN dX11_longest_156 (sh_91 t) h (fun h => ?_)
      refine nd_if_eqN dX11_longest_157 171 (by decide) h (fun h => ?_) (fun h => ?_)
      · refine nd_sub [0, 1, 2, 3] rfl ?_
        exact b_X11_longest_171 F _ t hL hrec15 _ _ _ _ h
      · refine nd_aload_n dX11_longest_160 0 rfl ?_
        refine nd_iload_n dX11_longest_161 2 rfl ?_
        refine nd_aload_n dX11_longest_162 0 rfl ?_
        refine nd_iload_n dX11_longest_163 3 rfl ?_
        obtain ⟨r1, σ2, hc3, h⟩ := nd_bind_e h
        refine nd_cvi [.int x3] [.int x2, .ref 60] dX11_longest_164 cl_X11_395 (sh_60 t) ⟨Nat.le_of_ble_eq_true rfl, Nat.le_of_ble_eq_true rfl⟩ rfl (Nat.le_of_ble_eq_true rfl) hL (t_X11_onesOf F t hL _ _ hc3) ?_
        obtain ⟨r4, σ5, hc6, h⟩ := nd_bind_e h
        refine nd_cvi [.int x2, .int r1] [] dX11_longest_167 cl_X11_398 (sh_60 t) ⟨Nat.le_of_ble_eq_true rfl, Nat.le_of_ble_eq_true rfl⟩ rfl (Nat.le_of_ble_eq_true rfl) hL (t_X11_greater F t hL _ _ _ hc6) ?_
        refine nd_istore_n (ls' := [(2, .int r4), (0, .ref 60), (1, .int x1), (3, .int x3), (4, .int x4)]) dX11_longest_170 (by decide) rfl ?_
        refine nd_sub [1, 2, 0, 3] rfl ?_
        exact b_X11_longest_171 F _ t hL hrec15 _ _ _ _ h
    · refine nd_aload_n dX11_longest_38 0 rfl ?_
      refine nd_iload_n dX11_longest_39 3 rfl ?_
      refine nd_iload dX11_longest_40 4 rfl ?_
      obtain ⟨r7, σ8, hc9, h⟩ := nd_bind_e h
      refine nd_cvi [.int x3, .int x4] [] dX11_longest_42 cl_X11_328 (sh_60 t) ⟨Nat.le_of_ble_eq_true rfl, Nat.le_of_ble_eq_true rfl⟩ rfl (Nat.le_of_ble_eq_true rfl) hL (t_X11_has F t hL _ _ _ hc9) ?_
      refine nd_if_neN dX11_longest_45 51 (by decide) h (fun h => ?_) (fun h => ?_)
      · refine nd_iload_n dX11_longest_51 3 rfl ?_
        refine nd_iconst dX11_longest_52 ic_1 ?_
        refine nd_iload dX11_longest_53 4 rfl ?_
        refine nd_ishl dX11_longest_55 ?_
        refine nd_iconst dX11_longest_56 ic_m1 ?_
        refine nd_ixor dX11_longest_57 ?_
        refine nd_iand dX11_longest_58 ?_
        refine nd_istore (ls' := [(5, .int (x3 &&& (((1 : Int32) <<< (x4 &&& 31)) ^^^ (-1 : Int32)))), (0, .ref 60), (1, .int x1), (2, .int x2), (3, .int x3), (4, .int x4)]) dX11_longest_59 (by decide) rfl ?_
        refine nd_iload dX11_longest_61 0 rfl ?_
        refine nd_if_neN dX11_longest_63 70 (by decide) h (fun h => ?_) (fun h => ?_)
        · refine nd_iconst dX11_longest_70 ic_0 ?_
          refine nd_sub [1, 2, 3, 4, 5, 0] rfl ?_
          exact b_X11_longest_71 F _ _ t hL hrec15 hrec32 _ _ _ _ _ _ _ h
        · refine nd_iconst dX11_longest_66 ic_1 ?_
          refine nd_goto dX11_longest_67 71 (by decide) ?_
          refine nd_sub [1, 2, 3, 4, 5, 0] rfl ?_
          exact b_X11_longest_71 F _ _ t hL hrec15 hrec32 _ _ _ _ _ _ _ h
      · refine nd_goto dX11_longest_48 145 (by decide) ?_
        exact b_X11_longest_145 F _ _ t hL hrec15 hrec32 _ _ _ _ _ h
set_option maxRecDepth 100000 in
set_option maxHeartbeats 4000000 in
theorem b_X11_longest_15 (F : Nat) (t : List nd_S) (hL : (nd_SH ++ t).length < nd_ro) {z : Int32 × nd_Mem} (m9 : Nat) : ∀ (x1 : Int32) (x2 : Int32) (x3 : Int32) (σ : nd_Mem), f_X11_longest_15 F m9 x1 x2 x3 σ = some z → nd_V M_X11_longest (nd_rm 2) (nd_Pi (nd_SH ++ t) z) 0 0 15 [(0, .ref 60), (1, .int x1), (2, .int x2), (3, .int x3)] [] (nd_SH ++ t) σ := by
  induction m9 with
  | zero =>
    intro x1 x2 x3 σ h
    have h : none = some z := h
    cases h
  | succ m9 hrec15 =>
    intro x1 x2 x3 σ h
    have h : f_X11_longest_15_b F (f_X11_longest_15 F m9) x1 x2 x3 σ = some z := h
    unfold f_X11_longest_15_b at h
    refine nd_iload_n dX11_longest_15 3 rfl ?_
    refine nd_iconst dX11_longest_16 ic_1 ?_
    refine nd_iload_n dX11_longest_17 1 rfl ?_
    refine nd_ishl dX11_longest_18 ?_
    refine nd_icmp_geN dX11_longest_19 177 (by decide) h (fun h => ?_) (fun h => ?_)
    · refine nd_iload_n dX11_longest_177 2 rfl ?_
      exact nd_iret dX11_longest_178 (Nat.zero_le _) (Nat.zero_le _) (vp_nar_int _) (by cases h; exact ⟨rfl, rfl, rfl⟩)
    · refine nd_aload_n dX11_longest_22 0 rfl ?_
      refine nd_get dX11_longest_23 gf_X11_104 (sh_60 t) rfl ?_
      refine nd_iload_n dX11_longest_26 3 rfl ?_
      refine nd_iconst dX11_longest_27 ic_0 ?_
      refine nd_iastoreN dX11_longest_28 (sh_91 t) h (fun σ1 h => ?_)
      refine nd_iconst dX11_longest_29 ic_0 ?_
      refine nd_istore (ls' := [(4, .int (0 : Int32)), (0, .ref 60), (1, .int x1), (2, .int x2), (3, .int x3)]) dX11_longest_30 (by decide) rfl ?_
      refine nd_sub [1, 2, 3, 4, 0] rfl ?_
      exact b_X11_longest_32 F _ t hL hrec15 F _ _ _ _ _ h
set_option maxRecDepth 100000 in
set_option maxHeartbeats 4000000 in
theorem t_X11_longest (F : Nat) (t : List nd_S) (hL : (nd_SH ++ t).length < nd_ro) {z : Int32 × nd_Mem} (σ : nd_Mem) (h : f_X11_longest F σ = some z) : nd_Fn M_X11_longest (nd_rm 2) [.ref 60] (nd_SH ++ t) σ (nd_Pi (nd_SH ++ t) z) := by
  refine nd_Fn.ofV (ls := [(0, .ref 60)]) pl_X11_longest rfl (fun _ => Nat.le_of_ble_eq_true rfl) (fun _ => rfl) ?_
  unfold f_X11_longest at h
  refine nd_aload_n dX11_longest_0 0 rfl ?_
  refine nd_bipush dX11_longest_1 ib_12 ?_
  refine nd_aload_n dX11_longest_3 0 rfl ?_
  refine nd_get dX11_longest_4 gf_X11_144 (sh_60 t) rfl ?_
  obtain ⟨r1, σ2, hc3, h⟩ := nd_bind_e h
  refine nd_cvi [.int (12 : Int32), .int (σ 60 6)] [] dX11_longest_7 cl_X11_332 (sh_60 t) ⟨Nat.le_of_ble_eq_true rfl, Nat.le_of_ble_eq_true rfl⟩ rfl (Nat.le_of_ble_eq_true rfl) hL (t_X11_lesser F t hL _ _ _ hc3) ?_
  refine nd_istore_n (ls' := [(1, .int r1), (0, .ref 60)]) dX11_longest_10 (by decide) rfl ?_
  refine nd_iconst dX11_longest_11 ic_0 ?_
  refine nd_istore_n (ls' := [(2, .int (0 : Int32)), (1, .int r1), (0, .ref 60)]) dX11_longest_12 (by decide) rfl ?_
  refine nd_iconst dX11_longest_13 ic_1 ?_
  refine nd_istore_n (ls' := [(3, .int (1 : Int32)), (2, .int (0 : Int32)), (1, .int r1), (0, .ref 60)]) dX11_longest_14 (by decide) rfl ?_
  refine nd_sub [3, 2, 1, 0] rfl ?_
  exact b_X11_longest_15 F t hL F _ _ _ _ h
