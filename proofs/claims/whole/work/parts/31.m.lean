def f_X11_asks_117 (F : Nat) (s0 : Int32) (s1 : Int32) (σ : nd_Mem) : nd_Res := (if s1 < 0 ∨ 10 ≤ (s1).toNatClampNeg then none else (nd_let (nd_up σ 78 (s1).toNatClampNeg s0) fun σ1 => (if (4 : Int32) < 0 ∨ 103 ≤ ((4 : Int32)).toNatClampNeg then none else (if (8 : Int32) < 0 ∨ 10 ≤ ((8 : Int32)).toNatClampNeg then none else (nd_let (nd_up σ1 78 ((8 : Int32)).toNatClampNeg (σ1 61 ((4 : Int32)).toNatClampNeg)) fun σ2 => (if (0 : Int32) < 0 ∨ 103 ≤ ((0 : Int32)).toNatClampNeg then none else (if (9 : Int32) < 0 ∨ 10 ≤ ((9 : Int32)).toNatClampNeg then none else (nd_let (nd_up σ2 78 ((9 : Int32)).toNatClampNeg (σ2 61 ((0 : Int32)).toNatClampNeg)) fun σ3 => (some (0, σ3))))))))))
def f_X11_asks (F : Nat) (x1 : Int32) (σ : nd_Mem) : nd_Res := (if ((7 : Int32) + x1) < 0 ∨ 103 ≤ (((7 : Int32) + x1)).toNatClampNeg then none else (if (0 : Int32) < 0 ∨ 10 ≤ ((0 : Int32)).toNatClampNeg then none else (nd_let (nd_up σ 78 ((0 : Int32)).toNatClampNeg (σ 61 (((7 : Int32) + x1)).toNatClampNeg)) fun σ1 => (if ((23 : Int32) + x1) < 0 ∨ 103 ≤ (((23 : Int32) + x1)).toNatClampNeg then none else (if (1 : Int32) < 0 ∨ 10 ≤ ((1 : Int32)).toNatClampNeg then none else (nd_let (nd_up σ1 78 ((1 : Int32)).toNatClampNeg (σ1 61 (((23 : Int32) + x1)).toNatClampNeg)) fun σ2 => (if ((39 : Int32) + x1) < 0 ∨ 103 ≤ (((39 : Int32) + x1)).toNatClampNeg then none else (if (2 : Int32) < 0 ∨ 10 ≤ ((2 : Int32)).toNatClampNeg then none else (nd_let (nd_up σ2 78 ((2 : Int32)).toNatClampNeg (σ2 61 (((39 : Int32) + x1)).toNatClampNeg)) fun σ3 => (if ((55 : Int32) + x1) < 0 ∨ 103 ≤ (((55 : Int32) + x1)).toNatClampNeg then none else (if (3 : Int32) < 0 ∨ 10 ≤ ((3 : Int32)).toNatClampNeg then none else (nd_let (nd_up σ3 78 ((3 : Int32)).toNatClampNeg (σ3 61 (((55 : Int32) + x1)).toNatClampNeg)) fun σ4 => (if ((87 : Int32) + x1) < 0 ∨ 103 ≤ (((87 : Int32) + x1)).toNatClampNeg then none else (if (4 : Int32) < 0 ∨ 10 ≤ ((4 : Int32)).toNatClampNeg then none else (nd_let (nd_up σ4 78 ((4 : Int32)).toNatClampNeg (σ4 61 (((87 : Int32) + x1)).toNatClampNeg)) fun σ5 => (if (5 : Int32) < 0 ∨ 10 ≤ ((5 : Int32)).toNatClampNeg then none else (nd_let (nd_up σ5 78 ((5 : Int32)).toNatClampNeg x1) fun σ6 => (if x1 < 0 ∨ 32 ≤ (x1).toNatClampNeg then none else (if (6 : Int32) < 0 ∨ 10 ≤ ((6 : Int32)).toNatClampNeg then none else (nd_let (nd_up σ6 78 ((6 : Int32)).toNatClampNeg (σ6 77 (x1).toNatClampNeg)) fun σ7 => (if (6 : Int32) < 0 ∨ 103 ≤ ((6 : Int32)).toNatClampNeg then none else (if (σ7 61 ((6 : Int32)).toNatClampNeg) = x1 then (f_X11_asks_117 F (1 : Int32) (7 : Int32) σ7) else (f_X11_asks_117 F (0 : Int32) (7 : Int32) σ7)))))))))))))))))))))))
set_option maxRecDepth 100000 in
set_option maxHeartbeats 4000000 in
theorem b_X11_asks_117 (F : Nat) (t : List nd_S) (hL : (nd_SH ++ t).length < nd_ro) {z : Int32 × nd_Mem} (s0 : Int32) (s1 : Int32) (σ : nd_Mem) (h : f_X11_asks_117 F s0 s1 σ = some z) : nd_V M_X11_asks (nd_rm 0) (nd_Pv (nd_SH ++ t) z) 0 0 117 [(0, .ref 60)] [.int s0, .int s1, .ref 78] (nd_SH ++ t) σ := by
  unfold f_X11_asks_117 at h
  refine nd_iastoreN dX11_asks_117 (sh_78 t) h (fun σ1 h => ?_)
  refine nd_aload_n dX11_asks_118 0 rfl ?_
  refine nd_get dX11_asks_119 gf_X11_65 (sh_60 t) rfl ?_
  refine nd_bipush dX11_asks_122 ib_8 ?_
  refine nd_aload_n dX11_asks_124 0 rfl ?_
  refine nd_get dX11_asks_125 gf_X11_7 (sh_60 t) rfl ?_
  refine nd_iconst dX11_asks_128 ic_4 ?_
  refine nd_ialoadN dX11_asks_129 (sh_61 t) h (fun h => ?_)
  refine nd_iastoreN dX11_asks_130 (sh_78 t) h (fun σ2 h => ?_)
  refine nd_aload_n dX11_asks_131 0 rfl ?_
  refine nd_get dX11_asks_132 gf_X11_65 (sh_60 t) rfl ?_
  refine nd_bipush dX11_asks_135 ib_9 ?_
  refine nd_aload_n dX11_asks_137 0 rfl ?_
  refine nd_get dX11_asks_138 gf_X11_7 (sh_60 t) rfl ?_
  refine nd_iconst dX11_asks_141 ic_0 ?_
  refine nd_ialoadN dX11_asks_142 (sh_61 t) h (fun h => ?_)
  refine nd_iastoreN dX11_asks_143 (sh_78 t) h (fun σ3 h => ?_)
  exact nd_vret dX11_asks_144 (Nat.zero_le _) (Nat.zero_le _) trivial (by cases h; exact ⟨rfl, rfl, rfl⟩)
set_option maxRecDepth 100000 in
set_option maxHeartbeats 4000000 in
theorem t_X11_asks (F : Nat) (t : List nd_S) (hL : (nd_SH ++ t).length < nd_ro) {z : Int32 × nd_Mem} (x1 : Int32) (σ : nd_Mem) (h : f_X11_asks F x1 σ = some z) : nd_Fn M_X11_asks (nd_rm 0) [.ref 60, .int x1] (nd_SH ++ t) σ (nd_Pv (nd_SH ++ t) z) := by
  refine nd_Fn.ofV (ls := [(0, .ref 60), (1, .int x1)]) pl_X11_asks rfl (fun _ => Nat.le_of_ble_eq_true rfl) (fun _ => rfl) ?_
  unfold f_X11_asks at h
  refine nd_aload_n dX11_asks_0 0 rfl ?_
  refine nd_get dX11_asks_1 gf_X11_65 (sh_60 t) rfl ?_
  refine nd_iconst dX11_asks_4 ic_0 ?_
  refine nd_aload_n dX11_asks_5 0 rfl ?_
  refine nd_get dX11_asks_6 gf_X11_7 (sh_60 t) rfl ?_
  refine nd_bipush dX11_asks_9 ib_7 ?_
  refine nd_iload_n dX11_asks_11 1 rfl ?_
  refine nd_iadd dX11_asks_12 ?_
  refine nd_ialoadN dX11_asks_13 (sh_61 t) h (fun h => ?_)
  refine nd_iastoreN dX11_asks_14 (sh_78 t) h (fun σ1 h => ?_)
  refine nd_aload_n dX11_asks_15 0 rfl ?_
  refine nd_get dX11_asks_16 gf_X11_65 (sh_60 t) rfl ?_
  refine nd_iconst dX11_asks_19 ic_1 ?_
  refine nd_aload_n dX11_asks_20 0 rfl ?_
  refine nd_get dX11_asks_21 gf_X11_7 (sh_60 t) rfl ?_
  refine nd_bipush dX11_asks_24 ib_23 ?_
  refine nd_iload_n dX11_asks_26 1 rfl ?_
  refine nd_iadd dX11_asks_27 ?_
  refine nd_ialoadN dX11_asks_28 (sh_61 t) h (fun h => ?_)
  refine nd_iastoreN dX11_asks_29 (sh_78 t) h (fun σ2 h => ?_)
  refine nd_aload_n dX11_asks_30 0 rfl ?_
  refine nd_get dX11_asks_31 gf_X11_65 (sh_60 t) rfl ?_
  refine nd_iconst dX11_asks_34 ic_2 ?_
  refine nd_aload_n dX11_asks_35 0 rfl ?_
  refine nd_get dX11_asks_36 gf_X11_7 (sh_60 t) rfl ?_
  refine nd_bipush dX11_asks_39 ib_39 ?_
  refine nd_iload_n dX11_asks_41 1 rfl ?_
  refine nd_iadd dX11_asks_42 ?_
  refine nd_ialoadN dX11_asks_43 (sh_61 t) h (fun h => ?_)
  refine nd_iastoreN dX11_asks_44 (sh_78 t) h (fun σ3 h => ?_)
  refine nd_aload_n dX11_asks_45 0 rfl ?_
  refine nd_get dX11_asks_46 gf_X11_65 (sh_60 t) rfl ?_
  refine nd_iconst dX11_asks_49 ic_3 ?_
  refine nd_aload_n dX11_asks_50 0 rfl ?_
  refine nd_get dX11_asks_51 gf_X11_7 (sh_60 t) rfl ?_
  refine nd_bipush dX11_asks_54 ib_55 ?_
  refine nd_iload_n dX11_asks_56 1 rfl ?_
  refine nd_iadd dX11_asks_57 ?_
  refine nd_ialoadN dX11_asks_58 (sh_61 t) h (fun h => ?_)
  refine nd_iastoreN dX11_asks_59 (sh_78 t) h (fun σ4 h => ?_)
  refine nd_aload_n dX11_asks_60 0 rfl ?_
  refine nd_get dX11_asks_61 gf_X11_65 (sh_60 t) rfl ?_
  refine nd_iconst dX11_asks_64 ic_4 ?_
  refine nd_aload_n dX11_asks_65 0 rfl ?_
  refine nd_get dX11_asks_66 gf_X11_7 (sh_60 t) rfl ?_
  refine nd_bipush dX11_asks_69 ib_87 ?_
  refine nd_iload_n dX11_asks_71 1 rfl ?_
  refine nd_iadd dX11_asks_72 ?_
  refine nd_ialoadN dX11_asks_73 (sh_61 t) h (fun h => ?_)
  refine nd_iastoreN dX11_asks_74 (sh_78 t) h (fun σ5 h => ?_)
  refine nd_aload_n dX11_asks_75 0 rfl ?_
  refine nd_get dX11_asks_76 gf_X11_65 (sh_60 t) rfl ?_
  refine nd_iconst dX11_asks_79 ic_5 ?_
  refine nd_iload_n dX11_asks_80 1 rfl ?_
  refine nd_iastoreN dX11_asks_81 (sh_78 t) h (fun σ6 h => ?_)
  refine nd_aload_n dX11_asks_82 0 rfl ?_
  refine nd_get dX11_asks_83 gf_X11_65 (sh_60 t) rfl ?_
  refine nd_bipush dX11_asks_86 ib_6 ?_
  refine nd_aload_n dX11_asks_88 0 rfl ?_
  refine nd_get dX11_asks_89 gf_X11_62 (sh_60 t) rfl ?_
  refine nd_iload_n dX11_asks_92 1 rfl ?_
  refine nd_ialoadN dX11_asks_93 (sh_77 t) h (fun h => ?_)
  refine nd_iastoreN dX11_asks_94 (sh_78 t) h (fun σ7 h => ?_)
  refine nd_aload_n dX11_asks_95 0 rfl ?_
  refine nd_get dX11_asks_96 gf_X11_65 (sh_60 t) rfl ?_
  refine nd_bipush dX11_asks_99 ib_7 ?_
  refine nd_aload_n dX11_asks_101 0 rfl ?_
  refine nd_get dX11_asks_102 gf_X11_7 (sh_60 t) rfl ?_
  refine nd_bipush dX11_asks_105 ib_6 ?_
  refine nd_ialoadN dX11_asks_107 (sh_61 t) h (fun h => ?_)
  refine nd_iload_n dX11_asks_108 1 rfl ?_
  refine nd_icmp_neN dX11_asks_109 116 (by decide) h (fun h => ?_) (fun h => ?_)
  · refine nd_iconst dX11_asks_116 ic_0 ?_
    refine nd_sub [0] rfl ?_
    exact b_X11_asks_117 F t hL _ _ _ h
  · refine nd_iconst dX11_asks_112 ic_1 ?_
    refine nd_goto dX11_asks_113 117 (by decide) ?_
    refine nd_sub [0] rfl ?_
    exact b_X11_asks_117 F t hL _ _ _ h
def f_X11_canStand_65 (F : Nat) (σ : nd_Mem) : nd_Res := (some ((0 : Int32), σ))
def f_X11_canStand (F : Nat) (x1 : Int32) (x2 : Int32) (x3 : Int32) (x4 : Int32) (x5 : Int32) (σ : nd_Mem) : nd_Res := (if x5 = 0 then (if x1 < 0 ∨ 9 ≤ (x1).toNatClampNeg then none else (if ((σ 85 (x1).toNatClampNeg) &&& (x2 &&& (((1 : Int32) <<< (x3 &&& 31)) ^^^ (-1 : Int32)))) = 0 then (some ((1 : Int32), σ)) else (some ((0 : Int32), σ)))) else (if x1 < 0 ∨ 9 ≤ (x1).toNatClampNeg then none else (if (((σ 86 (x1).toNatClampNeg) &&& x4) &&& (((1 : Int32) <<< (x3 &&& 31)) ^^^ (-1 : Int32))) = 0 then (if x1 < 0 ∨ 9 ≤ (x1).toNatClampNeg then none else (if ((σ 87 (x1).toNatClampNeg) &&& x2) = 0 then (some ((1 : Int32), σ)) else (f_X11_canStand_65 F σ))) else (f_X11_canStand_65 F σ))))
set_option maxRecDepth 100000 in
set_option maxHeartbeats 4000000 in
theorem b_X11_canStand_65 (F : Nat) (t : List nd_S) (hL : (nd_SH ++ t).length < nd_ro) {z : Int32 × nd_Mem} (σ : nd_Mem) (h : f_X11_canStand_65 F σ = some z) : nd_V M_X11_canStand (nd_rm 0) (nd_Pi (nd_SH ++ t) z) 0 0 65 [(0, .ref 60)] [] (nd_SH ++ t) σ := by
  unfold f_X11_canStand_65 at h
  refine nd_iconst dX11_canStand_65 ic_0 ?_
  exact nd_iret dX11_canStand_66 (Nat.zero_le _) (Nat.zero_le _) rfl (by cases h; exact ⟨rfl, rfl, rfl⟩)
set_option maxRecDepth 100000 in
set_option maxHeartbeats 4000000 in
theorem t_X11_canStand (F : Nat) (t : List nd_S) (hL : (nd_SH ++ t).length < nd_ro) {z : Int32 × nd_Mem} (x1 : Int32) (x2 : Int32) (x3 : Int32) (x4 : Int32) (x5 : Int32) (σ : nd_Mem) (h : f_X11_canStand F x1 x2 x3 x4 x5 σ = some z) : nd_Fn M_X11_canStand (nd_rm 0) [.ref 60, .int x1, .int x2, .int x3, .int x4, .int x5] (nd_SH ++ t) σ (nd_Pi (nd_SH ++ t) z) := by
  refine nd_Fn.ofV (ls := [(0, .ref 60), (1, .int x1), (2, .int x2), (3, .int x3), (4, .int x4), (5, .int x5)]) pl_X11_canStand rfl (fun _ => Nat.le_of_ble_eq_true rfl) (fun _ => rfl) ?_
  unfold f_X11_canStand at h
  refine nd_iload_n dX11_canStand_0 2 rfl ?_
  refine nd_iconst dX11_canStand_1 ic_1 ?_
  refine nd_iload_n dX11_canStand_2 3 rfl ?_
  refine nd_ishl dX11_canStand_3 ?_
  refine nd_iconst dX11_canStand_4 ic_m1 ?_
  refine nd_ixor dX11_canStand_5 ?_
  refine nd_iand dX11_canStand_6 ?_
  refine nd_istore (ls' := [(6, .int (x2 &&& (((1 : Int32) <<< (x3 &&& 31)) ^^^ (-1 : Int32)))), (0, .ref 60), (1, .int x1), (2, .int x2), (3, .int x3), (4, .int x4), (5, .int x5)]) dX11_canStand_7 (by decide) rfl ?_
  refine nd_iload dX11_canStand_9 6 rfl ?_
  refine nd_if_neN dX11_canStand_11 32 (by decide) h (fun h => ?_) (fun h => ?_)
  · refine nd_aload_n dX11_canStand_32 1 rfl ?_
    refine nd_get dX11_canStand_33 gf_X11_89 (sh_60 t) rfl ?_
    refine nd_iload_n dX11_canStand_36 2 rfl ?_
    refine nd_ialoadN dX11_canStand_37 (sh_86 t) h (fun h => ?_)
    refine nd_iload dX11_canStand_38 5 rfl ?_
    refine nd_iand dX11_canStand_40 ?_
    refine nd_iconst dX11_canStand_41 ic_1 ?_
    refine nd_iload_n dX11_canStand_42 4 rfl ?_
    refine nd_ishl dX11_canStand_43 ?_
    refine nd_iconst dX11_canStand_44 ic_m1 ?_
    refine nd_ixor dX11_canStand_45 ?_
    refine nd_iand dX11_canStand_46 ?_
    refine nd_if_neN dX11_canStand_47 65 (by decide) h (fun h => ?_) (fun h => ?_)
    · refine nd_sub [1] rfl ?_
      exact b_X11_canStand_65 F t hL _ h
    · refine nd_aload_n dX11_canStand_50 1 rfl ?_
      refine nd_get dX11_canStand_51 gf_X11_92 (sh_60 t) rfl ?_
      refine nd_iload_n dX11_canStand_54 2 rfl ?_
      refine nd_ialoadN dX11_canStand_55 (sh_87 t) h (fun h => ?_)
      refine nd_iload_n dX11_canStand_56 3 rfl ?_
      refine nd_iand dX11_canStand_57 ?_
      refine nd_if_neN dX11_canStand_58 65 (by decide) h (fun h => ?_) (fun h => ?_)
      · refine nd_sub [1] rfl ?_
        exact b_X11_canStand_65 F t hL _ h
      · refine nd_iconst dX11_canStand_61 ic_1 ?_
        refine nd_goto dX11_canStand_62 66 (by decide) ?_
        exact nd_iret dX11_canStand_66 (Nat.zero_le _) (Nat.zero_le _) rfl (by cases h; exact ⟨rfl, rfl, rfl⟩)
  · refine nd_aload_n dX11_canStand_14 1 rfl ?_
    refine nd_get dX11_canStand_15 gf_X11_86 (sh_60 t) rfl ?_
    refine nd_iload_n dX11_canStand_18 2 rfl ?_
    refine nd_ialoadN dX11_canStand_19 (sh_85 t) h (fun h => ?_)
    refine nd_iload dX11_canStand_20 0 rfl ?_
    refine nd_iand dX11_canStand_22 ?_
    refine nd_if_neN dX11_canStand_23 30 (by decide) h (fun h => ?_) (fun h => ?_)
    · refine nd_iconst dX11_canStand_30 ic_0 ?_
      exact nd_iret dX11_canStand_31 (Nat.zero_le _) (Nat.zero_le _) rfl (by cases h; exact ⟨rfl, rfl, rfl⟩)
    · refine nd_iconst dX11_canStand_26 ic_1 ?_
      refine nd_goto dX11_canStand_27 31 (by decide) ?_
      exact nd_iret dX11_canStand_31 (Nat.zero_le _) (Nat.zero_le _) rfl (by cases h; exact ⟨rfl, rfl, rfl⟩)
def f_X11_common_23_b (F : Nat) (rec23 : Int32 → Int32 → nd_Mem → nd_Res) (x3 : Int32) (x4 : Int32) (σ : nd_Mem) : nd_Res := (if x4 = 0 then (some (x3, σ)) else (if x4 = 0 then none else (rec23 x4 (q_rem x3 x4) σ)))
def f_X11_common_23 (F : Nat) : Nat → Int32 → Int32 → nd_Mem → nd_Res
  | 0, _, _, _ => none
  | m9 + 1, x3, x4, σ => f_X11_common_23_b F (f_X11_common_23 F m9) x3 x4 σ
def f_X11_common_21 (F : Nat) (x3 : Int32) (s0 : Int32) (σ : nd_Mem) : nd_Res := (f_X11_common_23 F F x3 s0 σ)
def f_X11_common_10 (F : Nat) (x2 : Int32) (s0 : Int32) (σ : nd_Mem) : nd_Res := (if 0 ≤ x2 then (f_X11_common_21 F s0 x2 σ) else (f_X11_common_21 F s0 (-x2) σ))
def f_X11_common (F : Nat) (x1 : Int32) (x2 : Int32) (σ : nd_Mem) : nd_Res := (if 0 ≤ x1 then (f_X11_common_10 F x2 x1 σ) else (f_X11_common_10 F x2 (-x1) σ))
set_option maxRecDepth 100000 in
set_option maxHeartbeats 4000000 in
theorem b_X11_common_23 (F : Nat) (t : List nd_S) (hL : (nd_SH ++ t).length < nd_ro) {z : Int32 × nd_Mem} (m9 : Nat) : ∀ (x3 : Int32) (x4 : Int32) (σ : nd_Mem), f_X11_common_23 F m9 x3 x4 σ = some z → nd_V M_X11_common (nd_rm 0) (nd_Pi (nd_SH ++ t) z) 0 0 23 [(0, .ref 60), (3, .int x3), (4, .int x4)] [] (nd_SH ++ t) σ := by
  induction m9 with
  | zero =>
    intro x3 x4 σ h
    have h : none = some z := h
    cases h
  | succ m9 hrec23 =>
    intro x3 x4 σ h
    have h : f_X11_common_23_b F (f_X11_common_23 F m9) x3 x4 σ = some z := h
    unfold f_X11_common_23_b at h
    refine nd_iload dX11_common_23 2 rfl ?_
    refine nd_if_eqN dX11_common_25 44 (by decide) h (fun h => ?_) (fun h => ?_)
    · refine nd_iload_n dX11_common_44 1 rfl ?_
      exact nd_iret dX11_common_45 (Nat.zero_le _) (Nat.zero_le _) (vp_nar_int _) (by cases h; exact ⟨rfl, rfl, rfl⟩)
    · refine nd_iload_n dX11_common_28 1 rfl ?_
      refine nd_iload dX11_common_29 2 rfl ?_
      refine nd_iremN dX11_common_31 h (fun h => ?_)
      refine nd_istore (ls' := [(5, .int (q_rem x3 x4)), (0, .ref 60), (3, .int x3), (4, .int x4)]) dX11_common_32 (by decide) rfl ?_
      refine nd_iload dX11_common_34 3 rfl ?_
      refine nd_istore_n (ls' := [(3, .int x4), (5, .int (q_rem x3 x4)), (0, .ref 60), (4, .int x4)]) dX11_common_36 (by decide) rfl ?_
      refine nd_iload dX11_common_37 1 rfl ?_
      refine nd_istore (ls' := [(4, .int (q_rem x3 x4)), (3, .int x4), (5, .int (q_rem x3 x4)), (0, .ref 60)]) dX11_common_39 (by decide) rfl ?_
      refine nd_goto dX11_common_41 23 (by decide) ?_
      refine nd_sub [3, 1, 0] rfl ?_
      exact hrec23 _ _ _ h
set_option maxRecDepth 100000 in
set_option maxHeartbeats 4000000 in
theorem b_X11_common_21 (F : Nat) (t : List nd_S) (hL : (nd_SH ++ t).length < nd_ro) {z : Int32 × nd_Mem} (x3 : Int32) (s0 : Int32) (σ : nd_Mem) (h : f_X11_common_21 F x3 s0 σ = some z) : nd_V M_X11_common (nd_rm 0) (nd_Pi (nd_SH ++ t) z) 0 0 21 [(0, .ref 60), (3, .int x3)] [.int s0] (nd_SH ++ t) σ := by
  unfold f_X11_common_21 at h
  refine nd_istore (ls' := [(4, .int s0), (0, .ref 60), (3, .int x3)]) dX11_common_21 (by decide) rfl ?_
  refine nd_sub [1, 2, 0] rfl ?_
  exact b_X11_common_23 F t hL F _ _ _ h
set_option maxRecDepth 100000 in
set_option maxHeartbeats 4000000 in
theorem b_X11_common_10 (F : Nat) (t : List nd_S) (hL : (nd_SH ++ t).length < nd_ro) {z : Int32 × nd_Mem} (x2 : Int32) (s0 : Int32) (σ : nd_Mem) (h : f_X11_common_10 F x2 s0 σ = some z) : nd_V M_X11_common (nd_rm 0) (nd_Pi (nd_SH ++ t) z) 0 0 10 [(0, .ref 60), (2, .int x2)] [.int s0] (nd_SH ++ t) σ := by
  unfold f_X11_common_10 at h
  refine nd_istore_n (ls' := [(3, .int s0), (0, .ref 60), (2, .int x2)]) dX11_common_10 (by decide) rfl ?_
  refine nd_iload_n dX11_common_11 2 rfl ?_
  refine nd_if_geN dX11_common_12 20 (by decide) h (fun h => ?_) (fun h => ?_)
  · refine nd_iload_n dX11_common_20 2 rfl ?_
    refine nd_sub [1, 0] rfl ?_
    exact b_X11_common_21 F t hL _ _ _ h
  · refine nd_iload_n dX11_common_15 2 rfl ?_
    refine nd_ineg dX11_common_16 ?_
    refine nd_goto dX11_common_17 21 (by decide) ?_
    refine nd_sub [1, 0] rfl ?_
    exact b_X11_common_21 F t hL _ _ _ h
set_option maxRecDepth 100000 in
set_option maxHeartbeats 4000000 in
theorem t_X11_common (F : Nat) (t : List nd_S) (hL : (nd_SH ++ t).length < nd_ro) {z : Int32 × nd_Mem} (x1 : Int32) (x2 : Int32) (σ : nd_Mem) (h : f_X11_common F x1 x2 σ = some z) : nd_Fn M_X11_common (nd_rm 0) [.ref 60, .int x1, .int x2] (nd_SH ++ t) σ (nd_Pi (nd_SH ++ t) z) := by
  refine nd_Fn.ofV (ls := [(0, .ref 60), (1, .int x1), (2, .int x2)]) pl_X11_common rfl (fun _ => Nat.le_of_ble_eq_true rfl) (fun _ => rfl) ?_
  unfold f_X11_common at h
  refine nd_iload_n dX11_common_0 1 rfl ?_
  refine nd_if_geN dX11_common_1 9 (by decide) h (fun h => ?_) (fun h => ?_)
  · refine nd_iload_n dX11_common_9 1 rfl ?_
    refine nd_sub [0, 2] rfl ?_
    exact b_X11_common_10 F t hL _ _ _ h
  · refine nd_iload_n dX11_common_4 1 rfl ?_
    refine nd_ineg dX11_common_5 ?_
    refine nd_goto dX11_common_6 10 (by decide) ?_
    refine nd_sub [0, 2] rfl ?_
    exact b_X11_common_10 F t hL _ _ _ h
def f_X11_draw (F : Nat) (x1 : Int32) (σ : nd_Mem) : nd_Res := (if (1 : Int32) < 0 ∨ 103 ≤ ((1 : Int32)).toNatClampNeg then none else (if (1 : Int32) < 0 ∨ 103 ≤ ((1 : Int32)).toNatClampNeg then none else (nd_let (nd_up σ 61 ((1 : Int32)).toNatClampNeg (((1664525 : Int32) * (σ 61 ((1 : Int32)).toNatClampNeg)) + (1013904223 : Int32))) fun σ1 => (if (1 : Int32) < 0 ∨ 103 ≤ ((1 : Int32)).toNatClampNeg then none else (if x1 = 0 then none else (some ((q_rem (q_ushr (σ1 61 ((1 : Int32)).toNatClampNeg) (8 : Int32)) x1), σ1)))))))
set_option maxRecDepth 100000 in
set_option maxHeartbeats 4000000 in
theorem t_X11_draw (F : Nat) (t : List nd_S) (hL : (nd_SH ++ t).length < nd_ro) {z : Int32 × nd_Mem} (x1 : Int32) (σ : nd_Mem) (h : f_X11_draw F x1 σ = some z) : nd_Fn M_X11_draw (nd_rm 0) [.ref 60, .int x1] (nd_SH ++ t) σ (nd_Pi (nd_SH ++ t) z) := by
  refine nd_Fn.ofV (ls := [(0, .ref 60), (1, .int x1)]) pl_X11_draw rfl (fun _ => Nat.le_of_ble_eq_true rfl) (fun _ => rfl) ?_
  unfold f_X11_draw at h
  refine nd_aload_n dX11_draw_0 0 rfl ?_
  refine nd_get dX11_draw_1 gf_X11_7 (sh_60 t) rfl ?_
  refine nd_iconst dX11_draw_4 ic_1 ?_
  refine nd_ldc dX11_draw_5 kc_X11_142 ?_
  refine nd_aload_n dX11_draw_7 0 rfl ?_
  refine nd_get dX11_draw_8 gf_X11_7 (sh_60 t) rfl ?_
  refine nd_iconst dX11_draw_11 ic_1 ?_
  refine nd_ialoadN dX11_draw_12 (sh_61 t) h (fun h => ?_)
  refine nd_imul dX11_draw_13 ?_
  refine nd_ldc dX11_draw_14 kc_X11_143 ?_
  refine nd_iadd dX11_draw_16 ?_
  refine nd_iastoreN dX11_draw_17 (sh_61 t) h (fun σ1 h => ?_)
  refine nd_aload_n dX11_draw_18 0 rfl ?_
  refine nd_get dX11_draw_19 gf_X11_7 (sh_60 t) rfl ?_
  refine nd_iconst dX11_draw_22 ic_1 ?_
  refine nd_ialoadN dX11_draw_23 (sh_61 t) h (fun h => ?_)
  refine nd_bipush dX11_draw_24 ib_8 ?_
  refine nd_iushr dX11_draw_26 ?_
  refine nd_iload_n dX11_draw_27 1 rfl ?_
  refine nd_iremN dX11_draw_28 h (fun h => ?_)
  exact nd_iret dX11_draw_29 (Nat.zero_le _) (Nat.zero_le _) (vp_nar_int _) (by cases h; exact ⟨rfl, rfl, rfl⟩)
def f_X11_emits (F : Nat) (x1 : Int32) (x2 : Int32) (σ : nd_Mem) : nd_Res := (if ((800 : Int32) + (σ 60 23)) < 0 ∨ 1200 ≤ (((800 : Int32) + (σ 60 23))).toNatClampNeg then none else (nd_let (nd_up σ 72 (((800 : Int32) + (σ 60 23))).toNatClampNeg x1) fun σ1 => (if ((800 : Int32) + (σ1 60 23)) < 0 ∨ 1200 ≤ (((800 : Int32) + (σ1 60 23))).toNatClampNeg then none else (nd_let (nd_up σ1 73 (((800 : Int32) + (σ1 60 23))).toNatClampNeg x2) fun σ2 => (nd_let (nd_up σ2 60 23 ((σ2 60 23) + (1 : Int32))) fun σ3 => (some (0, σ3)))))))
set_option maxRecDepth 100000 in
set_option maxHeartbeats 4000000 in
theorem t_X11_emits (F : Nat) (t : List nd_S) (hL : (nd_SH ++ t).length < nd_ro) {z : Int32 × nd_Mem} (x1 : Int32) (x2 : Int32) (σ : nd_Mem) (h : f_X11_emits F x1 x2 σ = some z) : nd_Fn M_X11_emits (nd_rm 0) [.ref 60, .int x1, .int x2] (nd_SH ++ t) σ (nd_Pv (nd_SH ++ t) z) := by
  refine nd_Fn.ofV (ls := [(0, .ref 60), (1, .int x1), (2, .int x2)]) pl_X11_emits rfl (fun _ => Nat.le_of_ble_eq_true rfl) (fun _ => rfl) ?_
  unfold f_X11_emits at h
  refine nd_aload_n dX11_emits_0 0 rfl ?_
  refine nd_get dX11_emits_1 gf_X11_43 (sh_60 t) rfl ?_
  refine nd_sipush dX11_emits_4 is_800 ?_
  refine nd_aload_n dX11_emits_7 0 rfl ?_
  refine nd_get dX11_emits_8 gf_X11_197 (sh_60 t) rfl ?_
  refine nd_iadd dX11_emits_11 ?_
  refine nd_iload_n dX11_emits_12 1 rfl ?_
  refine nd_iastoreN dX11_emits_13 (sh_72 t) h (fun σ1 h => ?_)
  refine nd_aload_n dX11_emits_14 0 rfl ?_
  refine nd_get dX11_emits_15 gf_X11_46 (sh_60 t) rfl ?_
  refine nd_sipush dX11_emits_18 is_800 ?_
  refine nd_aload_n dX11_emits_21 0 rfl ?_
  refine nd_get dX11_emits_22 gf_X11_197 (sh_60 t) rfl ?_
  refine nd_iadd dX11_emits_25 ?_
  refine nd_iload_n dX11_emits_26 2 rfl ?_
  refine nd_iastoreN dX11_emits_27 (sh_73 t) h (fun σ2 h => ?_)
  refine nd_aload_n dX11_emits_28 0 rfl ?_
  refine nd_aload_n dX11_emits_29 0 rfl ?_
  refine nd_get dX11_emits_30 gf_X11_197 (sh_60 t) rfl ?_
  refine nd_iconst dX11_emits_33 ic_1 ?_
  refine nd_iadd dX11_emits_34 ?_
  refine nd_putiN dX11_emits_35 pf_X11_197 (sh_60 t) rfl h (fun σ3 h => ?_)
  exact nd_vret dX11_emits_38 (Nat.zero_le _) (Nat.zero_le _) trivial (by cases h; exact ⟨rfl, rfl, rfl⟩)
def f_X11_endsThought_2_b (F : Nat) (rec2 : Int32 → nd_Mem → nd_Res) (x1 : Int32) (σ : nd_Mem) : nd_Res := (if (103 : Int32) ≤ x1 then (if ¬ ((0 : Int32) = 0 ∨ (0 : Int32) = 1) then none else (nd_let (nd_up σ 60 5 (0 : Int32)) fun σ1 => (some (0, σ1)))) else (if x1 < 0 ∨ 103 ≤ (x1).toNatClampNeg then none else (if x1 < 0 ∨ 103 ≤ (x1).toNatClampNeg then none else (nd_let (nd_up σ 61 (x1).toNatClampNeg (σ 63 (x1).toNatClampNeg)) fun σ2 => (rec2 (x1 + (1 : Int32)) σ2)))))
def f_X11_endsThought_2 (F : Nat) : Nat → Int32 → nd_Mem → nd_Res
  | 0, _, _ => none
  | m9 + 1, x1, σ => f_X11_endsThought_2_b F (f_X11_endsThought_2 F m9) x1 σ
def f_X11_endsThought (F : Nat) (σ : nd_Mem) : nd_Res := (f_X11_endsThought_2 F F (0 : Int32) σ)
set_option maxRecDepth 100000 in
set_option maxHeartbeats 4000000 in
theorem b_X11_endsThought_2 (F : Nat) (t : List nd_S) (hL : (nd_SH ++ t).length < nd_ro) {z : Int32 × nd_Mem} (m9 : Nat) : ∀ (x1 : Int32) (σ : nd_Mem), f_X11_endsThought_2 F m9 x1 σ = some z → nd_V M_X11_endsThought (nd_rm 0) (nd_Pv (nd_SH ++ t) z) 0 0 2 [(0, .ref 60), (1, .int x1)] [] (nd_SH ++ t) σ := by
  induction m9 with
  | zero =>
    intro x1 σ h
    have h : none = some z := h
    cases h
  | succ m9 hrec2 =>
    intro x1 σ h
    have h : f_X11_endsThought_2_b F (f_X11_endsThought_2 F m9) x1 σ = some z := h
    unfold f_X11_endsThought_2_b at h
    refine nd_iload_n dX11_endsThought_2 1 rfl ?_
    refine nd_bipush dX11_endsThought_3 ib_103 ?_
    refine nd_icmp_geN dX11_endsThought_5 26 (by decide) h (fun h => ?_) (fun h => ?_)
    · refine nd_aload_n dX11_endsThought_26 0 rfl ?_
      refine nd_iconst dX11_endsThought_27 ic_0 ?_
      refine nd_putzN dX11_endsThought_28 pf_X11_138 (sh_60 t) rfl h (fun σ1 h => ?_)
      exact nd_vret dX11_endsThought_31 (Nat.zero_le _) (Nat.zero_le _) trivial (by cases h; exact ⟨rfl, rfl, rfl⟩)
    · refine nd_aload_n dX11_endsThought_8 0 rfl ?_
      refine nd_get dX11_endsThought_9 gf_X11_7 (sh_60 t) rfl ?_
      refine nd_iload_n dX11_endsThought_12 1 rfl ?_
      refine nd_aload_n dX11_endsThought_13 0 rfl ?_
      refine nd_get dX11_endsThought_14 gf_X11_16 (sh_60 t) rfl ?_
      refine nd_iload_n dX11_endsThought_17 1 rfl ?_
      refine nd_ialoadN dX11_endsThought_18 (sh_63 t) h (fun h => ?_)
      refine nd_iastoreN dX11_endsThought_19 (sh_61 t) h (fun σ2 h => ?_)
      refine nd_iinc (v := (x1 + (1 : Int32))) (ls' := [(1, .int (x1 + (1 : Int32))), (0, .ref 60)]) dX11_endsThought_20 1 rfl (congrArg (HAdd.hAdd _) ic_1) (by decide) rfl ?_
      refine nd_goto dX11_endsThought_23 2 (by decide) ?_
      refine nd_sub [1, 0] rfl ?_
      exact hrec2 _ _ h
set_option maxRecDepth 100000 in
set_option maxHeartbeats 4000000 in
theorem t_X11_endsThought (F : Nat) (t : List nd_S) (hL : (nd_SH ++ t).length < nd_ro) {z : Int32 × nd_Mem} (σ : nd_Mem) (h : f_X11_endsThought F σ = some z) : nd_Fn M_X11_endsThought (nd_rm 0) [.ref 60] (nd_SH ++ t) σ (nd_Pv (nd_SH ++ t) z) := by
  refine nd_Fn.ofV (ls := [(0, .ref 60)]) pl_X11_endsThought rfl (fun _ => Nat.le_of_ble_eq_true rfl) (fun _ => rfl) ?_
  unfold f_X11_endsThought at h
  refine nd_iconst dX11_endsThought_0 ic_0 ?_
  refine nd_istore_n (ls' := [(1, .int (0 : Int32)), (0, .ref 60)]) dX11_endsThought_1 (by decide) rfl ?_
  refine nd_sub [1, 0] rfl ?_
  exact b_X11_endsThought_2 F t hL F _ _ h
def f_X11_errs (F : Nat) (x1 : Int32) (σ : nd_Mem) : nd_Res := (nd_let (nd_up σ 60 27 x1) fun σ1 => (nd_let (nd_up σ1 60 28 (σ1 60 11)) fun σ2 => (some ((-1 : Int32), σ2))))
set_option maxRecDepth 100000 in
set_option maxHeartbeats 4000000 in
theorem t_X11_errs (F : Nat) (t : List nd_S) (hL : (nd_SH ++ t).length < nd_ro) {z : Int32 × nd_Mem} (x1 : Int32) (σ : nd_Mem) (h : f_X11_errs F x1 σ = some z) : nd_Fn M_X11_errs (nd_rm 0) [.ref 60, .int x1] (nd_SH ++ t) σ (nd_Pi (nd_SH ++ t) z) := by
  refine nd_Fn.ofV (ls := [(0, .ref 60), (1, .int x1)]) pl_X11_errs rfl (fun _ => Nat.le_of_ble_eq_true rfl) (fun _ => rfl) ?_
  unfold f_X11_errs at h
  refine nd_aload_n dX11_errs_0 0 rfl ?_
  refine nd_iload_n dX11_errs_1 1 rfl ?_
  refine nd_putiN dX11_errs_2 pf_X11_191 (sh_60 t) rfl h (fun σ1 h => ?_)
  refine nd_aload_n dX11_errs_5 0 rfl ?_
  refine nd_aload_n dX11_errs_6 0 rfl ?_
  refine nd_get dX11_errs_7 gf_X11_169 (sh_60 t) rfl ?_
  refine nd_putiN dX11_errs_10 pf_X11_194 (sh_60 t) rfl h (fun σ2 h => ?_)
  refine nd_iconst dX11_errs_13 ic_m1 ?_
  exact nd_iret dX11_errs_14 (Nat.zero_le _) (Nat.zero_le _) (vp_nar_int _) (by cases h; exact ⟨rfl, rfl, rfl⟩)
def f_X11_fault (F : Nat) (x1 : Int32) (σ : nd_Mem) : nd_Res := (nd_let (nd_up σ 60 0 (0 : Int32)) fun σ1 => (if x1 = 0 then (some ((σ1 60 29), σ1)) else (if x1 = (1 : Int32) then (some ((σ1 60 30), σ1)) else (some ((-1 : Int32), σ1)))))
set_option maxRecDepth 100000 in
set_option maxHeartbeats 4000000 in
theorem t_X11_fault (F : Nat) (t : List nd_S) (hL : (nd_SH ++ t).length < nd_ro) {z : Int32 × nd_Mem} (x1 : Int32) (σ : nd_Mem) (h : f_X11_fault F x1 σ = some z) : nd_Fn M_X11_fault (nd_rm 0) [.ref 60, .int x1] (nd_SH ++ t) σ (nd_Pi (nd_SH ++ t) z) := by
  refine nd_Fn.ofV (ls := [(0, .ref 60), (1, .int x1)]) pl_X11_fault rfl (fun _ => Nat.le_of_ble_eq_true rfl) (fun _ => rfl) ?_
  unfold f_X11_fault at h
  refine nd_aload_n dX11_fault_0 0 rfl ?_
  refine nd_iconst dX11_fault_1 ic_0 ?_
  refine nd_putiN dX11_fault_2 pf_X11_132 (sh_60 t) rfl h (fun σ1 h => ?_)
  refine nd_iload_n dX11_fault_5 1 rfl ?_
  refine nd_if_neN dX11_fault_6 16 (by decide) h (fun h => ?_) (fun h => ?_)
  · refine nd_iload_n dX11_fault_16 1 rfl ?_
    refine nd_iconst dX11_fault_17 ic_1 ?_
    refine nd_icmp_neN dX11_fault_18 28 (by decide) h (fun h => ?_) (fun h => ?_)
    · refine nd_iconst dX11_fault_28 ic_m1 ?_
      exact nd_iret dX11_fault_29 (Nat.zero_le _) (Nat.zero_le _) (vp_nar_int _) (by cases h; exact ⟨rfl, rfl, rfl⟩)
    · refine nd_aload_n dX11_fault_21 0 rfl ?_
      refine nd_get dX11_fault_22 gf_X11_52 (sh_60 t) rfl ?_
      refine nd_goto dX11_fault_25 29 (by decide) ?_
      exact nd_iret dX11_fault_29 (Nat.zero_le _) (Nat.zero_le _) (vp_nar_int _) (by cases h; exact ⟨rfl, rfl, rfl⟩)
  · refine nd_aload_n dX11_fault_9 0 rfl ?_
    refine nd_get dX11_fault_10 gf_X11_295 (sh_60 t) rfl ?_
    refine nd_goto dX11_fault_13 29 (by decide) ?_
    exact nd_iret dX11_fault_29 (Nat.zero_le _) (Nat.zero_le _) (vp_nar_int _) (by cases h; exact ⟨rfl, rfl, rfl⟩)
def f_X11_findsAkin_73 (F : Nat) (rec2 : Int32 → nd_Mem → nd_Res) (rec31 : Int32 → Int32 → Int32 → Int32 → nd_Mem → nd_Res) (x1 : Int32) (x2 : Int32) (x3 : Int32) (x4 : Int32) (s0 : Int32) (σ : nd_Mem) : nd_Res := (if (((14 : Int32) * x1) + x4) < 0 ∨ 196 ≤ ((((14 : Int32) * x1) + x4)).toNatClampNeg then none else (nd_let (nd_up σ 94 ((((14 : Int32) * x1) + x4)).toNatClampNeg s0) fun σ1 => (if (((14 : Int32) * x4) + x1) < 0 ∨ 196 ≤ ((((14 : Int32) * x4) + x1)).toNatClampNeg then none else (nd_let (nd_up σ1 94 ((((14 : Int32) * x4) + x1)).toNatClampNeg s0) fun σ2 => (rec31 x1 x2 x3 (x4 + (1 : Int32)) σ2)))))
def f_X11_findsAkin_142 (F : Nat) (rec2 : Int32 → nd_Mem → nd_Res) (x1 : Int32) (s0 : Int32) (s1 : Int32) (s2 : Int32) (σ : nd_Mem) : nd_Res := (if s2 < 0 ∨ 196 ≤ (s2).toNatClampNeg then none else (nd_let (nd_up σ 94 (s2).toNatClampNeg (s1 + s0)) fun σ1 => (rec2 (x1 + (1 : Int32)) σ1)))
def f_X11_findsAkin_31_b (F : Nat) (rec2 : Int32 → nd_Mem → nd_Res) (rec31 : Int32 → Int32 → Int32 → Int32 → nd_Mem → nd_Res) (x1 : Int32) (x2 : Int32) (x3 : Int32) (x4 : Int32) (σ : nd_Mem) : nd_Res := (if x1 ≤ x4 then (if x2 = (-1 : Int32) then (f_X11_findsAkin_142 F rec2 x1 (0 : Int32) (134217728 : Int32) ((15 : Int32) * x1) σ) else (if (((14 : Int32) * x2) + x3) < 0 ∨ 196 ≤ ((((14 : Int32) * x2) + x3)).toNatClampNeg then none else (f_X11_findsAkin_142 F rec2 x1 ((σ 94 ((((14 : Int32) * x2) + x3)).toNatClampNeg) / (2 : Int32)) (134217728 : Int32) ((15 : Int32) * x1) σ))) else (if x2 = (-1 : Int32) then (f_X11_findsAkin_73 F rec2 rec31 x1 x2 x3 x4 (0 : Int32) σ) else (if (((14 : Int32) * x2) + x4) < 0 ∨ 196 ≤ ((((14 : Int32) * x2) + x4)).toNatClampNeg then none else (if (((14 : Int32) * x3) + x4) < 0 ∨ 196 ≤ ((((14 : Int32) * x3) + x4)).toNatClampNeg then none else (f_X11_findsAkin_73 F rec2 rec31 x1 x2 x3 x4 (((σ 94 ((((14 : Int32) * x2) + x4)).toNatClampNeg) + (σ 94 ((((14 : Int32) * x3) + x4)).toNatClampNeg)) / (2 : Int32)) σ)))))
def f_X11_findsAkin_31 (F : Nat) (rec2 : Int32 → nd_Mem → nd_Res) : Nat → Int32 → Int32 → Int32 → Int32 → nd_Mem → nd_Res
  | 0, _, _, _, _, _ => none
  | m9 + 1, x1, x2, x3, x4, σ => f_X11_findsAkin_31_b F rec2 (f_X11_findsAkin_31 F rec2 m9) x1 x2 x3 x4 σ
def f_X11_findsAkin_2_b (F : Nat) (rec2 : Int32 → nd_Mem → nd_Res) (x1 : Int32) (σ : nd_Mem) : nd_Res := (if (σ 60 54) ≤ x1 then (some (0, σ)) else (if x1 < 0 ∨ 14 ≤ (x1).toNatClampNeg then none else (if x1 < 0 ∨ 14 ≤ (x1).toNatClampNeg then none else (f_X11_findsAkin_31 F rec2 F x1 ((σ 92 (x1).toNatClampNeg) - (1 : Int32)) ((σ 93 (x1).toNatClampNeg) - (1 : Int32)) (0 : Int32) σ))))
def f_X11_findsAkin_2 (F : Nat) : Nat → Int32 → nd_Mem → nd_Res
  | 0, _, _ => none
  | m9 + 1, x1, σ => f_X11_findsAkin_2_b F (f_X11_findsAkin_2 F m9) x1 σ
def f_X11_findsAkin (F : Nat) (σ : nd_Mem) : nd_Res := (f_X11_findsAkin_2 F F (0 : Int32) σ)
set_option maxRecDepth 100000 in
set_option maxHeartbeats 4000000 in
theorem b_X11_findsAkin_73 (F : Nat) (rec2 : Int32 → nd_Mem → nd_Res) (rec31 : Int32 → Int32 → Int32 → Int32 → nd_Mem → nd_Res) (t : List nd_S) (hL : (nd_SH ++ t).length < nd_ro) {z : Int32 × nd_Mem} (hrec2 : ∀ (x1 : Int32) (σ : nd_Mem), rec2 x1 σ = some z → nd_V M_X11_findsAkin (nd_rm 0) (nd_Pv (nd_SH ++ t) z) 0 0 2 [(0, .ref 60), (1, .int x1)] [] (nd_SH ++ t) σ) (hrec31 : ∀ (x1 : Int32) (x2 : Int32) (x3 : Int32) (x4 : Int32) (σ : nd_Mem), rec31 x1 x2 x3 x4 σ = some z → nd_V M_X11_findsAkin (nd_rm 0) (nd_Pv (nd_SH ++ t) z) 0 0 31 [(0, .ref 60), (1, .int x1), (2, .int x2), (3, .int x3), (4, .int x4)] [] (nd_SH ++ t) σ) (x1 : Int32) (x2 : Int32) (x3 : Int32) (x4 : Int32) (s0 : Int32) (σ : nd_Mem) (h : f_X11_findsAkin_73 F rec2 rec31 x1 x2 x3 x4 s0 σ = some z) : nd_V M_X11_findsAkin (nd_rm 0) (nd_Pv (nd_SH ++ t) z) 0 0 73 [(0, .ref 60), (1, .int x1), (2, .int x2), (3, .int x3), (4, .int x4)] [.int s0] (nd_SH ++ t) σ := by
  unfold f_X11_findsAkin_73 at h
  refine nd_istore (ls' := [(5, .int s0), (0, .ref 60), (1, .int x1), (2, .int x2), (3, .int x3), (4, .int x4)]) dX11_findsAkin_73 (by decide) rfl ?_
  refine nd_aload_n dX11_findsAkin_75 1 rfl ?_
  refine nd_get dX11_findsAkin_76 gf_X11_113 (sh_60 t) rfl ?_
  refine nd_bipush dX11_findsAkin_79 ib_14 ?_
  refine nd_iload_n dX11_findsAkin_81 2 rfl ?_
  refine nd_imul dX11_findsAkin_82 ?_
  refine nd_iload dX11_findsAkin_83 5 rfl ?_
  refine nd_iadd dX11_findsAkin_85 ?_
  refine nd_iload dX11_findsAkin_86 0 rfl ?_
  refine nd_iastoreN dX11_findsAkin_88 (sh_94 t) h (fun σ1 h => ?_)
  refine nd_aload_n dX11_findsAkin_89 1 rfl ?_
  refine nd_get dX11_findsAkin_90 gf_X11_113 (sh_60 t) rfl ?_
  refine nd_bipush dX11_findsAkin_93 ib_14 ?_
  refine nd_iload dX11_findsAkin_95 5 rfl ?_
  refine nd_imul dX11_findsAkin_97 ?_
  refine nd_iload_n dX11_findsAkin_98 2 rfl ?_
  refine nd_iadd dX11_findsAkin_99 ?_
  refine nd_iload dX11_findsAkin_100 0 rfl ?_
  refine nd_iastoreN dX11_findsAkin_102 (sh_94 t) h (fun σ2 h => ?_)
  refine nd_iinc (v := (x4 + (1 : Int32))) (ls' := [(4, .int (x4 + (1 : Int32))), (5, .int s0), (0, .ref 60), (1, .int x1), (2, .int x2), (3, .int x3)]) dX11_findsAkin_103 5 rfl (congrArg (HAdd.hAdd _) ic_1) (by decide) rfl ?_
  refine nd_goto dX11_findsAkin_106 31 (by decide) ?_
  refine nd_sub [2, 3, 4, 5, 0] rfl ?_
  exact hrec31 _ _ _ _ _ h
set_option maxRecDepth 100000 in
set_option maxHeartbeats 4000000 in
theorem b_X11_findsAkin_142 (F : Nat) (rec2 : Int32 → nd_Mem → nd_Res) (t : List nd_S) (hL : (nd_SH ++ t).length < nd_ro) {z : Int32 × nd_Mem} (hrec2 : ∀ (x1 : Int32) (σ : nd_Mem), rec2 x1 σ = some z → nd_V M_X11_findsAkin (nd_rm 0) (nd_Pv (nd_SH ++ t) z) 0 0 2 [(0, .ref 60), (1, .int x1)] [] (nd_SH ++ t) σ) (x1 : Int32) (s0 : Int32) (s1 : Int32) (s2 : Int32) (σ : nd_Mem) (h : f_X11_findsAkin_142 F rec2 x1 s0 s1 s2 σ = some z) : nd_V M_X11_findsAkin (nd_rm 0) (nd_Pv (nd_SH ++ t) z) 0 0 142 [(0, .ref 60), (1, .int x1)] [.int s0, .int s1, .int s2, .ref 94] (nd_SH ++ t) σ := by
  unfold f_X11_findsAkin_142 at h
  refine nd_iadd dX11_findsAkin_142 ?_
  refine nd_iastoreN dX11_findsAkin_143 (sh_94 t) h (fun σ1 h => ?_)
  refine nd_iinc (v := (x1 + (1 : Int32))) (ls' := [(1, .int (x1 + (1 : Int32))), (0, .ref 60)]) dX11_findsAkin_144 1 rfl (congrArg (HAdd.hAdd _) ic_1) (by decide) rfl ?_
  refine nd_goto dX11_findsAkin_147 2 (by decide) ?_
  refine nd_sub [1, 0] rfl ?_
  exact hrec2 _ _ h
set_option maxRecDepth 100000 in
set_option maxHeartbeats 4000000 in
theorem b_X11_findsAkin_31 (F : Nat) (rec2 : Int32 → nd_Mem → nd_Res) (t : List nd_S) (hL : (nd_SH ++ t).length < nd_ro) {z : Int32 × nd_Mem} (hrec2 : ∀ (x1 : Int32) (σ : nd_Mem), rec2 x1 σ = some z → nd_V M_X11_findsAkin (nd_rm 0) (nd_Pv (nd_SH ++ t) z) 0 0 2 [(0, .ref 60), (1, .int x1)] [] (nd_SH ++ t) σ) (m9 : Nat) : ∀ (x1 : Int32) (x2 : Int32) (x3 : Int32) (x4 : Int32) (σ : nd_Mem), f_X11_findsAkin_31 F rec2 m9 x1 x2 x3 x4 σ = some z → nd_V M_X11_findsAkin (nd_rm 0) (nd_Pv (nd_SH ++ t) z) 0 0 31 [(0, .ref 60), (1, .int x1), (2, .int x2), (3, .int x3), (4, .int x4)] [] (nd_SH ++ t) σ := by
  induction m9 with
  | zero =>
    intro x1 x2 x3 x4 σ h
    have h : none = some z := h
    cases h
  | succ m9 hrec31 =>
    intro x1 x2 x3 x4 σ h
    have h : f_X11_findsAkin_31_b F rec2 (f_X11_findsAkin_31 F rec2 m9) x1 x2 x3 x4 σ = some z := h
    unfold f_X11_findsAkin_31_b at h
    refine nd_iload dX11_findsAkin_31 4 rfl ?_
    refine nd_iload_n dX11_findsAkin_33 1 rfl ?_
    refine nd_icmp_geN dX11_findsAkin_34 109 (by decide) h (fun h => ?_) (fun h => ?_)
    · refine nd_aload_n dX11_findsAkin_109 0 rfl ?_
      refine nd_get dX11_findsAkin_110 gf_X11_113 (sh_60 t) rfl ?_
      refine nd_bipush dX11_findsAkin_113 ib_15 ?_
      refine nd_iload_n dX11_findsAkin_115 1 rfl ?_
      refine nd_imul dX11_findsAkin_116 ?_
      refine nd_ldcw dX11_findsAkin_117 kc_X11_441 ?_
      refine nd_iload_n dX11_findsAkin_120 2 rfl ?_
      refine nd_iconst dX11_findsAkin_121 ic_m1 ?_
      refine nd_icmp_neN dX11_findsAkin_122 129 (by decide) h (fun h => ?_) (fun h => ?_)
      · refine nd_aload_n dX11_findsAkin_129 0 rfl ?_
        refine nd_get dX11_findsAkin_130 gf_X11_113 (sh_60 t) rfl ?_
        refine nd_bipush dX11_findsAkin_133 ib_14 ?_
        refine nd_iload_n dX11_findsAkin_135 2 rfl ?_
        refine nd_imul dX11_findsAkin_136 ?_
        refine nd_iload_n dX11_findsAkin_137 3 rfl ?_
        refine nd_iadd dX11_findsAkin_138 ?_
        refine nd_ialoadN dX11_findsAkin_139 (sh_94 t) h (fun h => ?_)
        refine nd_iconst dX11_findsAkin_140 ic_2 ?_
        refine nd_idiv dX11_findsAkin_141 (by decide) ?_
        refine nd_sub [0, 1] rfl ?_
        exact b_X11_findsAkin_142 F _ t hL hrec2 _ _ _ _ _ h
      · refine nd_iconst dX11_findsAkin_125 ic_0 ?_
        refine nd_goto dX11_findsAkin_126 142 (by decide) ?_
        refine nd_sub [0, 1] rfl ?_
        exact b_X11_findsAkin_142 F _ t hL hrec2 _ _ _ _ _ h
    · refine nd_iload_n dX11_findsAkin_37 2 rfl ?_
      refine nd_iconst dX11_findsAkin_38 ic_m1 ?_
      refine nd_icmp_neN dX11_findsAkin_39 46 (by decide) h (fun h => ?_) (fun h => ?_)
      · refine nd_aload_n dX11_findsAkin_46 0 rfl ?_
        refine nd_get dX11_findsAkin_47 gf_X11_113 (sh_60 t) rfl ?_
        refine nd_bipush dX11_findsAkin_50 ib_14 ?_
        refine nd_iload_n dX11_findsAkin_52 2 rfl ?_
        refine nd_imul dX11_findsAkin_53 ?_
        refine nd_iload dX11_findsAkin_54 4 rfl ?_
        refine nd_iadd dX11_findsAkin_56 ?_
        refine nd_ialoadN dX11_findsAkin_57 (sh_94 t) h (fun h => ?_)
        refine nd_aload_n dX11_findsAkin_58 0 rfl ?_
        refine nd_get dX11_findsAkin_59 gf_X11_113 (sh_60 t) rfl ?_
        refine nd_bipush dX11_findsAkin_62 ib_14 ?_
        refine nd_iload_n dX11_findsAkin_64 3 rfl ?_
        refine nd_imul dX11_findsAkin_65 ?_
        refine nd_iload dX11_findsAkin_66 4 rfl ?_
        refine nd_iadd dX11_findsAkin_68 ?_
        refine nd_ialoadN dX11_findsAkin_69 (sh_94 t) h (fun h => ?_)
        refine nd_iadd dX11_findsAkin_70 ?_
        refine nd_iconst dX11_findsAkin_71 ic_2 ?_
        refine nd_idiv dX11_findsAkin_72 (by decide) ?_
        exact b_X11_findsAkin_73 F _ _ t hL hrec2 hrec31 _ _ _ _ _ _ h
      · refine nd_iconst dX11_findsAkin_42 ic_0 ?_
        refine nd_goto dX11_findsAkin_43 73 (by decide) ?_
        exact b_X11_findsAkin_73 F _ _ t hL hrec2 hrec31 _ _ _ _ _ _ h
set_option maxRecDepth 100000 in
set_option maxHeartbeats 4000000 in
theorem b_X11_findsAkin_2 (F : Nat) (t : List nd_S) (hL : (nd_SH ++ t).length < nd_ro) {z : Int32 × nd_Mem} (m9 : Nat) : ∀ (x1 : Int32) (σ : nd_Mem), f_X11_findsAkin_2 F m9 x1 σ = some z → nd_V M_X11_findsAkin (nd_rm 0) (nd_Pv (nd_SH ++ t) z) 0 0 2 [(0, .ref 60), (1, .int x1)] [] (nd_SH ++ t) σ := by
  induction m9 with
  | zero =>
    intro x1 σ h
    have h : none = some z := h
    cases h
  | succ m9 hrec2 =>
    intro x1 σ h
    have h : f_X11_findsAkin_2_b F (f_X11_findsAkin_2 F m9) x1 σ = some z := h
    unfold f_X11_findsAkin_2_b at h
    refine nd_iload_n dX11_findsAkin_2 1 rfl ?_
    refine nd_aload_n dX11_findsAkin_3 0 rfl ?_
    refine nd_get dX11_findsAkin_4 gf_X11_438 (sh_60 t) rfl ?_
    refine nd_icmp_geN dX11_findsAkin_7 150 (by decide) h (fun h => ?_) (fun h => ?_)
    · exact nd_vret dX11_findsAkin_150 (Nat.zero_le _) (Nat.zero_le _) trivial (by cases h; exact ⟨rfl, rfl, rfl⟩)
    · refine nd_aload_n dX11_findsAkin_10 0 rfl ?_
      refine nd_get dX11_findsAkin_11 gf_X11_107 (sh_60 t) rfl ?_
      refine nd_iload_n dX11_findsAkin_14 1 rfl ?_
      refine nd_ialoadN dX11_findsAkin_15 (sh_92 t) h (fun h => ?_)
      refine nd_iconst dX11_findsAkin_16 ic_1 ?_
      refine nd_isub dX11_findsAkin_17 ?_
      refine nd_istore_n (ls' := [(2, .int ((σ 92 (x1).toNatClampNeg) - (1 : Int32))), (0, .ref 60), (1, .int x1)]) dX11_findsAkin_18 (by decide) rfl ?_
      refine nd_aload_n dX11_findsAkin_19 1 rfl ?_
      refine nd_get dX11_findsAkin_20 gf_X11_110 (sh_60 t) rfl ?_
      refine nd_iload_n dX11_findsAkin_23 2 rfl ?_
      refine nd_ialoadN dX11_findsAkin_24 (sh_93 t) h (fun h => ?_)
      refine nd_iconst dX11_findsAkin_25 ic_1 ?_
      refine nd_isub dX11_findsAkin_26 ?_
      refine nd_istore_n (ls' := [(3, .int ((σ 93 (x1).toNatClampNeg) - (1 : Int32))), (2, .int ((σ 92 (x1).toNatClampNeg) - (1 : Int32))), (0, .ref 60), (1, .int x1)]) dX11_findsAkin_27 (by decide) rfl ?_
      refine nd_iconst dX11_findsAkin_28 ic_0 ?_
      refine nd_istore (ls' := [(4, .int (0 : Int32)), (3, .int ((σ 93 (x1).toNatClampNeg) - (1 : Int32))), (2, .int ((σ 92 (x1).toNatClampNeg) - (1 : Int32))), (0, .ref 60), (1, .int x1)]) dX11_findsAkin_29 (by decide) rfl ?_
      refine nd_sub [3, 4, 2, 1, 0] rfl ?_
      exact b_X11_findsAkin_31 F _ t hL hrec2 F _ _ _ _ _ h
set_option maxRecDepth 100000 in
set_option maxHeartbeats 4000000 in
theorem t_X11_findsAkin (F : Nat) (t : List nd_S) (hL : (nd_SH ++ t).length < nd_ro) {z : Int32 × nd_Mem} (σ : nd_Mem) (h : f_X11_findsAkin F σ = some z) : nd_Fn M_X11_findsAkin (nd_rm 0) [.ref 60] (nd_SH ++ t) σ (nd_Pv (nd_SH ++ t) z) := by
  refine nd_Fn.ofV (ls := [(0, .ref 60)]) pl_X11_findsAkin rfl (fun _ => Nat.le_of_ble_eq_true rfl) (fun _ => rfl) ?_
  unfold f_X11_findsAkin at h
  refine nd_iconst dX11_findsAkin_0 ic_0 ?_
  refine nd_istore_n (ls' := [(1, .int (0 : Int32)), (0, .ref 60)]) dX11_findsAkin_1 (by decide) rfl ?_
  refine nd_sub [1, 0] rfl ?_
  exact b_X11_findsAkin_2 F t hL F _ _ h
def f_X11_goesTo (F : Nat) (x1 : Int32) (x2 : Int32) (σ : nd_Mem) : nd_Res := (if ((x1 + (1 : Int32)) / (2 : Int32)) ≤ x2 then (some ((((2 : Int32) * (x2 - ((x1 + (1 : Int32)) / (2 : Int32)))) + (1 : Int32)), σ)) else (some (((2 : Int32) * x2), σ)))
set_option maxRecDepth 100000 in
set_option maxHeartbeats 4000000 in
theorem t_X11_goesTo (F : Nat) (t : List nd_S) (hL : (nd_SH ++ t).length < nd_ro) {z : Int32 × nd_Mem} (x1 : Int32) (x2 : Int32) (σ : nd_Mem) (h : f_X11_goesTo F x1 x2 σ = some z) : nd_Fn M_X11_goesTo (nd_rm 0) [.ref 60, .int x1, .int x2] (nd_SH ++ t) σ (nd_Pi (nd_SH ++ t) z) := by
  refine nd_Fn.ofV (ls := [(0, .ref 60), (1, .int x1), (2, .int x2)]) pl_X11_goesTo rfl (fun _ => Nat.le_of_ble_eq_true rfl) (fun _ => rfl) ?_
  unfold f_X11_goesTo at h
  refine nd_iload_n dX11_goesTo_0 1 rfl ?_
  refine nd_iconst dX11_goesTo_1 ic_1 ?_
  refine nd_iadd dX11_goesTo_2 ?_
  refine nd_iconst dX11_goesTo_3 ic_2 ?_
  refine nd_idiv dX11_goesTo_4 (by decide) ?_
  refine nd_istore_n (ls' := [(3, .int ((x1 + (1 : Int32)) / (2 : Int32))), (0, .ref 60), (1, .int x1), (2, .int x2)]) dX11_goesTo_5 (by decide) rfl ?_
  refine nd_iload_n dX11_goesTo_6 3 rfl ?_
  refine nd_iload_n dX11_goesTo_7 0 rfl ?_
  refine nd_icmp_geN dX11_goesTo_8 17 (by decide) h (fun h => ?_) (fun h => ?_)
  · refine nd_iconst dX11_goesTo_17 ic_2 ?_
    refine nd_iload_n dX11_goesTo_18 3 rfl ?_
    refine nd_iload_n dX11_goesTo_19 0 rfl ?_
    refine nd_isub dX11_goesTo_20 ?_
    refine nd_imul dX11_goesTo_21 ?_
    refine nd_iconst dX11_goesTo_22 ic_1 ?_
    refine nd_iadd dX11_goesTo_23 ?_
    exact nd_iret dX11_goesTo_24 (Nat.zero_le _) (Nat.zero_le _) (vp_nar_int _) (by cases h; exact ⟨rfl, rfl, rfl⟩)
  · refine nd_iconst dX11_goesTo_11 ic_2 ?_
    refine nd_iload_n dX11_goesTo_12 3 rfl ?_
    refine nd_imul dX11_goesTo_13 ?_
    refine nd_goto dX11_goesTo_14 24 (by decide) ?_
    exact nd_iret dX11_goesTo_24 (Nat.zero_le _) (Nat.zero_le _) (vp_nar_int _) (by cases h; exact ⟨rfl, rfl, rfl⟩)
def f_X11_greater (F : Nat) (x1 : Int32) (x2 : Int32) (σ : nd_Mem) : nd_Res := (if x1 ≤ x2 then (some (x2, σ)) else (some (x1, σ)))
set_option maxRecDepth 100000 in
set_option maxHeartbeats 4000000 in
theorem t_X11_greater (F : Nat) (t : List nd_S) (hL : (nd_SH ++ t).length < nd_ro) {z : Int32 × nd_Mem} (x1 : Int32) (x2 : Int32) (σ : nd_Mem) (h : f_X11_greater F x1 x2 σ = some z) : nd_Fn M_X11_greater (nd_rm 0) [.ref 60, .int x1, .int x2] (nd_SH ++ t) σ (nd_Pi (nd_SH ++ t) z) := by
  refine nd_Fn.ofV (ls := [(0, .ref 60), (1, .int x1), (2, .int x2)]) pl_X11_greater rfl (fun _ => Nat.le_of_ble_eq_true rfl) (fun _ => rfl) ?_
  unfold f_X11_greater at h
  refine nd_iload_n dX11_greater_0 1 rfl ?_
  refine nd_iload_n dX11_greater_1 2 rfl ?_
  refine nd_icmp_leN dX11_greater_2 9 (by decide) h (fun h => ?_) (fun h => ?_)
  · refine nd_iload_n dX11_greater_9 2 rfl ?_
    exact nd_iret dX11_greater_10 (Nat.zero_le _) (Nat.zero_le _) (vp_nar_int _) (by cases h; exact ⟨rfl, rfl, rfl⟩)
  · refine nd_iload_n dX11_greater_5 1 rfl ?_
    refine nd_goto dX11_greater_6 10 (by decide) ?_
    exact nd_iret dX11_greater_10 (Nat.zero_le _) (Nat.zero_le _) (vp_nar_int _) (by cases h; exact ⟨rfl, rfl, rfl⟩)
def f_X11_has (F : Nat) (x1 : Int32) (x2 : Int32) (σ : nd_Mem) : nd_Res := (if ((x1 >>> (x2 &&& 31)) &&& (1 : Int32)) = (1 : Int32) then (some ((1 : Int32), σ)) else (some ((0 : Int32), σ)))
set_option maxRecDepth 100000 in
set_option maxHeartbeats 4000000 in
theorem t_X11_has (F : Nat) (t : List nd_S) (hL : (nd_SH ++ t).length < nd_ro) {z : Int32 × nd_Mem} (x1 : Int32) (x2 : Int32) (σ : nd_Mem) (h : f_X11_has F x1 x2 σ = some z) : nd_Fn M_X11_has (nd_rm 0) [.ref 60, .int x1, .int x2] (nd_SH ++ t) σ (nd_Pi (nd_SH ++ t) z) := by
  refine nd_Fn.ofV (ls := [(0, .ref 60), (1, .int x1), (2, .int x2)]) pl_X11_has rfl (fun _ => Nat.le_of_ble_eq_true rfl) (fun _ => rfl) ?_
  unfold f_X11_has at h
  refine nd_iload_n dX11_has_0 1 rfl ?_
  refine nd_iload_n dX11_has_1 2 rfl ?_
  refine nd_ishr dX11_has_2 ?_
  refine nd_iconst dX11_has_3 ic_1 ?_
  refine nd_iand dX11_has_4 ?_
  refine nd_iconst dX11_has_5 ic_1 ?_
  refine nd_icmp_neN dX11_has_6 13 (by decide) h (fun h => ?_) (fun h => ?_)
  · refine nd_iconst dX11_has_13 ic_0 ?_
    exact nd_iret dX11_has_14 (Nat.zero_le _) (Nat.zero_le _) rfl (by cases h; exact ⟨rfl, rfl, rfl⟩)
  · refine nd_iconst dX11_has_9 ic_1 ?_
    refine nd_goto dX11_has_10 14 (by decide) ?_
    exact nd_iret dX11_has_14 (Nat.zero_le _) (Nat.zero_le _) rfl (by cases h; exact ⟨rfl, rfl, rfl⟩)
def f_X11_hasThree (F : Nat) (x1 : Int32) (σ : nd_Mem) : nd_Res := (if ((x1 &&& (x1 >>> ((1 : Int32) &&& 31))) &&& (x1 >>> ((2 : Int32) &&& 31))) = 0 then (some ((0 : Int32), σ)) else (some ((1 : Int32), σ)))
set_option maxRecDepth 100000 in
set_option maxHeartbeats 4000000 in
theorem t_X11_hasThree (F : Nat) (t : List nd_S) (hL : (nd_SH ++ t).length < nd_ro) {z : Int32 × nd_Mem} (x1 : Int32) (σ : nd_Mem) (h : f_X11_hasThree F x1 σ = some z) : nd_Fn M_X11_hasThree (nd_rm 0) [.ref 60, .int x1] (nd_SH ++ t) σ (nd_Pi (nd_SH ++ t) z) := by
  refine nd_Fn.ofV (ls := [(0, .ref 60), (1, .int x1)]) pl_X11_hasThree rfl (fun _ => Nat.le_of_ble_eq_true rfl) (fun _ => rfl) ?_
  unfold f_X11_hasThree at h
  refine nd_iload_n dX11_hasThree_0 1 rfl ?_
  refine nd_iload_n dX11_hasThree_1 1 rfl ?_
  refine nd_iconst dX11_hasThree_2 ic_1 ?_
  refine nd_ishr dX11_hasThree_3 ?_
  refine nd_iand dX11_hasThree_4 ?_
  refine nd_iload_n dX11_hasThree_5 1 rfl ?_
  refine nd_iconst dX11_hasThree_6 ic_2 ?_
  refine nd_ishr dX11_hasThree_7 ?_
  refine nd_iand dX11_hasThree_8 ?_
  refine nd_if_eqN dX11_hasThree_9 16 (by decide) h (fun h => ?_) (fun h => ?_)
  · refine nd_iconst dX11_hasThree_16 ic_0 ?_
    exact nd_iret dX11_hasThree_17 (Nat.zero_le _) (Nat.zero_le _) rfl (by cases h; exact ⟨rfl, rfl, rfl⟩)
  · refine nd_iconst dX11_hasThree_12 ic_1 ?_
    refine nd_goto dX11_hasThree_13 17 (by decide) ?_
    exact nd_iret dX11_hasThree_17 (Nat.zero_le _) (Nat.zero_le _) rfl (by cases h; exact ⟨rfl, rfl, rfl⟩)
def f_X11_held (F : Nat) (x1 : Int32) (x2 : Int32) (x3 : Int32) (σ : nd_Mem) : nd_Res := (if x2 ≤ x1 then (if x1 ≤ x3 then (some (x1, σ)) else (some (x3, σ))) else (some (x2, σ)))
set_option maxRecDepth 100000 in
set_option maxHeartbeats 4000000 in
theorem t_X11_held (F : Nat) (t : List nd_S) (hL : (nd_SH ++ t).length < nd_ro) {z : Int32 × nd_Mem} (x1 : Int32) (x2 : Int32) (x3 : Int32) (σ : nd_Mem) (h : f_X11_held F x1 x2 x3 σ = some z) : nd_Fn M_X11_held (nd_rm 0) [.ref 60, .int x1, .int x2, .int x3] (nd_SH ++ t) σ (nd_Pi (nd_SH ++ t) z) := by
  refine nd_Fn.ofV (ls := [(0, .ref 60), (1, .int x1), (2, .int x2), (3, .int x3)]) pl_X11_held rfl (fun _ => Nat.le_of_ble_eq_true rfl) (fun _ => rfl) ?_
  unfold f_X11_held at h
  refine nd_iload_n dX11_held_0 1 rfl ?_
  refine nd_iload_n dX11_held_1 2 rfl ?_
  refine nd_icmp_geN dX11_held_2 9 (by decide) h (fun h => ?_) (fun h => ?_)
  · refine nd_iload_n dX11_held_9 1 rfl ?_
    refine nd_iload_n dX11_held_10 3 rfl ?_
    refine nd_icmp_leN dX11_held_11 18 (by decide) h (fun h => ?_) (fun h => ?_)
    · refine nd_iload_n dX11_held_18 1 rfl ?_
      exact nd_iret dX11_held_19 (Nat.zero_le _) (Nat.zero_le _) (vp_nar_int _) (by cases h; exact ⟨rfl, rfl, rfl⟩)
    · refine nd_iload_n dX11_held_14 3 rfl ?_
      refine nd_goto dX11_held_15 19 (by decide) ?_
      exact nd_iret dX11_held_19 (Nat.zero_le _) (Nat.zero_le _) (vp_nar_int _) (by cases h; exact ⟨rfl, rfl, rfl⟩)
  · refine nd_iload_n dX11_held_5 2 rfl ?_
    refine nd_goto dX11_held_6 19 (by decide) ?_
    exact nd_iret dX11_held_19 (Nat.zero_le _) (Nat.zero_le _) (vp_nar_int _) (by cases h; exact ⟨rfl, rfl, rfl⟩)
def f_X11_isHouse_16 (F : Nat) (σ : nd_Mem) : nd_Res := (some ((0 : Int32), σ))
def f_X11_isHouse (F : Nat) (x1 : Int32) (σ : nd_Mem) : nd_Res := (if x1 < 0 then (f_X11_isHouse_16 F σ) else (if (σ 60 6) ≤ x1 then (f_X11_isHouse_16 F σ) else (some ((1 : Int32), σ))))
set_option maxRecDepth 100000 in
set_option maxHeartbeats 4000000 in
theorem b_X11_isHouse_16 (F : Nat) (t : List nd_S) (hL : (nd_SH ++ t).length < nd_ro) {z : Int32 × nd_Mem} (σ : nd_Mem) (h : f_X11_isHouse_16 F σ = some z) : nd_V M_X11_isHouse (nd_rm 0) (nd_Pi (nd_SH ++ t) z) 0 0 16 [(0, .ref 60)] [] (nd_SH ++ t) σ := by
  unfold f_X11_isHouse_16 at h
  refine nd_iconst dX11_isHouse_16 ic_0 ?_
  exact nd_iret dX11_isHouse_17 (Nat.zero_le _) (Nat.zero_le _) rfl (by cases h; exact ⟨rfl, rfl, rfl⟩)
set_option maxRecDepth 100000 in
set_option maxHeartbeats 4000000 in
theorem t_X11_isHouse (F : Nat) (t : List nd_S) (hL : (nd_SH ++ t).length < nd_ro) {z : Int32 × nd_Mem} (x1 : Int32) (σ : nd_Mem) (h : f_X11_isHouse F x1 σ = some z) : nd_Fn M_X11_isHouse (nd_rm 0) [.ref 60, .int x1] (nd_SH ++ t) σ (nd_Pi (nd_SH ++ t) z) := by
  refine nd_Fn.ofV (ls := [(0, .ref 60), (1, .int x1)]) pl_X11_isHouse rfl (fun _ => Nat.le_of_ble_eq_true rfl) (fun _ => rfl) ?_
  unfold f_X11_isHouse at h
  refine nd_iload_n dX11_isHouse_0 1 rfl ?_
  refine nd_if_ltN dX11_isHouse_1 16 (by decide) h (fun h => ?_) (fun h => ?_)
  · refine nd_sub [0] rfl ?_
    exact b_X11_isHouse_16 F t hL _ h
  · refine nd_iload_n dX11_isHouse_4 1 rfl ?_
    refine nd_aload_n dX11_isHouse_5 0 rfl ?_
    refine nd_get dX11_isHouse_6 gf_X11_144 (sh_60 t) rfl ?_
    refine nd_icmp_geN dX11_isHouse_9 16 (by decide) h (fun h => ?_) (fun h => ?_)
    · refine nd_sub [0] rfl ?_
      exact b_X11_isHouse_16 F t hL _ h
    · refine nd_iconst dX11_isHouse_12 ic_1 ?_
      refine nd_goto dX11_isHouse_13 17 (by decide) ?_
      exact nd_iret dX11_isHouse_17 (Nat.zero_le _) (Nat.zero_le _) rfl (by cases h; exact ⟨rfl, rfl, rfl⟩)
def f_X11_isIn_14 (F : Nat) (σ : nd_Mem) : nd_Res := (some ((0 : Int32), σ))
def f_X11_isIn (F : Nat) (x1 : Int32) (x2 : Int32) (x3 : Int32) (σ : nd_Mem) : nd_Res := (if x1 < x2 then (f_X11_isIn_14 F σ) else (if x3 < x1 then (f_X11_isIn_14 F σ) else (some ((1 : Int32), σ))))
set_option maxRecDepth 100000 in
set_option maxHeartbeats 4000000 in
theorem b_X11_isIn_14 (F : Nat) (t : List nd_S) (hL : (nd_SH ++ t).length < nd_ro) {z : Int32 × nd_Mem} (σ : nd_Mem) (h : f_X11_isIn_14 F σ = some z) : nd_V M_X11_isIn (nd_rm 0) (nd_Pi (nd_SH ++ t) z) 0 0 14 [(0, .ref 60)] [] (nd_SH ++ t) σ := by
  unfold f_X11_isIn_14 at h
  refine nd_iconst dX11_isIn_14 ic_0 ?_
  exact nd_iret dX11_isIn_15 (Nat.zero_le _) (Nat.zero_le _) rfl (by cases h; exact ⟨rfl, rfl, rfl⟩)
set_option maxRecDepth 100000 in
set_option maxHeartbeats 4000000 in
theorem t_X11_isIn (F : Nat) (t : List nd_S) (hL : (nd_SH ++ t).length < nd_ro) {z : Int32 × nd_Mem} (x1 : Int32) (x2 : Int32) (x3 : Int32) (σ : nd_Mem) (h : f_X11_isIn F x1 x2 x3 σ = some z) : nd_Fn M_X11_isIn (nd_rm 0) [.ref 60, .int x1, .int x2, .int x3] (nd_SH ++ t) σ (nd_Pi (nd_SH ++ t) z) := by
  refine nd_Fn.ofV (ls := [(0, .ref 60), (1, .int x1), (2, .int x2), (3, .int x3)]) pl_X11_isIn rfl (fun _ => Nat.le_of_ble_eq_true rfl) (fun _ => rfl) ?_
  unfold f_X11_isIn at h
  refine nd_iload_n dX11_isIn_0 1 rfl ?_
  refine nd_iload_n dX11_isIn_1 2 rfl ?_
  refine nd_icmp_ltN dX11_isIn_2 14 (by decide) h (fun h => ?_) (fun h => ?_)
  · refine nd_sub [0] rfl ?_
    exact b_X11_isIn_14 F t hL _ h
  · refine nd_iload_n dX11_isIn_5 1 rfl ?_
    refine nd_iload_n dX11_isIn_6 3 rfl ?_
    refine nd_icmp_gtN dX11_isIn_7 14 (by decide) h (fun h => ?_) (fun h => ?_)
    · refine nd_sub [0] rfl ?_
      exact b_X11_isIn_14 F t hL _ h
    · refine nd_iconst dX11_isIn_10 ic_1 ?_
      refine nd_goto dX11_isIn_11 15 (by decide) ?_
      exact nd_iret dX11_isIn_15 (Nat.zero_le _) (Nat.zero_le _) rfl (by cases h; exact ⟨rfl, rfl, rfl⟩)
def f_X11_isMarkSign_60 (F : Nat) (σ : nd_Mem) : nd_Res := (some ((1 : Int32), σ))
def f_X11_isMarkSign (F : Nat) (x1 : Int32) (σ : nd_Mem) : nd_Res := (if x1 = (59 : Int32) then (f_X11_isMarkSign_60 F σ) else (if x1 = (43 : Int32) then (f_X11_isMarkSign_60 F σ) else (if x1 = (45 : Int32) then (f_X11_isMarkSign_60 F σ) else (if x1 = (42 : Int32) then (f_X11_isMarkSign_60 F σ) else (if x1 = (47 : Int32) then (f_X11_isMarkSign_60 F σ) else (if x1 = (40 : Int32) then (f_X11_isMarkSign_60 F σ) else (if x1 = (41 : Int32) then (f_X11_isMarkSign_60 F σ) else (if x1 = (60 : Int32) then (f_X11_isMarkSign_60 F σ) else (if x1 = (61 : Int32) then (f_X11_isMarkSign_60 F σ) else (if x1 = (62 : Int32) then (f_X11_isMarkSign_60 F σ) else (some ((0 : Int32), σ))))))))))))
set_option maxRecDepth 100000 in
set_option maxHeartbeats 4000000 in
theorem b_X11_isMarkSign_60 (F : Nat) (t : List nd_S) (hL : (nd_SH ++ t).length < nd_ro) {z : Int32 × nd_Mem} (σ : nd_Mem) (h : f_X11_isMarkSign_60 F σ = some z) : nd_V M_X11_isMarkSign (nd_rm 0) (nd_Pi (nd_SH ++ t) z) 0 0 60 [(0, .ref 60)] [] (nd_SH ++ t) σ := by
  unfold f_X11_isMarkSign_60 at h
  refine nd_iconst dX11_isMarkSign_60 ic_1 ?_
  refine nd_goto dX11_isMarkSign_61 65 (by decide) ?_
  exact nd_iret dX11_isMarkSign_65 (Nat.zero_le _) (Nat.zero_le _) rfl (by cases h; exact ⟨rfl, rfl, rfl⟩)
set_option maxRecDepth 100000 in
set_option maxHeartbeats 4000000 in
theorem t_X11_isMarkSign (F : Nat) (t : List nd_S) (hL : (nd_SH ++ t).length < nd_ro) {z : Int32 × nd_Mem} (x1 : Int32) (σ : nd_Mem) (h : f_X11_isMarkSign F x1 σ = some z) : nd_Fn M_X11_isMarkSign (nd_rm 0) [.ref 60, .int x1] (nd_SH ++ t) σ (nd_Pi (nd_SH ++ t) z) := by
  refine nd_Fn.ofV (ls := [(0, .ref 60), (1, .int x1)]) pl_X11_isMarkSign rfl (fun _ => Nat.le_of_ble_eq_true rfl) (fun _ => rfl) ?_
  unfold f_X11_isMarkSign at h
  refine nd_iload_n dX11_isMarkSign_0 1 rfl ?_
  refine nd_bipush dX11_isMarkSign_1 ib_59 ?_
  refine nd_icmp_eqN dX11_isMarkSign_3 60 (by decide) h (fun h => ?_) (fun h => ?_)
  · refine nd_sub [0] rfl ?_
    exact b_X11_isMarkSign_60 F t hL _ h
  · refine nd_iload_n dX11_isMarkSign_6 1 rfl ?_
    refine nd_bipush dX11_isMarkSign_7 ib_43 ?_
    refine nd_icmp_eqN dX11_isMarkSign_9 60 (by decide) h (fun h => ?_) (fun h => ?_)
    · refine nd_sub [0] rfl ?_
      exact b_X11_isMarkSign_60 F t hL _ h
    · refine nd_iload_n dX11_isMarkSign_12 1 rfl ?_
      refine nd_bipush dX11_isMarkSign_13 ib_45 ?_
      refine nd_icmp_eqN dX11_isMarkSign_15 60 (by decide) h (fun h => ?_) (fun h => ?_)
      · refine nd_sub [0] rfl ?_
        exact b_X11_isMarkSign_60 F t hL _ h
      · refine nd_iload_n dX11_isMarkSign_18 1 rfl ?_
        refine nd_bipush dX11_isMarkSign_19 ib_42 ?_
        refine nd_icmp_eqN dX11_isMarkSign_21 60 (by decide) h (fun h => ?_) (fun h => ?_)
        · refine nd_sub [0] rfl ?_
          exact b_X11_isMarkSign_60 F t hL _ h
        · refine nd_iload_n dX11_isMarkSign_24 1 rfl ?_
          refine nd_bipush dX11_isMarkSign_25 ib_47 ?_
          refine nd_icmp_eqN dX11_isMarkSign_27 60 (by decide) h (fun h => ?_) (fun h => ?_)
          · refine nd_sub [0] rfl ?_
            exact b_X11_isMarkSign_60 F t hL _ h
          · refine nd_iload_n dX11_isMarkSign_30 1 rfl ?_
            refine nd_bipush dX11_isMarkSign_31 ib_40 ?_
            refine nd_icmp_eqN dX11_isMarkSign_33 60 (by decide) h (fun h => ?_) (fun h => ?_)
            · refine nd_sub [0] rfl ?_
              exact b_X11_isMarkSign_60 F t hL _ h
            · refine nd_iload_n dX11_isMarkSign_36 1 rfl ?_
              refine nd_bipush dX11_isMarkSign_37 ib_41 ?_
              refine nd_icmp_eqN dX11_isMarkSign_39 60 (by decide) h (fun h => ?_) (fun h => ?_)
              · refine nd_sub [0] rfl ?_
                exact b_X11_isMarkSign_60 F t hL _ h
              · refine nd_iload_n dX11_isMarkSign_42 1 rfl ?_
                refine nd_bipush dX11_isMarkSign_43 ib_60 ?_
                refine nd_icmp_eqN dX11_isMarkSign_45 60 (by decide) h (fun h => ?_) (fun h => ?_)
                · refine nd_sub [0] rfl ?_
                  exact b_X11_isMarkSign_60 F t hL _ h
                · refine nd_iload_n dX11_isMarkSign_48 1 rfl ?_
                  refine nd_bipush dX11_isMarkSign_49 ib_61 ?_
                  refine nd_icmp_eqN dX11_isMarkSign_51 60 (by decide) h (fun h => ?_) (fun h => ?_)
                  · refine nd_sub [0] rfl ?_
                    exact b_X11_isMarkSign_60 F t hL _ h
                  · refine nd_iload_n dX11_isMarkSign_54 1 rfl ?_
                    refine nd_bipush dX11_isMarkSign_55 ib_62 ?_
                    refine nd_icmp_neN dX11_isMarkSign_57 64 (by decide) h (fun h => ?_) (fun h => ?_)
                    · refine nd_iconst dX11_isMarkSign_64 ic_0 ?_
                      exact nd_iret dX11_isMarkSign_65 (Nat.zero_le _) (Nat.zero_le _) rfl (by cases h; exact ⟨rfl, rfl, rfl⟩)
                    · refine nd_sub [0] rfl ?_
                      exact b_X11_isMarkSign_60 F t hL _ h
def f_X11_isPlan_42 (F : Nat) (σ : nd_Mem) : nd_Res := (some ((0 : Int32), σ))
def f_X11_isPlan_44 (F : Nat) (rec2 : Int32 → Int32 → Int32 → nd_Mem → nd_Res) (x1 : Int32) (x2 : Int32) (x3 : Int32) (σ : nd_Mem) : nd_Res := (rec2 x1 x2 (x3 + (1 : Int32)) σ)
def f_X11_isPlan_2_b (F : Nat) (rec2 : Int32 → Int32 → Int32 → nd_Mem → nd_Res) (x1 : Int32) (x2 : Int32) (x3 : Int32) (σ : nd_Mem) : nd_Res := (if (σ 60 40) ≤ x3 then (some ((1 : Int32), σ)) else (if x2 = 0 then (if ((x1 >>> ((x3 - (1 : Int32)) &&& 31)) &&& (3 : Int32)) = 0 then (f_X11_isPlan_42 F σ) else (f_X11_isPlan_44 F rec2 x1 x2 x3 σ)) else (if ((x1 >>> ((x3 - (1 : Int32)) &&& 31)) &&& (3 : Int32)) = 0 then (f_X11_isPlan_42 F σ) else (if ((x1 >>> ((x3 - (1 : Int32)) &&& 31)) &&& (3 : Int32)) = (3 : Int32) then (f_X11_isPlan_42 F σ) else (f_X11_isPlan_44 F rec2 x1 x2 x3 σ)))))
def f_X11_isPlan_2 (F : Nat) : Nat → Int32 → Int32 → Int32 → nd_Mem → nd_Res
  | 0, _, _, _, _ => none
  | m9 + 1, x1, x2, x3, σ => f_X11_isPlan_2_b F (f_X11_isPlan_2 F m9) x1 x2 x3 σ
def f_X11_isPlan (F : Nat) (x1 : Int32) (x2 : Int32) (σ : nd_Mem) : nd_Res := (f_X11_isPlan_2 F F x1 x2 (1 : Int32) σ)
set_option maxRecDepth 100000 in
set_option maxHeartbeats 4000000 in
theorem b_X11_isPlan_42 (F : Nat) (t : List nd_S) (hL : (nd_SH ++ t).length < nd_ro) {z : Int32 × nd_Mem} (σ : nd_Mem) (h : f_X11_isPlan_42 F σ = some z) : nd_V M_X11_isPlan (nd_rm 0) (nd_Pi (nd_SH ++ t) z) 0 0 42 [(0, .ref 60)] [] (nd_SH ++ t) σ := by
  unfold f_X11_isPlan_42 at h
  refine nd_iconst dX11_isPlan_42 ic_0 ?_
  exact nd_iret dX11_isPlan_43 (Nat.zero_le _) (Nat.zero_le _) rfl (by cases h; exact ⟨rfl, rfl, rfl⟩)
set_option maxRecDepth 100000 in
set_option maxHeartbeats 4000000 in
theorem b_X11_isPlan_44 (F : Nat) (rec2 : Int32 → Int32 → Int32 → nd_Mem → nd_Res) (t : List nd_S) (hL : (nd_SH ++ t).length < nd_ro) {z : Int32 × nd_Mem} (hrec2 : ∀ (x1 : Int32) (x2 : Int32) (x3 : Int32) (σ : nd_Mem), rec2 x1 x2 x3 σ = some z → nd_V M_X11_isPlan (nd_rm 0) (nd_Pi (nd_SH ++ t) z) 0 0 2 [(0, .ref 60), (1, .int x1), (2, .int x2), (3, .int x3)] [] (nd_SH ++ t) σ) (x1 : Int32) (x2 : Int32) (x3 : Int32) (σ : nd_Mem) (h : f_X11_isPlan_44 F rec2 x1 x2 x3 σ = some z) : nd_V M_X11_isPlan (nd_rm 0) (nd_Pi (nd_SH ++ t) z) 0 0 44 [(0, .ref 60), (1, .int x1), (2, .int x2), (3, .int x3)] [] (nd_SH ++ t) σ := by
  unfold f_X11_isPlan_44 at h
  refine nd_iinc (v := (x3 + (1 : Int32))) (ls' := [(3, .int (x3 + (1 : Int32))), (0, .ref 60), (1, .int x1), (2, .int x2)]) dX11_isPlan_44 3 rfl (congrArg (HAdd.hAdd _) ic_1) (by decide) rfl ?_
  refine nd_goto dX11_isPlan_47 2 (by decide) ?_
  refine nd_sub [1, 2, 3, 0] rfl ?_
  exact hrec2 _ _ _ _ h
set_option maxRecDepth 100000 in
set_option maxHeartbeats 4000000 in
theorem b_X11_isPlan_2 (F : Nat) (t : List nd_S) (hL : (nd_SH ++ t).length < nd_ro) {z : Int32 × nd_Mem} (m9 : Nat) : ∀ (x1 : Int32) (x2 : Int32) (x3 : Int32) (σ : nd_Mem), f_X11_isPlan_2 F m9 x1 x2 x3 σ = some z → nd_V M_X11_isPlan (nd_rm 0) (nd_Pi (nd_SH ++ t) z) 0 0 2 [(0, .ref 60), (1, .int x1), (2, .int x2), (3, .int x3)] [] (nd_SH ++ t) σ := by
  induction m9 with
  | zero =>
    intro x1 x2 x3 σ h
    have h : none = some z := h
    cases h
  | succ m9 hrec2 =>
    intro x1 x2 x3 σ h
    have h : f_X11_isPlan_2_b F (f_X11_isPlan_2 F m9) x1 x2 x3 σ = some z := h
    unfold f_X11_isPlan_2_b at h
    refine nd_iload_n dX11_isPlan_2 3 rfl ?_
    refine nd_aload_n dX11_isPlan_3 0 rfl ?_
    refine nd_get dX11_isPlan_4 gf_X11_388 (sh_60 t) rfl ?_
    refine nd_icmp_geN dX11_isPlan_7 50 (by decide) h (fun h => ?_) (fun h => ?_)
    · refine nd_iconst dX11_isPlan_50 ic_1 ?_
      exact nd_iret dX11_isPlan_51 (Nat.zero_le _) (Nat.zero_le _) rfl (by cases h; exact ⟨rfl, rfl, rfl⟩)
    · refine nd_iload_n dX11_isPlan_10 1 rfl ?_
      refine nd_iload_n dX11_isPlan_11 3 rfl ?_
      refine nd_iconst dX11_isPlan_12 ic_1 ?_
      refine nd_isub dX11_isPlan_13 ?_
      refine nd_ishr dX11_isPlan_14 ?_
      refine nd_iconst dX11_isPlan_15 ic_3 ?_
      refine nd_iand dX11_isPlan_16 ?_
      refine nd_istore (ls' := [(4, .int ((x1 >>> ((x3 - (1 : Int32)) &&& 31)) &&& (3 : Int32))), (0, .ref 60), (1, .int x1), (2, .int x2), (3, .int x3)]) dX11_isPlan_17 (by decide) rfl ?_
      refine nd_iload_n dX11_isPlan_19 3 rfl ?_
      refine nd_if_neN dX11_isPlan_20 31 (by decide) h (fun h => ?_) (fun h => ?_)
      · refine nd_iload dX11_isPlan_31 0 rfl ?_
        refine nd_if_eqN dX11_isPlan_33 42 (by decide) h (fun h => ?_) (fun h => ?_)
        · refine nd_sub [1] rfl ?_
          exact b_X11_isPlan_42 F t hL _ h
        · refine nd_iload dX11_isPlan_36 0 rfl ?_
          refine nd_iconst dX11_isPlan_38 ic_3 ?_
          refine nd_icmp_neN dX11_isPlan_39 44 (by decide) h (fun h => ?_) (fun h => ?_)
          · refine nd_sub [1, 2, 3, 4] rfl ?_
            exact b_X11_isPlan_44 F _ t hL hrec2 _ _ _ _ h
          · refine nd_sub [1] rfl ?_
            exact b_X11_isPlan_42 F t hL _ h
      · refine nd_iload dX11_isPlan_23 0 rfl ?_
        refine nd_if_neN dX11_isPlan_25 44 (by decide) h (fun h => ?_) (fun h => ?_)
        · refine nd_sub [1, 2, 3, 4] rfl ?_
          exact b_X11_isPlan_44 F _ t hL hrec2 _ _ _ _ h
        · refine nd_goto dX11_isPlan_28 42 (by decide) ?_
          refine nd_sub [1] rfl ?_
          exact b_X11_isPlan_42 F t hL _ h
set_option maxRecDepth 100000 in
set_option maxHeartbeats 4000000 in
theorem t_X11_isPlan (F : Nat) (t : List nd_S) (hL : (nd_SH ++ t).length < nd_ro) {z : Int32 × nd_Mem} (x1 : Int32) (x2 : Int32) (σ : nd_Mem) (h : f_X11_isPlan F x1 x2 σ = some z) : nd_Fn M_X11_isPlan (nd_rm 0) [.ref 60, .int x1, .int x2] (nd_SH ++ t) σ (nd_Pi (nd_SH ++ t) z) := by
  refine nd_Fn.ofV (ls := [(0, .ref 60), (1, .int x1), (2, .int x2)]) pl_X11_isPlan rfl (fun _ => Nat.le_of_ble_eq_true rfl) (fun _ => rfl) ?_
  unfold f_X11_isPlan at h
  refine nd_iconst dX11_isPlan_0 ic_1 ?_
  refine nd_istore_n (ls' := [(3, .int (1 : Int32)), (0, .ref 60), (1, .int x1), (2, .int x2)]) dX11_isPlan_1 (by decide) rfl ?_
  refine nd_sub [1, 2, 3, 0] rfl ?_
  exact b_X11_isPlan_2 F t hL F _ _ _ _ h
def f_X11_isSign_20 (F : Nat) (σ : nd_Mem) : nd_Res := (some ((0 : Int32), σ))
def f_X11_isSign (F : Nat) (x1 : Int32) (σ : nd_Mem) : nd_Res := (if (σ 60 12) = (4 : Int32) then (if (σ 60 13) = x1 then (some ((1 : Int32), σ)) else (f_X11_isSign_20 F σ)) else (f_X11_isSign_20 F σ))
set_option maxRecDepth 100000 in
set_option maxHeartbeats 4000000 in
theorem b_X11_isSign_20 (F : Nat) (t : List nd_S) (hL : (nd_SH ++ t).length < nd_ro) {z : Int32 × nd_Mem} (σ : nd_Mem) (h : f_X11_isSign_20 F σ = some z) : nd_V M_X11_isSign (nd_rm 0) (nd_Pi (nd_SH ++ t) z) 0 0 20 [(0, .ref 60)] [] (nd_SH ++ t) σ := by
  unfold f_X11_isSign_20 at h
  refine nd_iconst dX11_isSign_20 ic_0 ?_
  exact nd_iret dX11_isSign_21 (Nat.zero_le _) (Nat.zero_le _) rfl (by cases h; exact ⟨rfl, rfl, rfl⟩)
set_option maxRecDepth 100000 in
set_option maxHeartbeats 4000000 in
theorem t_X11_isSign (F : Nat) (t : List nd_S) (hL : (nd_SH ++ t).length < nd_ro) {z : Int32 × nd_Mem} (x1 : Int32) (σ : nd_Mem) (h : f_X11_isSign F x1 σ = some z) : nd_Fn M_X11_isSign (nd_rm 0) [.ref 60, .int x1] (nd_SH ++ t) σ (nd_Pi (nd_SH ++ t) z) := by
  refine nd_Fn.ofV (ls := [(0, .ref 60), (1, .int x1)]) pl_X11_isSign rfl (fun _ => Nat.le_of_ble_eq_true rfl) (fun _ => rfl) ?_
  unfold f_X11_isSign at h
  refine nd_aload_n dX11_isSign_0 0 rfl ?_
  refine nd_get dX11_isSign_1 gf_X11_172 (sh_60 t) rfl ?_
  refine nd_iconst dX11_isSign_4 ic_4 ?_
  refine nd_icmp_neN dX11_isSign_5 20 (by decide) h (fun h => ?_) (fun h => ?_)
  · refine nd_sub [0] rfl ?_
    exact b_X11_isSign_20 F t hL _ h
  · refine nd_aload_n dX11_isSign_8 0 rfl ?_
    refine nd_get dX11_isSign_9 gf_X11_175 (sh_60 t) rfl ?_
    refine nd_iload_n dX11_isSign_12 1 rfl ?_
    refine nd_icmp_neN dX11_isSign_13 20 (by decide) h (fun h => ?_) (fun h => ?_)
    · refine nd_sub [0] rfl ?_
      exact b_X11_isSign_20 F t hL _ h
    · refine nd_iconst dX11_isSign_16 ic_1 ?_
      refine nd_goto dX11_isSign_17 21 (by decide) ?_
      exact nd_iret dX11_isSign_21 (Nat.zero_le _) (Nat.zero_le _) rfl (by cases h; exact ⟨rfl, rfl, rfl⟩)
def f_X11_isWord_20 (F : Nat) (σ : nd_Mem) : nd_Res := (some ((0 : Int32), σ))
def f_X11_isWord (F : Nat) (x1 : Int32) (σ : nd_Mem) : nd_Res := (if (σ 60 12) = (2 : Int32) then (if (σ 60 13) = x1 then (some ((1 : Int32), σ)) else (f_X11_isWord_20 F σ)) else (f_X11_isWord_20 F σ))
set_option maxRecDepth 100000 in
set_option maxHeartbeats 4000000 in
theorem b_X11_isWord_20 (F : Nat) (t : List nd_S) (hL : (nd_SH ++ t).length < nd_ro) {z : Int32 × nd_Mem} (σ : nd_Mem) (h : f_X11_isWord_20 F σ = some z) : nd_V M_X11_isWord (nd_rm 0) (nd_Pi (nd_SH ++ t) z) 0 0 20 [(0, .ref 60)] [] (nd_SH ++ t) σ := by
  unfold f_X11_isWord_20 at h
  refine nd_iconst dX11_isWord_20 ic_0 ?_
  exact nd_iret dX11_isWord_21 (Nat.zero_le _) (Nat.zero_le _) rfl (by cases h; exact ⟨rfl, rfl, rfl⟩)
set_option maxRecDepth 100000 in
set_option maxHeartbeats 4000000 in
theorem t_X11_isWord (F : Nat) (t : List nd_S) (hL : (nd_SH ++ t).length < nd_ro) {z : Int32 × nd_Mem} (x1 : Int32) (σ : nd_Mem) (h : f_X11_isWord F x1 σ = some z) : nd_Fn M_X11_isWord (nd_rm 0) [.ref 60, .int x1] (nd_SH ++ t) σ (nd_Pi (nd_SH ++ t) z) := by
  refine nd_Fn.ofV (ls := [(0, .ref 60), (1, .int x1)]) pl_X11_isWord rfl (fun _ => Nat.le_of_ble_eq_true rfl) (fun _ => rfl) ?_
  unfold f_X11_isWord at h
  refine nd_aload_n dX11_isWord_0 0 rfl ?_
  refine nd_get dX11_isWord_1 gf_X11_172 (sh_60 t) rfl ?_
  refine nd_iconst dX11_isWord_4 ic_2 ?_
  refine nd_icmp_neN dX11_isWord_5 20 (by decide) h (fun h => ?_) (fun h => ?_)
  · refine nd_sub [0] rfl ?_
    exact b_X11_isWord_20 F t hL _ h
  · refine nd_aload_n dX11_isWord_8 0 rfl ?_
    refine nd_get dX11_isWord_9 gf_X11_175 (sh_60 t) rfl ?_
    refine nd_iload_n dX11_isWord_12 1 rfl ?_
    refine nd_icmp_neN dX11_isWord_13 20 (by decide) h (fun h => ?_) (fun h => ?_)
    · refine nd_sub [0] rfl ?_
      exact b_X11_isWord_20 F t hL _ h
    · refine nd_iconst dX11_isWord_16 ic_1 ?_
      refine nd_goto dX11_isWord_17 21 (by decide) ?_
      exact nd_iret dX11_isWord_21 (Nat.zero_le _) (Nat.zero_le _) rfl (by cases h; exact ⟨rfl, rfl, rfl⟩)
def f_X11_keeps (F : Nat) (x1 : Int32) (σ : nd_Mem) : nd_Res := (nd_let (nd_up σ 60 67 ((σ 60 67) + (1 : Int32))) fun σ1 => (if (σ1 60 65) = 0 then (if ((σ1 60 67) - (1 : Int32)) < 0 ∨ 2400 ≤ (((σ1 60 67) - (1 : Int32))).toNatClampNeg then none else (some ((σ1 99 (((σ1 60 67) - (1 : Int32))).toNatClampNeg), σ1))) else (if ((σ1 60 67) - (1 : Int32)) < 0 ∨ 2400 ≤ (((σ1 60 67) - (1 : Int32))).toNatClampNeg then none else (nd_let (nd_up σ1 99 (((σ1 60 67) - (1 : Int32))).toNatClampNeg x1) fun σ2 => (some (x1, σ2))))))
set_option maxRecDepth 100000 in
set_option maxHeartbeats 4000000 in
theorem t_X11_keeps (F : Nat) (t : List nd_S) (hL : (nd_SH ++ t).length < nd_ro) {z : Int32 × nd_Mem} (x1 : Int32) (σ : nd_Mem) (h : f_X11_keeps F x1 σ = some z) : nd_Fn M_X11_keeps (nd_rm 0) [.ref 60, .int x1] (nd_SH ++ t) σ (nd_Pi (nd_SH ++ t) z) := by
  refine nd_Fn.ofV (ls := [(0, .ref 60), (1, .int x1)]) pl_X11_keeps rfl (fun _ => Nat.le_of_ble_eq_true rfl) (fun _ => rfl) ?_
  unfold f_X11_keeps at h
  refine nd_aload_n dX11_keeps_0 0 rfl ?_
  refine nd_aload_n dX11_keeps_1 0 rfl ?_
  refine nd_get dX11_keeps_2 gf_X11_476 (sh_60 t) rfl ?_
  refine nd_iconst dX11_keeps_5 ic_1 ?_
  refine nd_iadd dX11_keeps_6 ?_
  refine nd_putiN dX11_keeps_7 pf_X11_476 (sh_60 t) rfl h (fun σ1 h => ?_)
  refine nd_aload_n dX11_keeps_10 0 rfl ?_
  refine nd_get dX11_keeps_11 gf_X11_479 (sh_60 t) rfl ?_
  refine nd_if_neN dX11_keeps_14 29 (by decide) h (fun h => ?_) (fun h => ?_)
  · refine nd_aload_n dX11_keeps_29 0 rfl ?_
    refine nd_get dX11_keeps_30 gf_X11_129 (sh_60 t) rfl ?_
    refine nd_aload_n dX11_keeps_33 0 rfl ?_
    refine nd_get dX11_keeps_34 gf_X11_476 (sh_60 t) rfl ?_
    refine nd_iconst dX11_keeps_37 ic_1 ?_
    refine nd_isub dX11_keeps_38 ?_
    refine nd_iload_n dX11_keeps_39 1 rfl ?_
    refine nd_iastoreN dX11_keeps_40 (sh_99 t) h (fun σ2 h => ?_)
    refine nd_iload_n dX11_keeps_41 1 rfl ?_
    exact nd_iret dX11_keeps_42 (Nat.zero_le _) (Nat.zero_le _) (vp_nar_int _) (by cases h; exact ⟨rfl, rfl, rfl⟩)
  · refine nd_aload_n dX11_keeps_17 0 rfl ?_
    refine nd_get dX11_keeps_18 gf_X11_129 (sh_60 t) rfl ?_
    refine nd_aload_n dX11_keeps_21 0 rfl ?_
    refine nd_get dX11_keeps_22 gf_X11_476 (sh_60 t) rfl ?_
    refine nd_iconst dX11_keeps_25 ic_1 ?_
    refine nd_isub dX11_keeps_26 ?_
    refine nd_ialoadN dX11_keeps_27 (sh_99 t) h (fun h => ?_)
    exact nd_iret dX11_keeps_28 (Nat.zero_le _) (Nat.zero_le _) (vp_nar_int _) (by cases h; exact ⟨rfl, rfl, rfl⟩)
def f_X11_keepsAhead_55_b (F : Nat) (rec55 : Int32 → nd_Mem → nd_Res) (x1 : Int32) (σ : nd_Mem) : nd_Res := (if (103 : Int32) ≤ x1 then (nd_let (nd_up σ 60 3 ((σ 60 3) + (1 : Int32))) fun σ1 => (some (0, σ1))) else (if x1 < 0 ∨ 103 ≤ (x1).toNatClampNeg then none else (if (((103 : Int32) * (σ 60 3)) + x1) < 0 ∨ 618 ≤ ((((103 : Int32) * (σ 60 3)) + x1)).toNatClampNeg then none else (nd_let (nd_up σ 62 ((((103 : Int32) * (σ 60 3)) + x1)).toNatClampNeg (σ 61 (x1).toNatClampNeg)) fun σ2 => (rec55 (x1 + (1 : Int32)) σ2)))))
def f_X11_keepsAhead_55 (F : Nat) : Nat → Int32 → nd_Mem → nd_Res
  | 0, _, _ => none
  | m9 + 1, x1, σ => f_X11_keepsAhead_55_b F (f_X11_keepsAhead_55 F m9) x1 σ
def f_X11_keepsAhead_53 (F : Nat) (σ : nd_Mem) : nd_Res := (f_X11_keepsAhead_55 F F (0 : Int32) σ)
def f_X11_keepsAhead_21_b (F : Nat) (rec21 : Int32 → nd_Mem → nd_Res) (x1 : Int32) (σ : nd_Mem) : nd_Res := (if ((103 : Int32) * (σ 60 3)) ≤ x1 then (f_X11_keepsAhead_53 F σ) else (if (x1 + (103 : Int32)) < 0 ∨ 618 ≤ ((x1 + (103 : Int32))).toNatClampNeg then none else (if x1 < 0 ∨ 618 ≤ (x1).toNatClampNeg then none else (nd_let (nd_up σ 62 (x1).toNatClampNeg (σ 62 ((x1 + (103 : Int32))).toNatClampNeg)) fun σ1 => (rec21 (x1 + (1 : Int32)) σ1)))))
def f_X11_keepsAhead_21 (F : Nat) : Nat → Int32 → nd_Mem → nd_Res
  | 0, _, _ => none
  | m9 + 1, x1, σ => f_X11_keepsAhead_21_b F (f_X11_keepsAhead_21 F m9) x1 σ
def f_X11_keepsAhead (F : Nat) (σ : nd_Mem) : nd_Res := (if (σ 60 3) = (6 : Int32) then (nd_let (nd_up σ 60 3 ((σ 60 3) - (1 : Int32))) fun σ1 => (f_X11_keepsAhead_21 F F (0 : Int32) σ1)) else (f_X11_keepsAhead_53 F σ))
set_option maxRecDepth 100000 in
set_option maxHeartbeats 4000000 in
theorem b_X11_keepsAhead_55 (F : Nat) (t : List nd_S) (hL : (nd_SH ++ t).length < nd_ro) {z : Int32 × nd_Mem} (m9 : Nat) : ∀ (x1 : Int32) (σ : nd_Mem), f_X11_keepsAhead_55 F m9 x1 σ = some z → nd_V M_X11_keepsAhead (nd_rm 0) (nd_Pv (nd_SH ++ t) z) 0 0 55 [(0, .ref 60), (1, .int x1)] [] (nd_SH ++ t) σ := by
  induction m9 with
  | zero =>
    intro x1 σ h
    have h : none = some z := h
    cases h
  | succ m9 hrec55 =>
    intro x1 σ h
    have h : f_X11_keepsAhead_55_b F (f_X11_keepsAhead_55 F m9) x1 σ = some z := h
    unfold f_X11_keepsAhead_55_b at h
    refine nd_iload_n dX11_keepsAhead_55 1 rfl ?_
    refine nd_bipush dX11_keepsAhead_56 ib_103 ?_
    refine nd_icmp_geN dX11_keepsAhead_58 87 (by decide) h (fun h => ?_) (fun h => ?_)
    · refine nd_aload_n dX11_keepsAhead_87 0 rfl ?_
      refine nd_aload_n dX11_keepsAhead_88 0 rfl ?_
      refine nd_get dX11_keepsAhead_89 gf_X11_135 (sh_60 t) rfl ?_
      refine nd_iconst dX11_keepsAhead_92 ic_1 ?_
      refine nd_iadd dX11_keepsAhead_93 ?_
      refine nd_putiN dX11_keepsAhead_94 pf_X11_135 (sh_60 t) rfl h (fun σ1 h => ?_)
      exact nd_vret dX11_keepsAhead_97 (Nat.zero_le _) (Nat.zero_le _) trivial (by cases h; exact ⟨rfl, rfl, rfl⟩)
    · refine nd_aload_n dX11_keepsAhead_61 0 rfl ?_
      refine nd_get dX11_keepsAhead_62 gf_X11_13 (sh_60 t) rfl ?_
      refine nd_bipush dX11_keepsAhead_65 ib_103 ?_
      refine nd_aload_n dX11_keepsAhead_67 0 rfl ?_
      refine nd_get dX11_keepsAhead_68 gf_X11_135 (sh_60 t) rfl ?_
      refine nd_imul dX11_keepsAhead_71 ?_
      refine nd_iload_n dX11_keepsAhead_72 1 rfl ?_
      refine nd_iadd dX11_keepsAhead_73 ?_
      refine nd_aload_n dX11_keepsAhead_74 0 rfl ?_
      refine nd_get dX11_keepsAhead_75 gf_X11_7 (sh_60 t) rfl ?_
      refine nd_iload_n dX11_keepsAhead_78 1 rfl ?_
      refine nd_ialoadN dX11_keepsAhead_79 (sh_61 t) h (fun h => ?_)
      refine nd_iastoreN dX11_keepsAhead_80 (sh_62 t) h (fun σ2 h => ?_)
      refine nd_iinc (v := (x1 + (1 : Int32))) (ls' := [(1, .int (x1 + (1 : Int32))), (0, .ref 60)]) dX11_keepsAhead_81 1 rfl (congrArg (HAdd.hAdd _) ic_1) (by decide) rfl ?_
      refine nd_goto dX11_keepsAhead_84 55 (by decide) ?_
      refine nd_sub [1, 0] rfl ?_
      exact hrec55 _ _ h
set_option maxRecDepth 100000 in
set_option maxHeartbeats 4000000 in
theorem b_X11_keepsAhead_53 (F : Nat) (t : List nd_S) (hL : (nd_SH ++ t).length < nd_ro) {z : Int32 × nd_Mem} (σ : nd_Mem) (h : f_X11_keepsAhead_53 F σ = some z) : nd_V M_X11_keepsAhead (nd_rm 0) (nd_Pv (nd_SH ++ t) z) 0 0 53 [(0, .ref 60)] [] (nd_SH ++ t) σ := by
  unfold f_X11_keepsAhead_53 at h
  refine nd_iconst dX11_keepsAhead_53 ic_0 ?_
  refine nd_istore_n (ls' := [(1, .int (0 : Int32)), (0, .ref 60)]) dX11_keepsAhead_54 (by decide) rfl ?_
  refine nd_sub [1, 0] rfl ?_
  exact b_X11_keepsAhead_55 F t hL F _ _ h
set_option maxRecDepth 100000 in
set_option maxHeartbeats 4000000 in
theorem b_X11_keepsAhead_21 (F : Nat) (t : List nd_S) (hL : (nd_SH ++ t).length < nd_ro) {z : Int32 × nd_Mem} (m9 : Nat) : ∀ (x1 : Int32) (σ : nd_Mem), f_X11_keepsAhead_21 F m9 x1 σ = some z → nd_V M_X11_keepsAhead (nd_rm 0) (nd_Pv (nd_SH ++ t) z) 0 0 21 [(0, .ref 60), (1, .int x1)] [] (nd_SH ++ t) σ := by
  induction m9 with
  | zero =>
    intro x1 σ h
    have h : none = some z := h
    cases h
  | succ m9 hrec21 =>
    intro x1 σ h
    have h : f_X11_keepsAhead_21_b F (f_X11_keepsAhead_21 F m9) x1 σ = some z := h
    unfold f_X11_keepsAhead_21_b at h
    refine nd_iload_n dX11_keepsAhead_21 1 rfl ?_
    refine nd_bipush dX11_keepsAhead_22 ib_103 ?_
    refine nd_aload_n dX11_keepsAhead_24 0 rfl ?_
    refine nd_get dX11_keepsAhead_25 gf_X11_135 (sh_60 t) rfl ?_
    refine nd_imul dX11_keepsAhead_28 ?_
    refine nd_icmp_geN dX11_keepsAhead_29 53 (by decide) h (fun h => ?_) (fun h => ?_)
    · refine nd_sub [0] rfl ?_
      exact b_X11_keepsAhead_53 F t hL _ h
    · refine nd_aload_n dX11_keepsAhead_32 0 rfl ?_
      refine nd_get dX11_keepsAhead_33 gf_X11_13 (sh_60 t) rfl ?_
      refine nd_iload_n dX11_keepsAhead_36 1 rfl ?_
      refine nd_aload_n dX11_keepsAhead_37 0 rfl ?_
      refine nd_get dX11_keepsAhead_38 gf_X11_13 (sh_60 t) rfl ?_
      refine nd_iload_n dX11_keepsAhead_41 1 rfl ?_
      refine nd_bipush dX11_keepsAhead_42 ib_103 ?_
      refine nd_iadd dX11_keepsAhead_44 ?_
      refine nd_ialoadN dX11_keepsAhead_45 (sh_62 t) h (fun h => ?_)
      refine nd_iastoreN dX11_keepsAhead_46 (sh_62 t) h (fun σ1 h => ?_)
      refine nd_iinc (v := (x1 + (1 : Int32))) (ls' := [(1, .int (x1 + (1 : Int32))), (0, .ref 60)]) dX11_keepsAhead_47 1 rfl (congrArg (HAdd.hAdd _) ic_1) (by decide) rfl ?_
      refine nd_goto dX11_keepsAhead_50 21 (by decide) ?_
      refine nd_sub [1, 0] rfl ?_
      exact hrec21 _ _ h
set_option maxRecDepth 100000 in
set_option maxHeartbeats 4000000 in
theorem t_X11_keepsAhead (F : Nat) (t : List nd_S) (hL : (nd_SH ++ t).length < nd_ro) {z : Int32 × nd_Mem} (σ : nd_Mem) (h : f_X11_keepsAhead F σ = some z) : nd_Fn M_X11_keepsAhead (nd_rm 0) [.ref 60] (nd_SH ++ t) σ (nd_Pv (nd_SH ++ t) z) := by
  refine nd_Fn.ofV (ls := [(0, .ref 60)]) pl_X11_keepsAhead rfl (fun _ => Nat.le_of_ble_eq_true rfl) (fun _ => rfl) ?_
  unfold f_X11_keepsAhead at h
  refine nd_aload_n dX11_keepsAhead_0 0 rfl ?_
  refine nd_get dX11_keepsAhead_1 gf_X11_135 (sh_60 t) rfl ?_
  refine nd_bipush dX11_keepsAhead_4 ib_6 ?_
  refine nd_icmp_neN dX11_keepsAhead_6 53 (by decide) h (fun h => ?_) (fun h => ?_)
  · exact b_X11_keepsAhead_53 F t hL _ h
  · refine nd_aload_n dX11_keepsAhead_9 0 rfl ?_
    refine nd_aload_n dX11_keepsAhead_10 0 rfl ?_
    refine nd_get dX11_keepsAhead_11 gf_X11_135 (sh_60 t) rfl ?_
    refine nd_iconst dX11_keepsAhead_14 ic_1 ?_
    refine nd_isub dX11_keepsAhead_15 ?_
    refine nd_putiN dX11_keepsAhead_16 pf_X11_135 (sh_60 t) rfl h (fun σ1 h => ?_)
    refine nd_iconst dX11_keepsAhead_19 ic_0 ?_
    refine nd_istore_n (ls' := [(1, .int (0 : Int32)), (0, .ref 60)]) dX11_keepsAhead_20 (by decide) rfl ?_
    refine nd_sub [1, 0] rfl ?_
    exact b_X11_keepsAhead_21 F t hL F _ _ h
def f_X11_lesser (F : Nat) (x1 : Int32) (x2 : Int32) (σ : nd_Mem) : nd_Res := (if x2 ≤ x1 then (some (x2, σ)) else (some (x1, σ)))
set_option maxRecDepth 100000 in
set_option maxHeartbeats 4000000 in
theorem t_X11_lesser (F : Nat) (t : List nd_S) (hL : (nd_SH ++ t).length < nd_ro) {z : Int32 × nd_Mem} (x1 : Int32) (x2 : Int32) (σ : nd_Mem) (h : f_X11_lesser F x1 x2 σ = some z) : nd_Fn M_X11_lesser (nd_rm 0) [.ref 60, .int x1, .int x2] (nd_SH ++ t) σ (nd_Pi (nd_SH ++ t) z) := by
  refine nd_Fn.ofV (ls := [(0, .ref 60), (1, .int x1), (2, .int x2)]) pl_X11_lesser rfl (fun _ => Nat.le_of_ble_eq_true rfl) (fun _ => rfl) ?_
  unfold f_X11_lesser at h
  refine nd_iload_n dX11_lesser_0 1 rfl ?_
  refine nd_iload_n dX11_lesser_1 2 rfl ?_
  refine nd_icmp_geN dX11_lesser_2 9 (by decide) h (fun h => ?_) (fun h => ?_)
  · refine nd_iload_n dX11_lesser_9 2 rfl ?_
    exact nd_iret dX11_lesser_10 (Nat.zero_le _) (Nat.zero_le _) (vp_nar_int _) (by cases h; exact ⟨rfl, rfl, rfl⟩)
  · refine nd_iload_n dX11_lesser_5 1 rfl ?_
    refine nd_goto dX11_lesser_6 10 (by decide) ?_
    exact nd_iret dX11_lesser_10 (Nat.zero_le _) (Nat.zero_le _) (vp_nar_int _) (by cases h; exact ⟨rfl, rfl, rfl⟩)
def f_X11_look_210 (F : Nat) (rec183 : Int32 → Int32 → nd_Mem → nd_Res) (x2 : Int32) (x3 : Int32) (σ : nd_Mem) : nd_Res := (rec183 x2 (x3 + (1 : Int32)) σ)
def f_X11_look_183_b (F : Nat) (rec183 : Int32 → Int32 → nd_Mem → nd_Res) (x2 : Int32) (x3 : Int32) (σ : nd_Mem) : nd_Res := (if (σ 60 6) ≤ x3 then (some (x2, σ)) else (if ((87 : Int32) + x3) < 0 ∨ 103 ≤ (((87 : Int32) + x3)).toNatClampNeg then none else (if (σ 61 (((87 : Int32) + x3)).toNatClampNeg) = (1 : Int32) then (f_X11_look_210 F rec183 (x2 ||| ((1 : Int32) <<< (x3 &&& 31))) x3 σ) else (f_X11_look_210 F rec183 x2 x3 σ))))
def f_X11_look_183 (F : Nat) : Nat → Int32 → Int32 → nd_Mem → nd_Res
  | 0, _, _, _ => none
  | m9 + 1, x2, x3, σ => f_X11_look_183_b F (f_X11_look_183 F m9) x2 x3 σ
def f_X11_look (F : Nat) (x1 : Int32) (σ : nd_Mem) : nd_Res := (nd_let (nd_up σ 60 0 (0 : Int32)) fun σ1 => (if x1 = 0 then (some ((σ1 60 6), σ1)) else (if x1 = (1 : Int32) then (if (5 : Int32) < 0 ∨ 103 ≤ ((5 : Int32)).toNatClampNeg then none else (some ((σ1 61 ((5 : Int32)).toNatClampNeg), σ1))) else (if x1 = (2 : Int32) then (if (3 : Int32) < 0 ∨ 103 ≤ ((3 : Int32)).toNatClampNeg then none else (some ((σ1 61 ((3 : Int32)).toNatClampNeg), σ1))) else (if x1 = (3 : Int32) then (if (4 : Int32) < 0 ∨ 103 ≤ ((4 : Int32)).toNatClampNeg then none else (some ((σ1 61 ((4 : Int32)).toNatClampNeg), σ1))) else (if x1 = (4 : Int32) then (if (σ1 60 6) = 0 then (some ((-1 : Int32), σ1)) else (if (6 : Int32) < 0 ∨ 103 ≤ ((6 : Int32)).toNatClampNeg then none else (some ((σ1 61 ((6 : Int32)).toNatClampNeg), σ1)))) else (if x1 = (6 : Int32) then (if (0 : Int32) < 0 ∨ 103 ≤ ((0 : Int32)).toNatClampNeg then none else (some ((σ1 61 ((0 : Int32)).toNatClampNeg), σ1))) else (if x1 = (7 : Int32) then (if (2 : Int32) < 0 ∨ 103 ≤ ((2 : Int32)).toNatClampNeg then none else (some ((σ1 61 ((2 : Int32)).toNatClampNeg), σ1))) else (if x1 = (8 : Int32) then (if (1 : Int32) < 0 ∨ 103 ≤ ((1 : Int32)).toNatClampNeg then none else (some ((σ1 61 ((1 : Int32)).toNatClampNeg), σ1))) else (if x1 = (9 : Int32) then (if (0 : Int32) < 0 ∨ 2 ≤ ((0 : Int32)).toNatClampNeg then none else (some ((σ1 67 ((0 : Int32)).toNatClampNeg), σ1))) else (if x1 = (10 : Int32) then (some ((σ1 60 31), σ1)) else (if x1 = (11 : Int32) then (some ((σ1 60 33), σ1)) else (if x1 = (12 : Int32) then (some ((σ1 60 35), σ1)) else (if x1 = (13 : Int32) then (some ((σ1 60 3), σ1)) else (if x1 = (5 : Int32) then (f_X11_look_183 F F (0 : Int32) (0 : Int32) σ1) else (some ((-100000 : Int32), σ1)))))))))))))))))
set_option maxRecDepth 100000 in
set_option maxHeartbeats 4000000 in
theorem b_X11_look_210 (F : Nat) (rec183 : Int32 → Int32 → nd_Mem → nd_Res) (t : List nd_S) (hL : (nd_SH ++ t).length < nd_ro) {z : Int32 × nd_Mem} (hrec183 : ∀ (x2 : Int32) (x3 : Int32) (σ : nd_Mem), rec183 x2 x3 σ = some z → nd_V M_X11_look (nd_rm 0) (nd_Pi (nd_SH ++ t) z) 0 0 183 [(0, .ref 60), (2, .int x2), (3, .int x3)] [] (nd_SH ++ t) σ) (x2 : Int32) (x3 : Int32) (σ : nd_Mem) (h : f_X11_look_210 F rec183 x2 x3 σ = some z) : nd_V M_X11_look (nd_rm 0) (nd_Pi (nd_SH ++ t) z) 0 0 210 [(0, .ref 60), (2, .int x2), (3, .int x3)] [] (nd_SH ++ t) σ := by
  unfold f_X11_look_210 at h
  refine nd_iinc (v := (x3 + (1 : Int32))) (ls' := [(3, .int (x3 + (1 : Int32))), (0, .ref 60), (2, .int x2)]) dX11_look_210 2 rfl (congrArg (HAdd.hAdd _) ic_1) (by decide) rfl ?_
  refine nd_goto dX11_look_213 183 (by decide) ?_
  refine nd_sub [1, 2, 0] rfl ?_
  exact hrec183 _ _ _ h
set_option maxRecDepth 100000 in
set_option maxHeartbeats 4000000 in
theorem b_X11_look_183 (F : Nat) (t : List nd_S) (hL : (nd_SH ++ t).length < nd_ro) {z : Int32 × nd_Mem} (m9 : Nat) : ∀ (x2 : Int32) (x3 : Int32) (σ : nd_Mem), f_X11_look_183 F m9 x2 x3 σ = some z → nd_V M_X11_look (nd_rm 0) (nd_Pi (nd_SH ++ t) z) 0 0 183 [(0, .ref 60), (2, .int x2), (3, .int x3)] [] (nd_SH ++ t) σ := by
  induction m9 with
  | zero =>
    intro x2 x3 σ h
    have h : none = some z := h
    cases h
  | succ m9 hrec183 =>
    intro x2 x3 σ h
    have h : f_X11_look_183_b F (f_X11_look_183 F m9) x2 x3 σ = some z := h
    unfold f_X11_look_183_b at h
    refine nd_iload_n dX11_look_183 2 rfl ?_
    refine nd_aload_n dX11_look_184 0 rfl ?_
    refine nd_get dX11_look_185 gf_X11_144 (sh_60 t) rfl ?_
    refine nd_icmp_geN dX11_look_188 216 (by decide) h (fun h => ?_) (fun h => ?_)
    · refine nd_iload_n dX11_look_216 1 rfl ?_
      exact nd_iret dX11_look_217 (Nat.zero_le _) (Nat.zero_le _) (vp_nar_int _) (by cases h; exact ⟨rfl, rfl, rfl⟩)
    · refine nd_aload_n dX11_look_191 0 rfl ?_
      refine nd_get dX11_look_192 gf_X11_7 (sh_60 t) rfl ?_
      refine nd_bipush dX11_look_195 ib_87 ?_
      refine nd_iload_n dX11_look_197 2 rfl ?_
      refine nd_iadd dX11_look_198 ?_
      refine nd_ialoadN dX11_look_199 (sh_61 t) h (fun h => ?_)
      refine nd_iconst dX11_look_200 ic_1 ?_
      refine nd_icmp_neN dX11_look_201 210 (by decide) h (fun h => ?_) (fun h => ?_)
      · exact b_X11_look_210 F _ t hL hrec183 _ _ _ h
      · refine nd_iload_n dX11_look_204 1 rfl ?_
        refine nd_iconst dX11_look_205 ic_1 ?_
        refine nd_iload_n dX11_look_206 2 rfl ?_
        refine nd_ishl dX11_look_207 ?_
        refine nd_ior dX11_look_208 ?_
        refine nd_istore_n (ls' := [(2, .int (x2 ||| ((1 : Int32) <<< (x3 &&& 31)))), (0, .ref 60), (3, .int x3)]) dX11_look_209 (by decide) rfl ?_
        refine nd_sub [1, 0, 2] rfl ?_
        exact b_X11_look_210 F _ t hL hrec183 _ _ _ h
set_option maxRecDepth 100000 in
set_option maxHeartbeats 4000000 in
theorem t_X11_look (F : Nat) (t : List nd_S) (hL : (nd_SH ++ t).length < nd_ro) {z : Int32 × nd_Mem} (x1 : Int32) (σ : nd_Mem) (h : f_X11_look F x1 σ = some z) : nd_Fn M_X11_look (nd_rm 0) [.ref 60, .int x1] (nd_SH ++ t) σ (nd_Pi (nd_SH ++ t) z) := by
  refine nd_Fn.ofV (ls := [(0, .ref 60), (1, .int x1)]) pl_X11_look rfl (fun _ => Nat.le_of_ble_eq_true rfl) (fun _ => rfl) ?_
  unfold f_X11_look at h
  refine nd_aload_n dX11_look_0 0 rfl ?_
  refine nd_iconst dX11_look_1 ic_0 ?_
  refine nd_putiN dX11_look_2 pf_X11_132 (sh_60 t) rfl h (fun σ1 h => ?_)
  refine nd_iload_n dX11_look_5 1 rfl ?_
  refine nd_if_neN dX11_look_6 14 (by decide) h (fun h => ?_) (fun h => ?_)
  · refine nd_iload_n dX11_look_14 1 rfl ?_
    refine nd_iconst dX11_look_15 ic_1 ?_
    refine nd_icmp_neN dX11_look_16 26 (by decide) h (fun h => ?_) (fun h => ?_)
    · refine nd_iload_n dX11_look_26 1 rfl ?_
      refine nd_iconst dX11_look_27 ic_2 ?_
      refine nd_icmp_neN dX11_look_28 38 (by decide) h (fun h => ?_) (fun h => ?_)
      · refine nd_iload_n dX11_look_38 1 rfl ?_
        refine nd_iconst dX11_look_39 ic_3 ?_
        refine nd_icmp_neN dX11_look_40 50 (by decide) h (fun h => ?_) (fun h => ?_)
        · refine nd_iload_n dX11_look_50 1 rfl ?_
          refine nd_iconst dX11_look_51 ic_4 ?_
          refine nd_icmp_neN dX11_look_52 74 (by decide) h (fun h => ?_) (fun h => ?_)
          · refine nd_iload_n dX11_look_74 1 rfl ?_
            refine nd_bipush dX11_look_75 ib_6 ?_
            refine nd_icmp_neN dX11_look_77 87 (by decide) h (fun h => ?_) (fun h => ?_)
            · refine nd_iload_n dX11_look_87 1 rfl ?_
              refine nd_bipush dX11_look_88 ib_7 ?_
              refine nd_icmp_neN dX11_look_90 100 (by decide) h (fun h => ?_) (fun h => ?_)
              · refine nd_iload_n dX11_look_100 1 rfl ?_
                refine nd_bipush dX11_look_101 ib_8 ?_
                refine nd_icmp_neN dX11_look_103 113 (by decide) h (fun h => ?_) (fun h => ?_)
                · refine nd_iload_n dX11_look_113 1 rfl ?_
                  refine nd_bipush dX11_look_114 ib_9 ?_
                  refine nd_icmp_neN dX11_look_116 126 (by decide) h (fun h => ?_) (fun h => ?_)
                  · refine nd_iload_n dX11_look_126 1 rfl ?_
                    refine nd_bipush dX11_look_127 ib_10 ?_
                    refine nd_icmp_neN dX11_look_129 137 (by decide) h (fun h => ?_) (fun h => ?_)
                    · refine nd_iload_n dX11_look_137 1 rfl ?_
                      refine nd_bipush dX11_look_138 ib_11 ?_
                      refine nd_icmp_neN dX11_look_140 148 (by decide) h (fun h => ?_) (fun h => ?_)
                      · refine nd_iload_n dX11_look_148 1 rfl ?_
                        refine nd_bipush dX11_look_149 ib_12 ?_
                        refine nd_icmp_neN dX11_look_151 159 (by decide) h (fun h => ?_) (fun h => ?_)
                        · refine nd_iload_n dX11_look_159 1 rfl ?_
                          refine nd_bipush dX11_look_160 ib_13 ?_
                          refine nd_icmp_neN dX11_look_162 170 (by decide) h (fun h => ?_) (fun h => ?_)
                          · refine nd_iload_n dX11_look_170 1 rfl ?_
                            refine nd_iconst dX11_look_171 ic_5 ?_
                            refine nd_icmp_eqN dX11_look_172 179 (by decide) h (fun h => ?_) (fun h => ?_)
                            · refine nd_iconst dX11_look_179 ic_0 ?_
                              refine nd_istore_n (ls' := [(2, .int (0 : Int32)), (0, .ref 60), (1, .int x1)]) dX11_look_180 (by decide) rfl ?_
                              refine nd_iconst dX11_look_181 ic_0 ?_
                              refine nd_istore_n (ls' := [(3, .int (0 : Int32)), (2, .int (0 : Int32)), (0, .ref 60), (1, .int x1)]) dX11_look_182 (by decide) rfl ?_
                              refine nd_sub [2, 1, 0] rfl ?_
                              exact b_X11_look_183 F t hL F _ _ _ h
                            · refine nd_ldcw dX11_look_175 kc_X11_494 ?_
                              exact nd_iret dX11_look_178 (Nat.zero_le _) (Nat.zero_le _) (vp_nar_int _) (by cases h; exact ⟨rfl, rfl, rfl⟩)
                          · refine nd_aload_n dX11_look_165 0 rfl ?_
                            refine nd_get dX11_look_166 gf_X11_135 (sh_60 t) rfl ?_
                            exact nd_iret dX11_look_169 (Nat.zero_le _) (Nat.zero_le _) (vp_nar_int _) (by cases h; exact ⟨rfl, rfl, rfl⟩)
                        · refine nd_aload_n dX11_look_154 0 rfl ?_
                          refine nd_get dX11_look_155 gf_X11_292 (sh_60 t) rfl ?_
                          exact nd_iret dX11_look_158 (Nat.zero_le _) (Nat.zero_le _) (vp_nar_int _) (by cases h; exact ⟨rfl, rfl, rfl⟩)
                      · refine nd_aload_n dX11_look_143 0 rfl ?_
                        refine nd_get dX11_look_144 gf_X11_289 (sh_60 t) rfl ?_
                        exact nd_iret dX11_look_147 (Nat.zero_le _) (Nat.zero_le _) (vp_nar_int _) (by cases h; exact ⟨rfl, rfl, rfl⟩)
                    · refine nd_aload_n dX11_look_132 0 rfl ?_
                      refine nd_get dX11_look_133 gf_X11_286 (sh_60 t) rfl ?_
                      exact nd_iret dX11_look_136 (Nat.zero_le _) (Nat.zero_le _) (vp_nar_int _) (by cases h; exact ⟨rfl, rfl, rfl⟩)
                  · refine nd_aload_n dX11_look_119 0 rfl ?_
                    refine nd_get dX11_look_120 gf_X11_28 (sh_60 t) rfl ?_
                    refine nd_iconst dX11_look_123 ic_0 ?_
                    refine nd_ialoadN dX11_look_124 (sh_67 t) h (fun h => ?_)
                    exact nd_iret dX11_look_125 (Nat.zero_le _) (Nat.zero_le _) (vp_nar_int _) (by cases h; exact ⟨rfl, rfl, rfl⟩)
                · refine nd_aload_n dX11_look_106 0 rfl ?_
                  refine nd_get dX11_look_107 gf_X11_7 (sh_60 t) rfl ?_
                  refine nd_iconst dX11_look_110 ic_1 ?_
                  refine nd_ialoadN dX11_look_111 (sh_61 t) h (fun h => ?_)
                  exact nd_iret dX11_look_112 (Nat.zero_le _) (Nat.zero_le _) (vp_nar_int _) (by cases h; exact ⟨rfl, rfl, rfl⟩)
              · refine nd_aload_n dX11_look_93 0 rfl ?_
                refine nd_get dX11_look_94 gf_X11_7 (sh_60 t) rfl ?_
                refine nd_iconst dX11_look_97 ic_2 ?_
                refine nd_ialoadN dX11_look_98 (sh_61 t) h (fun h => ?_)
                exact nd_iret dX11_look_99 (Nat.zero_le _) (Nat.zero_le _) (vp_nar_int _) (by cases h; exact ⟨rfl, rfl, rfl⟩)
            · refine nd_aload_n dX11_look_80 0 rfl ?_
              refine nd_get dX11_look_81 gf_X11_7 (sh_60 t) rfl ?_
              refine nd_iconst dX11_look_84 ic_0 ?_
              refine nd_ialoadN dX11_look_85 (sh_61 t) h (fun h => ?_)
              exact nd_iret dX11_look_86 (Nat.zero_le _) (Nat.zero_le _) (vp_nar_int _) (by cases h; exact ⟨rfl, rfl, rfl⟩)
          · refine nd_aload_n dX11_look_55 0 rfl ?_
            refine nd_get dX11_look_56 gf_X11_144 (sh_60 t) rfl ?_
            refine nd_if_neN dX11_look_59 66 (by decide) h (fun h => ?_) (fun h => ?_)
            · refine nd_aload_n dX11_look_66 0 rfl ?_
              refine nd_get dX11_look_67 gf_X11_7 (sh_60 t) rfl ?_
              refine nd_bipush dX11_look_70 ib_6 ?_
              refine nd_ialoadN dX11_look_72 (sh_61 t) h (fun h => ?_)
              exact nd_iret dX11_look_73 (Nat.zero_le _) (Nat.zero_le _) (vp_nar_int _) (by cases h; exact ⟨rfl, rfl, rfl⟩)
            · refine nd_iconst dX11_look_62 ic_m1 ?_
              refine nd_goto dX11_look_63 73 (by decide) ?_
              exact nd_iret dX11_look_73 (Nat.zero_le _) (Nat.zero_le _) (vp_nar_int _) (by cases h; exact ⟨rfl, rfl, rfl⟩)
        · refine nd_aload_n dX11_look_43 0 rfl ?_
          refine nd_get dX11_look_44 gf_X11_7 (sh_60 t) rfl ?_
          refine nd_iconst dX11_look_47 ic_4 ?_
          refine nd_ialoadN dX11_look_48 (sh_61 t) h (fun h => ?_)
          exact nd_iret dX11_look_49 (Nat.zero_le _) (Nat.zero_le _) (vp_nar_int _) (by cases h; exact ⟨rfl, rfl, rfl⟩)
      · refine nd_aload_n dX11_look_31 0 rfl ?_
        refine nd_get dX11_look_32 gf_X11_7 (sh_60 t) rfl ?_
        refine nd_iconst dX11_look_35 ic_3 ?_
        refine nd_ialoadN dX11_look_36 (sh_61 t) h (fun h => ?_)
        exact nd_iret dX11_look_37 (Nat.zero_le _) (Nat.zero_le _) (vp_nar_int _) (by cases h; exact ⟨rfl, rfl, rfl⟩)
    · refine nd_aload_n dX11_look_19 0 rfl ?_
      refine nd_get dX11_look_20 gf_X11_7 (sh_60 t) rfl ?_
      refine nd_iconst dX11_look_23 ic_5 ?_
      refine nd_ialoadN dX11_look_24 (sh_61 t) h (fun h => ?_)
      exact nd_iret dX11_look_25 (Nat.zero_le _) (Nat.zero_le _) (vp_nar_int _) (by cases h; exact ⟨rfl, rfl, rfl⟩)
  · refine nd_aload_n dX11_look_9 0 rfl ?_
    refine nd_get dX11_look_10 gf_X11_144 (sh_60 t) rfl ?_
    exact nd_iret dX11_look_13 (Nat.zero_le _) (Nat.zero_le _) (vp_nar_int _) (by cases h; exact ⟨rfl, rfl, rfl⟩)
def f_X11_notes (F : Nat) (x1 : Int32) (x2 : Int32) (x3 : Int32) (σ : nd_Mem) : nd_Res := (if (σ 60 5) = 0 then (if (2 : Int32) < 0 ∨ 103 ≤ ((2 : Int32)).toNatClampNeg then none else (if (σ 61 ((2 : Int32)).toNatClampNeg) = (150 : Int32) then (some (0, σ)) else (if (2 : Int32) < 0 ∨ 103 ≤ ((2 : Int32)).toNatClampNeg then none else (if (0 : Int32) < 0 ∨ 103 ≤ ((0 : Int32)).toNatClampNeg then none else (if ((4 : Int32) * (σ 61 ((2 : Int32)).toNatClampNeg)) < 0 ∨ 600 ≤ (((4 : Int32) * (σ 61 ((2 : Int32)).toNatClampNeg))).toNatClampNeg then none else (nd_let (nd_up σ 64 (((4 : Int32) * (σ 61 ((2 : Int32)).toNatClampNeg))).toNatClampNeg (σ 61 ((0 : Int32)).toNatClampNeg)) fun σ1 => (if (((4 : Int32) * (σ 61 ((2 : Int32)).toNatClampNeg)) + (1 : Int32)) < 0 ∨ 600 ≤ ((((4 : Int32) * (σ 61 ((2 : Int32)).toNatClampNeg)) + (1 : Int32))).toNatClampNeg then none else (nd_let (nd_up σ1 64 ((((4 : Int32) * (σ 61 ((2 : Int32)).toNatClampNeg)) + (1 : Int32))).toNatClampNeg x1) fun σ2 => (if (((4 : Int32) * (σ 61 ((2 : Int32)).toNatClampNeg)) + (2 : Int32)) < 0 ∨ 600 ≤ ((((4 : Int32) * (σ 61 ((2 : Int32)).toNatClampNeg)) + (2 : Int32))).toNatClampNeg then none else (nd_let (nd_up σ2 64 ((((4 : Int32) * (σ 61 ((2 : Int32)).toNatClampNeg)) + (2 : Int32))).toNatClampNeg x2) fun σ3 => (if (((4 : Int32) * (σ 61 ((2 : Int32)).toNatClampNeg)) + (3 : Int32)) < 0 ∨ 600 ≤ ((((4 : Int32) * (σ 61 ((2 : Int32)).toNatClampNeg)) + (3 : Int32))).toNatClampNeg then none else (nd_let (nd_up σ3 64 ((((4 : Int32) * (σ 61 ((2 : Int32)).toNatClampNeg)) + (3 : Int32))).toNatClampNeg x3) fun σ4 => (if (2 : Int32) < 0 ∨ 103 ≤ ((2 : Int32)).toNatClampNeg then none else (if (2 : Int32) < 0 ∨ 103 ≤ ((2 : Int32)).toNatClampNeg then none else (nd_let (nd_up σ4 61 ((2 : Int32)).toNatClampNeg ((σ4 61 ((2 : Int32)).toNatClampNeg) + (1 : Int32))) fun σ5 => (some (0, σ5))))))))))))))))) else (some (0, σ)))
set_option maxRecDepth 100000 in
set_option maxHeartbeats 4000000 in
theorem t_X11_notes (F : Nat) (t : List nd_S) (hL : (nd_SH ++ t).length < nd_ro) {z : Int32 × nd_Mem} (x1 : Int32) (x2 : Int32) (x3 : Int32) (σ : nd_Mem) (h : f_X11_notes F x1 x2 x3 σ = some z) : nd_Fn M_X11_notes (nd_rm 0) [.ref 60, .int x1, .int x2, .int x3] (nd_SH ++ t) σ (nd_Pv (nd_SH ++ t) z) := by
  refine nd_Fn.ofV (ls := [(0, .ref 60), (1, .int x1), (2, .int x2), (3, .int x3)]) pl_X11_notes rfl (fun _ => Nat.le_of_ble_eq_true rfl) (fun _ => rfl) ?_
  unfold f_X11_notes at h
  refine nd_aload_n dX11_notes_0 0 rfl ?_
  refine nd_get dX11_notes_1 gf_X11_138 (sh_60 t) rfl ?_
  refine nd_if_neN dX11_notes_4 19 (by decide) h (fun h => ?_) (fun h => ?_)
  · exact nd_vret dX11_notes_19 (Nat.zero_le _) (Nat.zero_le _) trivial (by cases h; exact ⟨rfl, rfl, rfl⟩)
  · refine nd_aload_n dX11_notes_7 0 rfl ?_
    refine nd_get dX11_notes_8 gf_X11_7 (sh_60 t) rfl ?_
    refine nd_iconst dX11_notes_11 ic_2 ?_
    refine nd_ialoadN dX11_notes_12 (sh_61 t) h (fun h => ?_)
    refine nd_sipush dX11_notes_13 is_150 ?_
    refine nd_icmp_neN dX11_notes_16 20 (by decide) h (fun h => ?_) (fun h => ?_)
    · refine nd_iconst dX11_notes_20 ic_4 ?_
      refine nd_aload_n dX11_notes_21 0 rfl ?_
      refine nd_get dX11_notes_22 gf_X11_7 (sh_60 t) rfl ?_
      refine nd_iconst dX11_notes_25 ic_2 ?_
      refine nd_ialoadN dX11_notes_26 (sh_61 t) h (fun h => ?_)
      refine nd_imul dX11_notes_27 ?_
      refine nd_istore (ls' := [(4, .int ((4 : Int32) * (σ 61 ((2 : Int32)).toNatClampNeg))), (0, .ref 60), (1, .int x1), (2, .int x2), (3, .int x3)]) dX11_notes_28 (by decide) rfl ?_
      refine nd_aload_n dX11_notes_30 1 rfl ?_
      refine nd_get dX11_notes_31 gf_X11_19 (sh_60 t) rfl ?_
      refine nd_iload dX11_notes_34 0 rfl ?_
      refine nd_aload_n dX11_notes_36 1 rfl ?_
      refine nd_get dX11_notes_37 gf_X11_7 (sh_60 t) rfl ?_
      refine nd_iconst dX11_notes_40 ic_0 ?_
      refine nd_ialoadN dX11_notes_41 (sh_61 t) h (fun h => ?_)
      refine nd_iastoreN dX11_notes_42 (sh_64 t) h (fun σ1 h => ?_)
      refine nd_aload_n dX11_notes_43 1 rfl ?_
      refine nd_get dX11_notes_44 gf_X11_19 (sh_60 t) rfl ?_
      refine nd_iload dX11_notes_47 0 rfl ?_
      refine nd_iconst dX11_notes_49 ic_1 ?_
      refine nd_iadd dX11_notes_50 ?_
      refine nd_iload_n dX11_notes_51 2 rfl ?_
      refine nd_iastoreN dX11_notes_52 (sh_64 t) h (fun σ2 h => ?_)
      refine nd_aload_n dX11_notes_53 1 rfl ?_
      refine nd_get dX11_notes_54 gf_X11_19 (sh_60 t) rfl ?_
      refine nd_iload dX11_notes_57 0 rfl ?_
      refine nd_iconst dX11_notes_59 ic_2 ?_
      refine nd_iadd dX11_notes_60 ?_
      refine nd_iload_n dX11_notes_61 3 rfl ?_
      refine nd_iastoreN dX11_notes_62 (sh_64 t) h (fun σ3 h => ?_)
      refine nd_aload_n dX11_notes_63 1 rfl ?_
      refine nd_get dX11_notes_64 gf_X11_19 (sh_60 t) rfl ?_
      refine nd_iload dX11_notes_67 0 rfl ?_
      refine nd_iconst dX11_notes_69 ic_3 ?_
      refine nd_iadd dX11_notes_70 ?_
      refine nd_iload_n dX11_notes_71 4 rfl ?_
      refine nd_iastoreN dX11_notes_72 (sh_64 t) h (fun σ4 h => ?_)
      refine nd_aload_n dX11_notes_73 1 rfl ?_
      refine nd_get dX11_notes_74 gf_X11_7 (sh_60 t) rfl ?_
      refine nd_iconst dX11_notes_77 ic_2 ?_
      refine nd_aload_n dX11_notes_78 1 rfl ?_
      refine nd_get dX11_notes_79 gf_X11_7 (sh_60 t) rfl ?_
      refine nd_iconst dX11_notes_82 ic_2 ?_
      refine nd_ialoadN dX11_notes_83 (sh_61 t) h (fun h => ?_)
      refine nd_iconst dX11_notes_84 ic_1 ?_
      refine nd_iadd dX11_notes_85 ?_
      refine nd_iastoreN dX11_notes_86 (sh_61 t) h (fun σ5 h => ?_)
      exact nd_vret dX11_notes_87 (Nat.zero_le _) (Nat.zero_le _) trivial (by cases h; exact ⟨rfl, rfl, rfl⟩)
    · exact nd_vret dX11_notes_19 (Nat.zero_le _) (Nat.zero_le _) trivial (by cases h; exact ⟨rfl, rfl, rfl⟩)
def f_X11_onesOf_4_b (F : Nat) (rec4 : Int32 → Int32 → nd_Mem → nd_Res) (x2 : Int32) (x3 : Int32) (σ : nd_Mem) : nd_Res := (if x3 = 0 then (some (x2, σ)) else (rec4 (x2 + (1 : Int32)) (x3 &&& (x3 - (1 : Int32))) σ))
def f_X11_onesOf_4 (F : Nat) : Nat → Int32 → Int32 → nd_Mem → nd_Res
  | 0, _, _, _ => none
  | m9 + 1, x2, x3, σ => f_X11_onesOf_4_b F (f_X11_onesOf_4 F m9) x2 x3 σ
def f_X11_onesOf (F : Nat) (x1 : Int32) (σ : nd_Mem) : nd_Res := (f_X11_onesOf_4 F F (0 : Int32) x1 σ)
set_option maxRecDepth 100000 in
set_option maxHeartbeats 4000000 in
theorem b_X11_onesOf_4 (F : Nat) (t : List nd_S) (hL : (nd_SH ++ t).length < nd_ro) {z : Int32 × nd_Mem} (m9 : Nat) : ∀ (x2 : Int32) (x3 : Int32) (σ : nd_Mem), f_X11_onesOf_4 F m9 x2 x3 σ = some z → nd_V M_X11_onesOf (nd_rm 0) (nd_Pi (nd_SH ++ t) z) 0 0 4 [(0, .ref 60), (2, .int x2), (3, .int x3)] [] (nd_SH ++ t) σ := by
  induction m9 with
  | zero =>
    intro x2 x3 σ h
    have h : none = some z := h
    cases h
  | succ m9 hrec4 =>
    intro x2 x3 σ h
    have h : f_X11_onesOf_4_b F (f_X11_onesOf_4 F m9) x2 x3 σ = some z := h
    unfold f_X11_onesOf_4_b at h
    refine nd_iload_n dX11_onesOf_4 2 rfl ?_
    refine nd_if_eqN dX11_onesOf_5 21 (by decide) h (fun h => ?_) (fun h => ?_)
    · refine nd_iload_n dX11_onesOf_21 1 rfl ?_
      exact nd_iret dX11_onesOf_22 (Nat.zero_le _) (Nat.zero_le _) (vp_nar_int _) (by cases h; exact ⟨rfl, rfl, rfl⟩)
    · refine nd_iload_n dX11_onesOf_8 1 rfl ?_
      refine nd_iconst dX11_onesOf_9 ic_1 ?_
      refine nd_iadd dX11_onesOf_10 ?_
      refine nd_istore_n (ls' := [(2, .int (x2 + (1 : Int32))), (0, .ref 60), (3, .int x3)]) dX11_onesOf_11 (by decide) rfl ?_
      refine nd_iload_n dX11_onesOf_12 2 rfl ?_
      refine nd_iload_n dX11_onesOf_13 2 rfl ?_
      refine nd_iconst dX11_onesOf_14 ic_1 ?_
      refine nd_isub dX11_onesOf_15 ?_
      refine nd_iand dX11_onesOf_16 ?_
      refine nd_istore_n (ls' := [(3, .int (x3 &&& (x3 - (1 : Int32)))), (2, .int (x2 + (1 : Int32))), (0, .ref 60)]) dX11_onesOf_17 (by decide) rfl ?_
      refine nd_goto dX11_onesOf_18 4 (by decide) ?_
      refine nd_sub [2, 1, 0] rfl ?_
      exact hrec4 _ _ _ h
set_option maxRecDepth 100000 in
set_option maxHeartbeats 4000000 in
theorem t_X11_onesOf (F : Nat) (t : List nd_S) (hL : (nd_SH ++ t).length < nd_ro) {z : Int32 × nd_Mem} (x1 : Int32) (σ : nd_Mem) (h : f_X11_onesOf F x1 σ = some z) : nd_Fn M_X11_onesOf (nd_rm 0) [.ref 60, .int x1] (nd_SH ++ t) σ (nd_Pi (nd_SH ++ t) z) := by
  refine nd_Fn.ofV (ls := [(0, .ref 60), (1, .int x1)]) pl_X11_onesOf rfl (fun _ => Nat.le_of_ble_eq_true rfl) (fun _ => rfl) ?_
  unfold f_X11_onesOf at h
  refine nd_iconst dX11_onesOf_0 ic_0 ?_
  refine nd_istore_n (ls' := [(2, .int (0 : Int32)), (0, .ref 60), (1, .int x1)]) dX11_onesOf_1 (by decide) rfl ?_
  refine nd_iload_n dX11_onesOf_2 2 rfl ?_
  refine nd_istore_n (ls' := [(3, .int x1), (2, .int (0 : Int32)), (0, .ref 60), (1, .int x1)]) dX11_onesOf_3 (by decide) rfl ?_
  refine nd_sub [2, 1, 0] rfl ?_
  exact b_X11_onesOf_4 F t hL F _ _ _ h
def f_X11_power_5_b (F : Nat) (rec5 : Int32 → Int32 → Int32 → Int32 → nd_Mem → nd_Res) (x1 : Int32) (x2 : Int32) (x3 : Int32) (x4 : Int32) (σ : nd_Mem) : nd_Res := (if x2 ≤ x4 then (some (x3, σ)) else (rec5 x1 x2 (x3 * x1) (x4 + (1 : Int32)) σ))
def f_X11_power_5 (F : Nat) : Nat → Int32 → Int32 → Int32 → Int32 → nd_Mem → nd_Res
  | 0, _, _, _, _, _ => none
  | m9 + 1, x1, x2, x3, x4, σ => f_X11_power_5_b F (f_X11_power_5 F m9) x1 x2 x3 x4 σ
def f_X11_power (F : Nat) (x1 : Int32) (x2 : Int32) (σ : nd_Mem) : nd_Res := (f_X11_power_5 F F x1 x2 (1 : Int32) (0 : Int32) σ)
set_option maxRecDepth 100000 in
set_option maxHeartbeats 4000000 in
theorem b_X11_power_5 (F : Nat) (t : List nd_S) (hL : (nd_SH ++ t).length < nd_ro) {z : Int32 × nd_Mem} (m9 : Nat) : ∀ (x1 : Int32) (x2 : Int32) (x3 : Int32) (x4 : Int32) (σ : nd_Mem), f_X11_power_5 F m9 x1 x2 x3 x4 σ = some z → nd_V M_X11_power (nd_rm 0) (nd_Pi (nd_SH ++ t) z) 0 0 5 [(0, .ref 60), (1, .int x1), (2, .int x2), (3, .int x3), (4, .int x4)] [] (nd_SH ++ t) σ := by
  induction m9 with
  | zero =>
    intro x1 x2 x3 x4 σ h
    have h : none = some z := h
    cases h
  | succ m9 hrec5 =>
    intro x1 x2 x3 x4 σ h
    have h : f_X11_power_5_b F (f_X11_power_5 F m9) x1 x2 x3 x4 σ = some z := h
    unfold f_X11_power_5_b at h
    refine nd_iload dX11_power_5 4 rfl ?_
    refine nd_iload_n dX11_power_7 2 rfl ?_
    refine nd_icmp_geN dX11_power_8 21 (by decide) h (fun h => ?_) (fun h => ?_)
    · refine nd_iload_n dX11_power_21 3 rfl ?_
      exact nd_iret dX11_power_22 (Nat.zero_le _) (Nat.zero_le _) (vp_nar_int _) (by cases h; exact ⟨rfl, rfl, rfl⟩)
    · refine nd_iload_n dX11_power_11 3 rfl ?_
      refine nd_iload_n dX11_power_12 1 rfl ?_
      refine nd_imul dX11_power_13 ?_
      refine nd_istore_n (ls' := [(3, .int (x3 * x1)), (0, .ref 60), (1, .int x1), (2, .int x2), (4, .int x4)]) dX11_power_14 (by decide) rfl ?_
      refine nd_iinc (v := (x4 + (1 : Int32))) (ls' := [(4, .int (x4 + (1 : Int32))), (3, .int (x3 * x1)), (0, .ref 60), (1, .int x1), (2, .int x2)]) dX11_power_15 4 rfl (congrArg (HAdd.hAdd _) ic_1) (by decide) rfl ?_
      refine nd_goto dX11_power_18 5 (by decide) ?_
      refine nd_sub [2, 3, 4, 1, 0] rfl ?_
      exact hrec5 _ _ _ _ _ h
set_option maxRecDepth 100000 in
set_option maxHeartbeats 4000000 in
theorem t_X11_power (F : Nat) (t : List nd_S) (hL : (nd_SH ++ t).length < nd_ro) {z : Int32 × nd_Mem} (x1 : Int32) (x2 : Int32) (σ : nd_Mem) (h : f_X11_power F x1 x2 σ = some z) : nd_Fn M_X11_power (nd_rm 0) [.ref 60, .int x1, .int x2] (nd_SH ++ t) σ (nd_Pi (nd_SH ++ t) z) := by
  refine nd_Fn.ofV (ls := [(0, .ref 60), (1, .int x1), (2, .int x2)]) pl_X11_power rfl (fun _ => Nat.le_of_ble_eq_true rfl) (fun _ => rfl) ?_
  unfold f_X11_power at h
  refine nd_iconst dX11_power_0 ic_1 ?_
  refine nd_istore_n (ls' := [(3, .int (1 : Int32)), (0, .ref 60), (1, .int x1), (2, .int x2)]) dX11_power_1 (by decide) rfl ?_
  refine nd_iconst dX11_power_2 ic_0 ?_
  refine nd_istore (ls' := [(4, .int (0 : Int32)), (3, .int (1 : Int32)), (0, .ref 60), (1, .int x1), (2, .int x2)]) dX11_power_3 (by decide) rfl ?_
  refine nd_sub [2, 3, 4, 1, 0] rfl ?_
  exact b_X11_power_5 F t hL F _ _ _ _ _ h
def f_X11_pushesAll_144 (F : Nat) (rec32 : Int32 → Int32 → nd_Mem → nd_Res) (rec40 : Int32 → Int32 → Int32 → nd_Mem → nd_Res) (x1 : Int32) (x2 : Int32) (x3 : Int32) (σ : nd_Mem) : nd_Res := (rec40 x1 x2 (x3 + (1 : Int32)) σ)
def f_X11_pushesAll_137 (F : Nat) (rec32 : Int32 → Int32 → nd_Mem → nd_Res) (rec40 : Int32 → Int32 → Int32 → nd_Mem → nd_Res) (x1 : Int32) (x3 : Int32) (x4 : Int32) (σ : nd_Mem) : nd_Res := (f_X11_pushesAll_144 F rec32 rec40 (x1 + x4) (1 : Int32) x3 σ)
def f_X11_pushesAll_108 (F : Nat) (rec32 : Int32 → Int32 → nd_Mem → nd_Res) (rec40 : Int32 → Int32 → Int32 → nd_Mem → nd_Res) (x1 : Int32) (x3 : Int32) (x4 : Int32) (σ : nd_Mem) : nd_Res := (if ((σ 60 50) - (1 : Int32)) ≤ x3 then (f_X11_pushesAll_137 F rec32 rec40 x1 x3 x4 σ) else (if (x3 + (1 : Int32)) < 0 ∨ 10 ≤ ((x3 + (1 : Int32))).toNatClampNeg then none else (if (x3 + (1 : Int32)) < 0 ∨ 10 ≤ ((x3 + (1 : Int32))).toNatClampNeg then none else (nd_let (nd_up σ 90 ((x3 + (1 : Int32))).toNatClampNeg ((σ 90 ((x3 + (1 : Int32))).toNatClampNeg) + x4)) fun σ1 => (f_X11_pushesAll_137 F rec32 rec40 x1 x3 x4 σ1)))))
def f_X11_pushesAll_40_b (F : Nat) (rec32 : Int32 → Int32 → nd_Mem → nd_Res) (rec40 : Int32 → Int32 → Int32 → nd_Mem → nd_Res) (x1 : Int32) (x2 : Int32) (x3 : Int32) (σ : nd_Mem) : nd_Res := (if (σ 60 50) ≤ x3 then (rec32 x1 x2 σ) else (if x3 < 0 ∨ 10 ≤ (x3).toNatClampNeg then none else (if (2 : Int32) ≤ (σ 90 (x3).toNatClampNeg) then (if x3 < 0 ∨ 10 ≤ (x3).toNatClampNeg then none else (if x3 < 0 ∨ 10 ≤ (x3).toNatClampNeg then none else (if x3 < 0 ∨ 10 ≤ (x3).toNatClampNeg then none else (nd_let (nd_up σ 90 (x3).toNatClampNeg (q_rem (σ 90 (x3).toNatClampNeg) (2 : Int32))) fun σ1 => (if x3 ≤ 0 then (f_X11_pushesAll_108 F rec32 rec40 x1 x3 ((σ 90 (x3).toNatClampNeg) / (2 : Int32)) σ1) else (if (x3 - (1 : Int32)) < 0 ∨ 10 ≤ ((x3 - (1 : Int32))).toNatClampNeg then none else (if (x3 - (1 : Int32)) < 0 ∨ 10 ≤ ((x3 - (1 : Int32))).toNatClampNeg then none else (nd_let (nd_up σ1 90 ((x3 - (1 : Int32))).toNatClampNeg ((σ1 90 ((x3 - (1 : Int32))).toNatClampNeg) + ((σ 90 (x3).toNatClampNeg) / (2 : Int32)))) fun σ2 => (f_X11_pushesAll_108 F rec32 rec40 x1 x3 ((σ 90 (x3).toNatClampNeg) / (2 : Int32)) σ2))))))))) else (f_X11_pushesAll_144 F rec32 rec40 x1 x2 x3 σ))))
def f_X11_pushesAll_40 (F : Nat) (rec32 : Int32 → Int32 → nd_Mem → nd_Res) : Nat → Int32 → Int32 → Int32 → nd_Mem → nd_Res
  | 0, _, _, _, _ => none
  | m9 + 1, x1, x2, x3, σ => f_X11_pushesAll_40_b F rec32 (f_X11_pushesAll_40 F rec32 m9) x1 x2 x3 σ
def f_X11_pushesAll_32_b (F : Nat) (rec32 : Int32 → Int32 → nd_Mem → nd_Res) (x1 : Int32) (x2 : Int32) (σ : nd_Mem) : nd_Res := (if x2 = 0 then (some (x1, σ)) else (f_X11_pushesAll_40 F rec32 F x1 (0 : Int32) (0 : Int32) σ))
def f_X11_pushesAll_32 (F : Nat) : Nat → Int32 → Int32 → nd_Mem → nd_Res
  | 0, _, _, _ => none
  | m9 + 1, x1, x2, σ => f_X11_pushesAll_32_b F (f_X11_pushesAll_32 F m9) x1 x2 σ
def f_X11_pushesAll_2_b (F : Nat) (rec2 : Int32 → nd_Mem → nd_Res) (x1 : Int32) (σ : nd_Mem) : nd_Res := (if (σ 60 50) ≤ x1 then (f_X11_pushesAll_32 F F (0 : Int32) (1 : Int32) σ) else (if x1 < 0 ∨ 10 ≤ (x1).toNatClampNeg then none else (if x1 < 0 ∨ 10 ≤ (x1).toNatClampNeg then none else (nd_let (nd_up σ 90 (x1).toNatClampNeg (σ 89 (x1).toNatClampNeg)) fun σ1 => (rec2 (x1 + (1 : Int32)) σ1)))))
def f_X11_pushesAll_2 (F : Nat) : Nat → Int32 → nd_Mem → nd_Res
  | 0, _, _ => none
  | m9 + 1, x1, σ => f_X11_pushesAll_2_b F (f_X11_pushesAll_2 F m9) x1 σ
def f_X11_pushesAll (F : Nat) (σ : nd_Mem) : nd_Res := (f_X11_pushesAll_2 F F (0 : Int32) σ)
set_option maxRecDepth 100000 in
set_option maxHeartbeats 4000000 in
theorem b_X11_pushesAll_144 (F : Nat) (rec32 : Int32 → Int32 → nd_Mem → nd_Res) (rec40 : Int32 → Int32 → Int32 → nd_Mem → nd_Res) (t : List nd_S) (hL : (nd_SH ++ t).length < nd_ro) {z : Int32 × nd_Mem} (hrec32 : ∀ (x1 : Int32) (x2 : Int32) (σ : nd_Mem), rec32 x1 x2 σ = some z → nd_V M_X11_pushesAll (nd_rm 0) (nd_Pi (nd_SH ++ t) z) 0 0 32 [(0, .ref 60), (1, .int x1), (2, .int x2)] [] (nd_SH ++ t) σ) (hrec40 : ∀ (x1 : Int32) (x2 : Int32) (x3 : Int32) (σ : nd_Mem), rec40 x1 x2 x3 σ = some z → nd_V M_X11_pushesAll (nd_rm 0) (nd_Pi (nd_SH ++ t) z) 0 0 40 [(0, .ref 60), (1, .int x1), (2, .int x2), (3, .int x3)] [] (nd_SH ++ t) σ) (x1 : Int32) (x2 : Int32) (x3 : Int32) (σ : nd_Mem) (h : f_X11_pushesAll_144 F rec32 rec40 x1 x2 x3 σ = some z) : nd_V M_X11_pushesAll (nd_rm 0) (nd_Pi (nd_SH ++ t) z) 0 0 144 [(0, .ref 60), (1, .int x1), (2, .int x2), (3, .int x3)] [] (nd_SH ++ t) σ := by
  unfold f_X11_pushesAll_144 at h
  refine nd_iinc (v := (x3 + (1 : Int32))) (ls' := [(3, .int (x3 + (1 : Int32))), (0, .ref 60), (1, .int x1), (2, .int x2)]) dX11_pushesAll_144 3 rfl (congrArg (HAdd.hAdd _) ic_1) (by decide) rfl ?_
  refine nd_goto dX11_pushesAll_147 40 (by decide) ?_
  refine nd_sub [1, 2, 3, 0] rfl ?_
  exact hrec40 _ _ _ _ h
set_option maxRecDepth 100000 in
set_option maxHeartbeats 4000000 in
theorem b_X11_pushesAll_137 (F : Nat) (rec32 : Int32 → Int32 → nd_Mem → nd_Res) (rec40 : Int32 → Int32 → Int32 → nd_Mem → nd_Res) (t : List nd_S) (hL : (nd_SH ++ t).length < nd_ro) {z : Int32 × nd_Mem} (hrec32 : ∀ (x1 : Int32) (x2 : Int32) (σ : nd_Mem), rec32 x1 x2 σ = some z → nd_V M_X11_pushesAll (nd_rm 0) (nd_Pi (nd_SH ++ t) z) 0 0 32 [(0, .ref 60), (1, .int x1), (2, .int x2)] [] (nd_SH ++ t) σ) (hrec40 : ∀ (x1 : Int32) (x2 : Int32) (x3 : Int32) (σ : nd_Mem), rec40 x1 x2 x3 σ = some z → nd_V M_X11_pushesAll (nd_rm 0) (nd_Pi (nd_SH ++ t) z) 0 0 40 [(0, .ref 60), (1, .int x1), (2, .int x2), (3, .int x3)] [] (nd_SH ++ t) σ) (x1 : Int32) (x3 : Int32) (x4 : Int32) (σ : nd_Mem) (h : f_X11_pushesAll_137 F rec32 rec40 x1 x3 x4 σ = some z) : nd_V M_X11_pushesAll (nd_rm 0) (nd_Pi (nd_SH ++ t) z) 0 0 137 [(0, .ref 60), (1, .int x1), (3, .int x3), (4, .int x4)] [] (nd_SH ++ t) σ := by
  unfold f_X11_pushesAll_137 at h
  refine nd_iload_n dX11_pushesAll_137 1 rfl ?_
  refine nd_iload dX11_pushesAll_138 3 rfl ?_
  refine nd_iadd dX11_pushesAll_140 ?_
  refine nd_istore_n (ls' := [(1, .int (x1 + x4)), (0, .ref 60), (3, .int x3), (4, .int x4)]) dX11_pushesAll_141 (by decide) rfl ?_
  refine nd_iconst dX11_pushesAll_142 ic_1 ?_
  refine nd_istore_n (ls' := [(2, .int (1 : Int32)), (1, .int (x1 + x4)), (0, .ref 60), (3, .int x3), (4, .int x4)]) dX11_pushesAll_143 (by decide) rfl ?_
  refine nd_sub [2, 1, 0, 3] rfl ?_
  exact b_X11_pushesAll_144 F _ _ t hL hrec32 hrec40 _ _ _ _ h
set_option maxRecDepth 100000 in
set_option maxHeartbeats 4000000 in
theorem b_X11_pushesAll_108 (F : Nat) (rec32 : Int32 → Int32 → nd_Mem → nd_Res) (rec40 : Int32 → Int32 → Int32 → nd_Mem → nd_Res) (t : List nd_S) (hL : (nd_SH ++ t).length < nd_ro) {z : Int32 × nd_Mem} (hrec32 : ∀ (x1 : Int32) (x2 : Int32) (σ : nd_Mem), rec32 x1 x2 σ = some z → nd_V M_X11_pushesAll (nd_rm 0) (nd_Pi (nd_SH ++ t) z) 0 0 32 [(0, .ref 60), (1, .int x1), (2, .int x2)] [] (nd_SH ++ t) σ) (hrec40 : ∀ (x1 : Int32) (x2 : Int32) (x3 : Int32) (σ : nd_Mem), rec40 x1 x2 x3 σ = some z → nd_V M_X11_pushesAll (nd_rm 0) (nd_Pi (nd_SH ++ t) z) 0 0 40 [(0, .ref 60), (1, .int x1), (2, .int x2), (3, .int x3)] [] (nd_SH ++ t) σ) (x1 : Int32) (x3 : Int32) (x4 : Int32) (σ : nd_Mem) (h : f_X11_pushesAll_108 F rec32 rec40 x1 x3 x4 σ = some z) : nd_V M_X11_pushesAll (nd_rm 0) (nd_Pi (nd_SH ++ t) z) 0 0 108 [(0, .ref 60), (1, .int x1), (3, .int x3), (4, .int x4)] [] (nd_SH ++ t) σ := by
  unfold f_X11_pushesAll_108 at h
  refine nd_iload_n dX11_pushesAll_108 2 rfl ?_
  refine nd_aload_n dX11_pushesAll_109 0 rfl ?_
  refine nd_get dX11_pushesAll_110 gf_X11_414 (sh_60 t) rfl ?_
  refine nd_iconst dX11_pushesAll_113 ic_1 ?_
  refine nd_isub dX11_pushesAll_114 ?_
  refine nd_icmp_geN dX11_pushesAll_115 137 (by decide) h (fun h => ?_) (fun h => ?_)
  · exact b_X11_pushesAll_137 F _ _ t hL hrec32 hrec40 _ _ _ _ h
  · refine nd_aload_n dX11_pushesAll_118 0 rfl ?_
    refine nd_get dX11_pushesAll_119 gf_X11_101 (sh_60 t) rfl ?_
    refine nd_iload_n dX11_pushesAll_122 2 rfl ?_
    refine nd_iconst dX11_pushesAll_123 ic_1 ?_
    refine nd_iadd dX11_pushesAll_124 ?_
    refine nd_aload_n dX11_pushesAll_125 0 rfl ?_
    refine nd_get dX11_pushesAll_126 gf_X11_101 (sh_60 t) rfl ?_
    refine nd_iload_n dX11_pushesAll_129 2 rfl ?_
    refine nd_iconst dX11_pushesAll_130 ic_1 ?_
    refine nd_iadd dX11_pushesAll_131 ?_
    refine nd_ialoadN dX11_pushesAll_132 (sh_90 t) h (fun h => ?_)
    refine nd_iload dX11_pushesAll_133 3 rfl ?_
    refine nd_iadd dX11_pushesAll_135 ?_
    refine nd_iastoreN dX11_pushesAll_136 (sh_90 t) h (fun σ1 h => ?_)
    exact b_X11_pushesAll_137 F _ _ t hL hrec32 hrec40 _ _ _ _ h
set_option maxRecDepth 100000 in
set_option maxHeartbeats 4000000 in
theorem b_X11_pushesAll_40 (F : Nat) (rec32 : Int32 → Int32 → nd_Mem → nd_Res) (t : List nd_S) (hL : (nd_SH ++ t).length < nd_ro) {z : Int32 × nd_Mem} (hrec32 : ∀ (x1 : Int32) (x2 : Int32) (σ : nd_Mem), rec32 x1 x2 σ = some z → nd_V M_X11_pushesAll (nd_rm 0) (nd_Pi (nd_SH ++ t) z) 0 0 32 [(0, .ref 60), (1, .int x1), (2, .int x2)] [] (nd_SH ++ t) σ) (m9 : Nat) : ∀ (x1 : Int32) (x2 : Int32) (x3 : Int32) (σ : nd_Mem), f_X11_pushesAll_40 F rec32 m9 x1 x2 x3 σ = some z → nd_V M_X11_pushesAll (nd_rm 0) (nd_Pi (nd_SH ++ t) z) 0 0 40 [(0, .ref 60), (1, .int x1), (2, .int x2), (3, .int x3)] [] (nd_SH ++ t) σ := by
  induction m9 with
  | zero =>
    intro x1 x2 x3 σ h
    have h : none = some z := h
    cases h
  | succ m9 hrec40 =>
    intro x1 x2 x3 σ h
    have h : f_X11_pushesAll_40_b F rec32 (f_X11_pushesAll_40 F rec32 m9) x1 x2 x3 σ = some z := h
    unfold f_X11_pushesAll_40_b at h
    refine nd_iload_n dX11_pushesAll_40 3 rfl ?_
    refine nd_aload_n dX11_pushesAll_41 0 rfl ?_
    refine nd_get dX11_pushesAll_42 gf_X11_414 (sh_60 t) rfl ?_
    refine nd_icmp_geN dX11_pushesAll_45 150 (by decide) h (fun h => ?_) (fun h => ?_)
    · refine nd_goto dX11_pushesAll_150 32 (by decide) ?_
      refine nd_sub [0, 1, 2] rfl ?_
      exact hrec32 _ _ _ h
    · refine nd_aload_n dX11_pushesAll_48 0 rfl ?_
      refine nd_get dX11_pushesAll_49 gf_X11_101 (sh_60 t) rfl ?_
      refine nd_iload_n dX11_pushesAll_52 3 rfl ?_
      refine nd_ialoadN dX11_pushesAll_53 (sh_90 t) h (fun h => ?_)
      refine nd_iconst dX11_pushesAll_54 ic_2 ?_
      refine nd_icmp_geN dX11_pushesAll_55 61 (by decide) h (fun h => ?_) (fun h => ?_)
      · refine nd_aload_n dX11_pushesAll_61 0 rfl ?_
        refine nd_get dX11_pushesAll_62 gf_X11_101 (sh_60 t) rfl ?_
        refine nd_iload_n dX11_pushesAll_65 3 rfl ?_
        refine nd_ialoadN dX11_pushesAll_66 (sh_90 t) h (fun h => ?_)
        refine nd_iconst dX11_pushesAll_67 ic_2 ?_
        refine nd_idiv dX11_pushesAll_68 (by decide) ?_
        refine nd_istore (ls' := [(4, .int ((σ 90 (x3).toNatClampNeg) / (2 : Int32))), (0, .ref 60), (1, .int x1), (2, .int x2), (3, .int x3)]) dX11_pushesAll_69 (by decide) rfl ?_
        refine nd_aload_n dX11_pushesAll_71 1 rfl ?_
        refine nd_get dX11_pushesAll_72 gf_X11_101 (sh_60 t) rfl ?_
        refine nd_iload_n dX11_pushesAll_75 4 rfl ?_
        refine nd_aload_n dX11_pushesAll_76 1 rfl ?_
        refine nd_get dX11_pushesAll_77 gf_X11_101 (sh_60 t) rfl ?_
        refine nd_iload_n dX11_pushesAll_80 4 rfl ?_
        refine nd_ialoadN dX11_pushesAll_81 (sh_90 t) h (fun h => ?_)
        refine nd_iconst dX11_pushesAll_82 ic_2 ?_
        refine nd_irem dX11_pushesAll_83 (by decide) ?_
        refine nd_iastoreN dX11_pushesAll_84 (sh_90 t) h (fun σ1 h => ?_)
        refine nd_iload_n dX11_pushesAll_85 4 rfl ?_
        refine nd_if_leN dX11_pushesAll_86 108 (by decide) h (fun h => ?_) (fun h => ?_)
        · refine nd_sub [1, 2, 4, 0] rfl ?_
          exact b_X11_pushesAll_108 F _ _ t hL hrec32 hrec40 _ _ _ _ h
        · refine nd_aload_n dX11_pushesAll_89 1 rfl ?_
          refine nd_get dX11_pushesAll_90 gf_X11_101 (sh_60 t) rfl ?_
          refine nd_iload_n dX11_pushesAll_93 4 rfl ?_
          refine nd_iconst dX11_pushesAll_94 ic_1 ?_
          refine nd_isub dX11_pushesAll_95 ?_
          refine nd_aload_n dX11_pushesAll_96 1 rfl ?_
          refine nd_get dX11_pushesAll_97 gf_X11_101 (sh_60 t) rfl ?_
          refine nd_iload_n dX11_pushesAll_100 4 rfl ?_
          refine nd_iconst dX11_pushesAll_101 ic_1 ?_
          refine nd_isub dX11_pushesAll_102 ?_
          refine nd_ialoadN dX11_pushesAll_103 (sh_90 t) h (fun h => ?_)
          refine nd_iload dX11_pushesAll_104 0 rfl ?_
          refine nd_iadd dX11_pushesAll_106 ?_
          refine nd_iastoreN dX11_pushesAll_107 (sh_90 t) h (fun σ2 h => ?_)
          refine nd_sub [1, 2, 4, 0] rfl ?_
          exact b_X11_pushesAll_108 F _ _ t hL hrec32 hrec40 _ _ _ _ h
      · refine nd_goto dX11_pushesAll_58 144 (by decide) ?_
        exact b_X11_pushesAll_144 F _ _ t hL hrec32 hrec40 _ _ _ _ h
set_option maxRecDepth 100000 in
set_option maxHeartbeats 4000000 in
theorem b_X11_pushesAll_32 (F : Nat) (t : List nd_S) (hL : (nd_SH ++ t).length < nd_ro) {z : Int32 × nd_Mem} (m9 : Nat) : ∀ (x1 : Int32) (x2 : Int32) (σ : nd_Mem), f_X11_pushesAll_32 F m9 x1 x2 σ = some z → nd_V M_X11_pushesAll (nd_rm 0) (nd_Pi (nd_SH ++ t) z) 0 0 32 [(0, .ref 60), (1, .int x1), (2, .int x2)] [] (nd_SH ++ t) σ := by
  induction m9 with
  | zero =>
    intro x1 x2 σ h
    have h : none = some z := h
    cases h
  | succ m9 hrec32 =>
    intro x1 x2 σ h
    have h : f_X11_pushesAll_32_b F (f_X11_pushesAll_32 F m9) x1 x2 σ = some z := h
    unfold f_X11_pushesAll_32_b at h
    refine nd_iload_n dX11_pushesAll_32 2 rfl ?_
    refine nd_if_eqN dX11_pushesAll_33 153 (by decide) h (fun h => ?_) (fun h => ?_)
    · refine nd_iload_n dX11_pushesAll_153 1 rfl ?_
      exact nd_iret dX11_pushesAll_154 (Nat.zero_le _) (Nat.zero_le _) (vp_nar_int _) (by cases h; exact ⟨rfl, rfl, rfl⟩)
    · refine nd_iconst dX11_pushesAll_36 ic_0 ?_
      refine nd_istore_n (ls' := [(2, .int (0 : Int32)), (0, .ref 60), (1, .int x1)]) dX11_pushesAll_37 (by decide) rfl ?_
      refine nd_iconst dX11_pushesAll_38 ic_0 ?_
      refine nd_istore_n (ls' := [(3, .int (0 : Int32)), (2, .int (0 : Int32)), (0, .ref 60), (1, .int x1)]) dX11_pushesAll_39 (by decide) rfl ?_
      refine nd_sub [2, 3, 1, 0] rfl ?_
      exact b_X11_pushesAll_40 F _ t hL hrec32 F _ _ _ _ h
set_option maxRecDepth 100000 in
set_option maxHeartbeats 4000000 in
theorem b_X11_pushesAll_2 (F : Nat) (t : List nd_S) (hL : (nd_SH ++ t).length < nd_ro) {z : Int32 × nd_Mem} (m9 : Nat) : ∀ (x1 : Int32) (σ : nd_Mem), f_X11_pushesAll_2 F m9 x1 σ = some z → nd_V M_X11_pushesAll (nd_rm 0) (nd_Pi (nd_SH ++ t) z) 0 0 2 [(0, .ref 60), (1, .int x1)] [] (nd_SH ++ t) σ := by
  induction m9 with
  | zero =>
    intro x1 σ h
    have h : none = some z := h
    cases h
  | succ m9 hrec2 =>
    intro x1 σ h
    have h : f_X11_pushesAll_2_b F (f_X11_pushesAll_2 F m9) x1 σ = some z := h
    unfold f_X11_pushesAll_2_b at h
    refine nd_iload_n dX11_pushesAll_2 1 rfl ?_
    refine nd_aload_n dX11_pushesAll_3 0 rfl ?_
    refine nd_get dX11_pushesAll_4 gf_X11_414 (sh_60 t) rfl ?_
    refine nd_icmp_geN dX11_pushesAll_7 28 (by decide) h (fun h => ?_) (fun h => ?_)
    · refine nd_iconst dX11_pushesAll_28 ic_0 ?_
      refine nd_istore_n (ls' := [(1, .int (0 : Int32)), (0, .ref 60)]) dX11_pushesAll_29 (by decide) rfl ?_
      refine nd_iconst dX11_pushesAll_30 ic_1 ?_
      refine nd_istore_n (ls' := [(2, .int (1 : Int32)), (1, .int (0 : Int32)), (0, .ref 60)]) dX11_pushesAll_31 (by decide) rfl ?_
      refine nd_sub [2, 1, 0] rfl ?_
      exact b_X11_pushesAll_32 F t hL F _ _ _ h
    · refine nd_aload_n dX11_pushesAll_10 0 rfl ?_
      refine nd_get dX11_pushesAll_11 gf_X11_101 (sh_60 t) rfl ?_
      refine nd_iload_n dX11_pushesAll_14 1 rfl ?_
      refine nd_aload_n dX11_pushesAll_15 0 rfl ?_
      refine nd_get dX11_pushesAll_16 gf_X11_98 (sh_60 t) rfl ?_
      refine nd_iload_n dX11_pushesAll_19 1 rfl ?_
      refine nd_ialoadN dX11_pushesAll_20 (sh_89 t) h (fun h => ?_)
      refine nd_iastoreN dX11_pushesAll_21 (sh_90 t) h (fun σ1 h => ?_)
      refine nd_iinc (v := (x1 + (1 : Int32))) (ls' := [(1, .int (x1 + (1 : Int32))), (0, .ref 60)]) dX11_pushesAll_22 1 rfl (congrArg (HAdd.hAdd _) ic_1) (by decide) rfl ?_
      refine nd_goto dX11_pushesAll_25 2 (by decide) ?_
      refine nd_sub [1, 0] rfl ?_
      exact hrec2 _ _ h
set_option maxRecDepth 100000 in
set_option maxHeartbeats 4000000 in
theorem t_X11_pushesAll (F : Nat) (t : List nd_S) (hL : (nd_SH ++ t).length < nd_ro) {z : Int32 × nd_Mem} (σ : nd_Mem) (h : f_X11_pushesAll F σ = some z) : nd_Fn M_X11_pushesAll (nd_rm 0) [.ref 60] (nd_SH ++ t) σ (nd_Pi (nd_SH ++ t) z) := by
  refine nd_Fn.ofV (ls := [(0, .ref 60)]) pl_X11_pushesAll rfl (fun _ => Nat.le_of_ble_eq_true rfl) (fun _ => rfl) ?_
  unfold f_X11_pushesAll at h
  refine nd_iconst dX11_pushesAll_0 ic_0 ?_
  refine nd_istore_n (ls' := [(1, .int (0 : Int32)), (0, .ref 60)]) dX11_pushesAll_1 (by decide) rfl ?_
  refine nd_sub [1, 0] rfl ?_
  exact b_X11_pushesAll_2 F t hL F _ _ h
def f_X11_raw (F : Nat) (x1 : Int32) (σ : nd_Mem) : nd_Res := (if (σ 60 9) ≤ x1 then (some ((-1 : Int32), σ)) else (if x1 < 0 ∨ 400 ≤ (x1).toNatClampNeg then none else (some ((σ 65 (x1).toNatClampNeg), σ))))
set_option maxRecDepth 100000 in
set_option maxHeartbeats 4000000 in
theorem t_X11_raw (F : Nat) (t : List nd_S) (hL : (nd_SH ++ t).length < nd_ro) {z : Int32 × nd_Mem} (x1 : Int32) (σ : nd_Mem) (h : f_X11_raw F x1 σ = some z) : nd_Fn M_X11_raw (nd_rm 0) [.ref 60, .int x1] (nd_SH ++ t) σ (nd_Pi (nd_SH ++ t) z) := by
  refine nd_Fn.ofV (ls := [(0, .ref 60), (1, .int x1)]) pl_X11_raw rfl (fun _ => Nat.le_of_ble_eq_true rfl) (fun _ => rfl) ?_
  unfold f_X11_raw at h
  refine nd_iload_n dX11_raw_0 1 rfl ?_
  refine nd_aload_n dX11_raw_1 0 rfl ?_
  refine nd_get dX11_raw_2 gf_X11_155 (sh_60 t) rfl ?_
  refine nd_icmp_geN dX11_raw_5 17 (by decide) h (fun h => ?_) (fun h => ?_)
  · refine nd_iconst dX11_raw_17 ic_m1 ?_
    exact nd_iret dX11_raw_18 (Nat.zero_le _) (Nat.zero_le _) (vp_nar_int _) (by cases h; exact ⟨rfl, rfl, rfl⟩)
  · refine nd_aload_n dX11_raw_8 0 rfl ?_
    refine nd_get dX11_raw_9 gf_X11_22 (sh_60 t) rfl ?_
    refine nd_iload_n dX11_raw_12 1 rfl ?_
    refine nd_ialoadN dX11_raw_13 (sh_65 t) h (fun h => ?_)
    refine nd_goto dX11_raw_14 18 (by decide) ?_
    exact nd_iret dX11_raw_18 (Nat.zero_le _) (Nat.zero_le _) (vp_nar_int _) (by cases h; exact ⟨rfl, rfl, rfl⟩)
def f_X11_rising_60 (F : Nat) (rec4 : Int32 → Int32 → nd_Mem → nd_Res) (rec21 : Int32 → Int32 → Int32 → nd_Mem → nd_Res) (x1 : Int32) (x2 : Int32) (x3 : Int32) (σ : nd_Mem) : nd_Res := (rec21 x1 x2 (x3 + (1 : Int32)) σ)
def f_X11_rising_21_b (F : Nat) (rec4 : Int32 → Int32 → nd_Mem → nd_Res) (rec21 : Int32 → Int32 → Int32 → nd_Mem → nd_Res) (x1 : Int32) (x2 : Int32) (x3 : Int32) (σ : nd_Mem) : nd_Res := (if x2 ≤ x3 then (if x2 < 0 ∨ 10 ≤ (x2).toNatClampNeg then none else (rec4 (x1 + (σ 97 (x2).toNatClampNeg)) (x2 + (1 : Int32)) σ)) else (if x3 < 0 ∨ 10 ≤ (x3).toNatClampNeg then none else (if x2 < 0 ∨ 10 ≤ (x2).toNatClampNeg then none else (if (σ 96 (x2).toNatClampNeg) ≤ (σ 96 (x3).toNatClampNeg) then (f_X11_rising_60 F rec4 rec21 x1 x2 x3 σ) else (if x2 < 0 ∨ 10 ≤ (x2).toNatClampNeg then none else (if x3 < 0 ∨ 10 ≤ (x3).toNatClampNeg then none else (if x2 < 0 ∨ 10 ≤ (x2).toNatClampNeg then none else (nd_let (nd_up σ 97 (x2).toNatClampNeg ((σ 97 (x2).toNatClampNeg) + (σ 97 (x3).toNatClampNeg))) fun σ1 => (f_X11_rising_60 F rec4 rec21 x1 x2 x3 σ1)))))))))
def f_X11_rising_21 (F : Nat) (rec4 : Int32 → Int32 → nd_Mem → nd_Res) : Nat → Int32 → Int32 → Int32 → nd_Mem → nd_Res
  | 0, _, _, _, _ => none
  | m9 + 1, x1, x2, x3, σ => f_X11_rising_21_b F rec4 (f_X11_rising_21 F rec4 m9) x1 x2 x3 σ
def f_X11_rising_4_b (F : Nat) (rec4 : Int32 → Int32 → nd_Mem → nd_Res) (x1 : Int32) (x2 : Int32) (σ : nd_Mem) : nd_Res := (if (σ 60 61) ≤ x2 then (some (x1, σ)) else (if x2 < 0 ∨ 10 ≤ (x2).toNatClampNeg then none else (nd_let (nd_up σ 97 (x2).toNatClampNeg (1 : Int32)) fun σ1 => (f_X11_rising_21 F rec4 F x1 x2 (0 : Int32) σ1))))
def f_X11_rising_4 (F : Nat) : Nat → Int32 → Int32 → nd_Mem → nd_Res
  | 0, _, _, _ => none
  | m9 + 1, x1, x2, σ => f_X11_rising_4_b F (f_X11_rising_4 F m9) x1 x2 σ
def f_X11_rising (F : Nat) (σ : nd_Mem) : nd_Res := (f_X11_rising_4 F F (0 : Int32) (0 : Int32) σ)
set_option maxRecDepth 100000 in
set_option maxHeartbeats 4000000 in
theorem b_X11_rising_60 (F : Nat) (rec4 : Int32 → Int32 → nd_Mem → nd_Res) (rec21 : Int32 → Int32 → Int32 → nd_Mem → nd_Res) (t : List nd_S) (hL : (nd_SH ++ t).length < nd_ro) {z : Int32 × nd_Mem} (hrec4 : ∀ (x1 : Int32) (x2 : Int32) (σ : nd_Mem), rec4 x1 x2 σ = some z → nd_V M_X11_rising (nd_rm 0) (nd_Pi (nd_SH ++ t) z) 0 0 4 [(0, .ref 60), (1, .int x1), (2, .int x2)] [] (nd_SH ++ t) σ) (hrec21 : ∀ (x1 : Int32) (x2 : Int32) (x3 : Int32) (σ : nd_Mem), rec21 x1 x2 x3 σ = some z → nd_V M_X11_rising (nd_rm 0) (nd_Pi (nd_SH ++ t) z) 0 0 21 [(0, .ref 60), (1, .int x1), (2, .int x2), (3, .int x3)] [] (nd_SH ++ t) σ) (x1 : Int32) (x2 : Int32) (x3 : Int32) (σ : nd_Mem) (h : f_X11_rising_60 F rec4 rec21 x1 x2 x3 σ = some z) : nd_V M_X11_rising (nd_rm 0) (nd_Pi (nd_SH ++ t) z) 0 0 60 [(0, .ref 60), (1, .int x1), (2, .int x2), (3, .int x3)] [] (nd_SH ++ t) σ := by
  unfold f_X11_rising_60 at h
  refine nd_iinc (v := (x3 + (1 : Int32))) (ls' := [(3, .int (x3 + (1 : Int32))), (0, .ref 60), (1, .int x1), (2, .int x2)]) dX11_rising_60 3 rfl (congrArg (HAdd.hAdd _) ic_1) (by decide) rfl ?_
  refine nd_goto dX11_rising_63 21 (by decide) ?_
  refine nd_sub [1, 2, 3, 0] rfl ?_
  exact hrec21 _ _ _ _ h
set_option maxRecDepth 100000 in
set_option maxHeartbeats 4000000 in
theorem b_X11_rising_21 (F : Nat) (rec4 : Int32 → Int32 → nd_Mem → nd_Res) (t : List nd_S) (hL : (nd_SH ++ t).length < nd_ro) {z : Int32 × nd_Mem} (hrec4 : ∀ (x1 : Int32) (x2 : Int32) (σ : nd_Mem), rec4 x1 x2 σ = some z → nd_V M_X11_rising (nd_rm 0) (nd_Pi (nd_SH ++ t) z) 0 0 4 [(0, .ref 60), (1, .int x1), (2, .int x2)] [] (nd_SH ++ t) σ) (m9 : Nat) : ∀ (x1 : Int32) (x2 : Int32) (x3 : Int32) (σ : nd_Mem), f_X11_rising_21 F rec4 m9 x1 x2 x3 σ = some z → nd_V M_X11_rising (nd_rm 0) (nd_Pi (nd_SH ++ t) z) 0 0 21 [(0, .ref 60), (1, .int x1), (2, .int x2), (3, .int x3)] [] (nd_SH ++ t) σ := by
  induction m9 with
  | zero =>
    intro x1 x2 x3 σ h
    have h : none = some z := h
    cases h
  | succ m9 hrec21 =>
    intro x1 x2 x3 σ h
    have h : f_X11_rising_21_b F rec4 (f_X11_rising_21 F rec4 m9) x1 x2 x3 σ = some z := h
    unfold f_X11_rising_21_b at h
    refine nd_iload_n dX11_rising_21 3 rfl ?_
    refine nd_iload_n dX11_rising_22 2 rfl ?_
    refine nd_icmp_geN dX11_rising_23 66 (by decide) h (fun h => ?_) (fun h => ?_)
    · refine nd_iload_n dX11_rising_66 1 rfl ?_
      refine nd_aload_n dX11_rising_67 0 rfl ?_
      refine nd_get dX11_rising_68 gf_X11_122 (sh_60 t) rfl ?_
      refine nd_iload_n dX11_rising_71 2 rfl ?_
      refine nd_ialoadN dX11_rising_72 (sh_97 t) h (fun h => ?_)
      refine nd_iadd dX11_rising_73 ?_
      refine nd_istore_n (ls' := [(1, .int (x1 + (σ 97 (x2).toNatClampNeg))), (0, .ref 60), (2, .int x2), (3, .int x3)]) dX11_rising_74 (by decide) rfl ?_
      refine nd_iinc (v := (x2 + (1 : Int32))) (ls' := [(2, .int (x2 + (1 : Int32))), (1, .int (x1 + (σ 97 (x2).toNatClampNeg))), (0, .ref 60), (3, .int x3)]) dX11_rising_75 2 rfl (congrArg (HAdd.hAdd _) ic_1) (by decide) rfl ?_
      refine nd_goto dX11_rising_78 4 (by decide) ?_
      refine nd_sub [2, 1, 0] rfl ?_
      exact hrec4 _ _ _ h
    · refine nd_aload_n dX11_rising_26 0 rfl ?_
      refine nd_get dX11_rising_27 gf_X11_119 (sh_60 t) rfl ?_
      refine nd_iload_n dX11_rising_30 3 rfl ?_
      refine nd_ialoadN dX11_rising_31 (sh_96 t) h (fun h => ?_)
      refine nd_aload_n dX11_rising_32 0 rfl ?_
      refine nd_get dX11_rising_33 gf_X11_119 (sh_60 t) rfl ?_
      refine nd_iload_n dX11_rising_36 2 rfl ?_
      refine nd_ialoadN dX11_rising_37 (sh_96 t) h (fun h => ?_)
      refine nd_icmp_geN dX11_rising_38 60 (by decide) h (fun h => ?_) (fun h => ?_)
      · exact b_X11_rising_60 F _ _ t hL hrec4 hrec21 _ _ _ _ h
      · refine nd_aload_n dX11_rising_41 0 rfl ?_
        refine nd_get dX11_rising_42 gf_X11_122 (sh_60 t) rfl ?_
        refine nd_iload_n dX11_rising_45 2 rfl ?_
        refine nd_aload_n dX11_rising_46 0 rfl ?_
        refine nd_get dX11_rising_47 gf_X11_122 (sh_60 t) rfl ?_
        refine nd_iload_n dX11_rising_50 2 rfl ?_
        refine nd_ialoadN dX11_rising_51 (sh_97 t) h (fun h => ?_)
        refine nd_aload_n dX11_rising_52 0 rfl ?_
        refine nd_get dX11_rising_53 gf_X11_122 (sh_60 t) rfl ?_
        refine nd_iload_n dX11_rising_56 3 rfl ?_
        refine nd_ialoadN dX11_rising_57 (sh_97 t) h (fun h => ?_)
        refine nd_iadd dX11_rising_58 ?_
        refine nd_iastoreN dX11_rising_59 (sh_97 t) h (fun σ1 h => ?_)
        exact b_X11_rising_60 F _ _ t hL hrec4 hrec21 _ _ _ _ h
set_option maxRecDepth 100000 in
set_option maxHeartbeats 4000000 in
theorem b_X11_rising_4 (F : Nat) (t : List nd_S) (hL : (nd_SH ++ t).length < nd_ro) {z : Int32 × nd_Mem} (m9 : Nat) : ∀ (x1 : Int32) (x2 : Int32) (σ : nd_Mem), f_X11_rising_4 F m9 x1 x2 σ = some z → nd_V M_X11_rising (nd_rm 0) (nd_Pi (nd_SH ++ t) z) 0 0 4 [(0, .ref 60), (1, .int x1), (2, .int x2)] [] (nd_SH ++ t) σ := by
  induction m9 with
  | zero =>
    intro x1 x2 σ h
    have h : none = some z := h
    cases h
  | succ m9 hrec4 =>
    intro x1 x2 σ h
    have h : f_X11_rising_4_b F (f_X11_rising_4 F m9) x1 x2 σ = some z := h
    unfold f_X11_rising_4_b at h
    refine nd_iload_n dX11_rising_4 2 rfl ?_
    refine nd_aload_n dX11_rising_5 0 rfl ?_
    refine nd_get dX11_rising_6 gf_X11_461 (sh_60 t) rfl ?_
    refine nd_icmp_geN dX11_rising_9 81 (by decide) h (fun h => ?_) (fun h => ?_)
    · refine nd_iload_n dX11_rising_81 1 rfl ?_
      exact nd_iret dX11_rising_82 (Nat.zero_le _) (Nat.zero_le _) (vp_nar_int _) (by cases h; exact ⟨rfl, rfl, rfl⟩)
    · refine nd_aload_n dX11_rising_12 0 rfl ?_
      refine nd_get dX11_rising_13 gf_X11_122 (sh_60 t) rfl ?_
      refine nd_iload_n dX11_rising_16 2 rfl ?_
      refine nd_iconst dX11_rising_17 ic_1 ?_
      refine nd_iastoreN dX11_rising_18 (sh_97 t) h (fun σ1 h => ?_)
      refine nd_iconst dX11_rising_19 ic_0 ?_
      refine nd_istore_n (ls' := [(3, .int (0 : Int32)), (0, .ref 60), (1, .int x1), (2, .int x2)]) dX11_rising_20 (by decide) rfl ?_
      refine nd_sub [1, 2, 3, 0] rfl ?_
      exact b_X11_rising_21 F _ t hL hrec4 F _ _ _ _ h
set_option maxRecDepth 100000 in
set_option maxHeartbeats 4000000 in
theorem t_X11_rising (F : Nat) (t : List nd_S) (hL : (nd_SH ++ t).length < nd_ro) {z : Int32 × nd_Mem} (σ : nd_Mem) (h : f_X11_rising F σ = some z) : nd_Fn M_X11_rising (nd_rm 0) [.ref 60] (nd_SH ++ t) σ (nd_Pi (nd_SH ++ t) z) := by
  refine nd_Fn.ofV (ls := [(0, .ref 60)]) pl_X11_rising rfl (fun _ => Nat.le_of_ble_eq_true rfl) (fun _ => rfl) ?_
  unfold f_X11_rising at h
  refine nd_iconst dX11_rising_0 ic_0 ?_
  refine nd_istore_n (ls' := [(1, .int (0 : Int32)), (0, .ref 60)]) dX11_rising_1 (by decide) rfl ?_
  refine nd_iconst dX11_rising_2 ic_0 ?_
  refine nd_istore_n (ls' := [(2, .int (0 : Int32)), (1, .int (0 : Int32)), (0, .ref 60)]) dX11_rising_3 (by decide) rfl ?_
  refine nd_sub [2, 1, 0] rfl ?_
  exact b_X11_rising_4 F t hL F _ _ _ h
def f_X11_state (F : Nat) (x1 : Int32) (σ : nd_Mem) : nd_Res := (nd_let (nd_up σ 60 0 (0 : Int32)) fun σ1 => (if (1 : Int32) < 0 ∨ 103 ≤ ((1 : Int32)).toNatClampNeg then none else (if (1 : Int32) < 0 ∨ 103 ≤ ((1 : Int32)).toNatClampNeg then none else (nd_let (nd_up σ1 61 ((1 : Int32)).toNatClampNeg x1) fun σ2 => (nd_let (nd_up σ2 60 3 (0 : Int32)) fun σ3 => (some ((σ1 61 ((1 : Int32)).toNatClampNeg), σ3)))))))
set_option maxRecDepth 100000 in
set_option maxHeartbeats 4000000 in
theorem t_X11_state (F : Nat) (t : List nd_S) (hL : (nd_SH ++ t).length < nd_ro) {z : Int32 × nd_Mem} (x1 : Int32) (σ : nd_Mem) (h : f_X11_state F x1 σ = some z) : nd_Fn M_X11_state (nd_rm 0) [.ref 60, .int x1] (nd_SH ++ t) σ (nd_Pi (nd_SH ++ t) z) := by
  refine nd_Fn.ofV (ls := [(0, .ref 60), (1, .int x1)]) pl_X11_state rfl (fun _ => Nat.le_of_ble_eq_true rfl) (fun _ => rfl) ?_
  unfold f_X11_state at h
  refine nd_aload_n dX11_state_0 0 rfl ?_
  refine nd_iconst dX11_state_1 ic_0 ?_
  refine nd_putiN dX11_state_2 pf_X11_132 (sh_60 t) rfl h (fun σ1 h => ?_)
  refine nd_aload_n dX11_state_5 0 rfl ?_
  refine nd_get dX11_state_6 gf_X11_7 (sh_60 t) rfl ?_
  refine nd_iconst dX11_state_9 ic_1 ?_
  refine nd_ialoadN dX11_state_10 (sh_61 t) h (fun h => ?_)
  refine nd_istore_n (ls' := [(2, .int (σ1 61 ((1 : Int32)).toNatClampNeg)), (0, .ref 60), (1, .int x1)]) dX11_state_11 (by decide) rfl ?_
  refine nd_aload_n dX11_state_12 1 rfl ?_
  refine nd_get dX11_state_13 gf_X11_7 (sh_60 t) rfl ?_
  refine nd_iconst dX11_state_16 ic_1 ?_
  refine nd_iload_n dX11_state_17 2 rfl ?_
  refine nd_iastoreN dX11_state_18 (sh_61 t) h (fun σ2 h => ?_)
  refine nd_aload_n dX11_state_19 1 rfl ?_
  refine nd_iconst dX11_state_20 ic_0 ?_
  refine nd_putiN dX11_state_21 pf_X11_135 (sh_60 t) rfl h (fun σ3 h => ?_)
  refine nd_iload_n dX11_state_24 0 rfl ?_
  exact nd_iret dX11_state_25 (Nat.zero_le _) (Nat.zero_le _) (vp_nar_int _) (by cases h; exact ⟨rfl, rfl, rfl⟩)
def f_X11_takesLaw_107_b (F : Nat) (rec107 : Int32 → Int32 → nd_Mem → nd_Res) (x1 : Int32) (x2 : Int32) (σ : nd_Mem) : nd_Res := (if (σ 60 23) ≤ x2 then (if (σ 60 22) < 0 ∨ 2 ≤ ((σ 60 22)).toNatClampNeg then none else (nd_let (nd_up σ 67 ((σ 60 22)).toNatClampNeg x1) fun σ1 => (some (0, σ1)))) else (if ((800 : Int32) + x2) < 0 ∨ 1200 ≤ (((800 : Int32) + x2)).toNatClampNeg then none else (if (((400 : Int32) * (σ 60 22)) + x2) < 0 ∨ 1200 ≤ ((((400 : Int32) * (σ 60 22)) + x2)).toNatClampNeg then none else (nd_let (nd_up σ 72 ((((400 : Int32) * (σ 60 22)) + x2)).toNatClampNeg (σ 72 (((800 : Int32) + x2)).toNatClampNeg)) fun σ2 => (if ((800 : Int32) + x2) < 0 ∨ 1200 ≤ (((800 : Int32) + x2)).toNatClampNeg then none else (if (((400 : Int32) * (σ2 60 22)) + x2) < 0 ∨ 1200 ≤ ((((400 : Int32) * (σ2 60 22)) + x2)).toNatClampNeg then none else (nd_let (nd_up σ2 73 ((((400 : Int32) * (σ2 60 22)) + x2)).toNatClampNeg (σ2 73 (((800 : Int32) + x2)).toNatClampNeg)) fun σ3 => (rec107 x1 (x2 + (1 : Int32)) σ3))))))))
def f_X11_takesLaw_107 (F : Nat) : Nat → Int32 → Int32 → nd_Mem → nd_Res
  | 0, _, _, _ => none
  | m9 + 1, x1, x2, σ => f_X11_takesLaw_107_b F (f_X11_takesLaw_107 F m9) x1 x2 σ
def f_X11_takesLaw_2_b (F : Nat) (rec2 : Int32 → Int32 → nd_Mem → nd_Res) (x1 : Int32) (x2 : Int32) (σ : nd_Mem) : nd_Res := (if x1 ≤ x2 then (f_X11_takesLaw_107 F F x1 (0 : Int32) σ) else (if ((32 : Int32) + x2) < 0 ∨ 48 ≤ (((32 : Int32) + x2)).toNatClampNeg then none else (if (((16 : Int32) * (σ 60 22)) + x2) < 0 ∨ 48 ≤ ((((16 : Int32) * (σ 60 22)) + x2)).toNatClampNeg then none else (nd_let (nd_up σ 68 ((((16 : Int32) * (σ 60 22)) + x2)).toNatClampNeg (σ 68 (((32 : Int32) + x2)).toNatClampNeg)) fun σ1 => (if ((32 : Int32) + x2) < 0 ∨ 48 ≤ (((32 : Int32) + x2)).toNatClampNeg then none else (if (((16 : Int32) * (σ1 60 22)) + x2) < 0 ∨ 48 ≤ ((((16 : Int32) * (σ1 60 22)) + x2)).toNatClampNeg then none else (nd_let (nd_up σ1 69 ((((16 : Int32) * (σ1 60 22)) + x2)).toNatClampNeg (σ1 69 (((32 : Int32) + x2)).toNatClampNeg)) fun σ2 => (if ((32 : Int32) + x2) < 0 ∨ 48 ≤ (((32 : Int32) + x2)).toNatClampNeg then none else (if (((16 : Int32) * (σ2 60 22)) + x2) < 0 ∨ 48 ≤ ((((16 : Int32) * (σ2 60 22)) + x2)).toNatClampNeg then none else (nd_let (nd_up σ2 70 ((((16 : Int32) * (σ2 60 22)) + x2)).toNatClampNeg (σ2 70 (((32 : Int32) + x2)).toNatClampNeg)) fun σ3 => (if ((32 : Int32) + x2) < 0 ∨ 48 ≤ (((32 : Int32) + x2)).toNatClampNeg then none else (if (((16 : Int32) * (σ3 60 22)) + x2) < 0 ∨ 48 ≤ ((((16 : Int32) * (σ3 60 22)) + x2)).toNatClampNeg then none else (nd_let (nd_up σ3 71 ((((16 : Int32) * (σ3 60 22)) + x2)).toNatClampNeg (σ3 71 (((32 : Int32) + x2)).toNatClampNeg)) fun σ4 => (rec2 x1 (x2 + (1 : Int32)) σ4))))))))))))))
def f_X11_takesLaw_2 (F : Nat) : Nat → Int32 → Int32 → nd_Mem → nd_Res
  | 0, _, _, _ => none
  | m9 + 1, x1, x2, σ => f_X11_takesLaw_2_b F (f_X11_takesLaw_2 F m9) x1 x2 σ
def f_X11_takesLaw (F : Nat) (x1 : Int32) (σ : nd_Mem) : nd_Res := (f_X11_takesLaw_2 F F x1 (0 : Int32) σ)
set_option maxRecDepth 100000 in
set_option maxHeartbeats 4000000 in
theorem b_X11_takesLaw_107 (F : Nat) (t : List nd_S) (hL : (nd_SH ++ t).length < nd_ro) {z : Int32 × nd_Mem} (m9 : Nat) : ∀ (x1 : Int32) (x2 : Int32) (σ : nd_Mem), f_X11_takesLaw_107 F m9 x1 x2 σ = some z → nd_V M_X11_takesLaw (nd_rm 0) (nd_Pv (nd_SH ++ t) z) 0 0 107 [(0, .ref 60), (1, .int x1), (2, .int x2)] [] (nd_SH ++ t) σ := by
  induction m9 with
  | zero =>
    intro x1 x2 σ h
    have h : none = some z := h
    cases h
  | succ m9 hrec107 =>
    intro x1 x2 σ h
    have h : f_X11_takesLaw_107_b F (f_X11_takesLaw_107 F m9) x1 x2 σ = some z := h
    unfold f_X11_takesLaw_107_b at h
    refine nd_iload_n dX11_takesLaw_107 2 rfl ?_
    refine nd_aload_n dX11_takesLaw_108 0 rfl ?_
    refine nd_get dX11_takesLaw_109 gf_X11_197 (sh_60 t) rfl ?_
    refine nd_icmp_geN dX11_takesLaw_112 171 (by decide) h (fun h => ?_) (fun h => ?_)
    · refine nd_aload_n dX11_takesLaw_171 0 rfl ?_
      refine nd_get dX11_takesLaw_172 gf_X11_28 (sh_60 t) rfl ?_
      refine nd_aload_n dX11_takesLaw_175 0 rfl ?_
      refine nd_get dX11_takesLaw_176 gf_X11_251 (sh_60 t) rfl ?_
      refine nd_iload_n dX11_takesLaw_179 1 rfl ?_
      refine nd_iastoreN dX11_takesLaw_180 (sh_67 t) h (fun σ1 h => ?_)
      exact nd_vret dX11_takesLaw_181 (Nat.zero_le _) (Nat.zero_le _) trivial (by cases h; exact ⟨rfl, rfl, rfl⟩)
    · refine nd_aload_n dX11_takesLaw_115 0 rfl ?_
      refine nd_get dX11_takesLaw_116 gf_X11_43 (sh_60 t) rfl ?_
      refine nd_sipush dX11_takesLaw_119 is_400 ?_
      refine nd_aload_n dX11_takesLaw_122 0 rfl ?_
      refine nd_get dX11_takesLaw_123 gf_X11_251 (sh_60 t) rfl ?_
      refine nd_imul dX11_takesLaw_126 ?_
      refine nd_iload_n dX11_takesLaw_127 2 rfl ?_
      refine nd_iadd dX11_takesLaw_128 ?_
      refine nd_aload_n dX11_takesLaw_129 0 rfl ?_
      refine nd_get dX11_takesLaw_130 gf_X11_43 (sh_60 t) rfl ?_
      refine nd_sipush dX11_takesLaw_133 is_800 ?_
      refine nd_iload_n dX11_takesLaw_136 2 rfl ?_
      refine nd_iadd dX11_takesLaw_137 ?_
      refine nd_ialoadN dX11_takesLaw_138 (sh_72 t) h (fun h => ?_)
      refine nd_iastoreN dX11_takesLaw_139 (sh_72 t) h (fun σ2 h => ?_)
      refine nd_aload_n dX11_takesLaw_140 0 rfl ?_
      refine nd_get dX11_takesLaw_141 gf_X11_46 (sh_60 t) rfl ?_
      refine nd_sipush dX11_takesLaw_144 is_400 ?_
      refine nd_aload_n dX11_takesLaw_147 0 rfl ?_
      refine nd_get dX11_takesLaw_148 gf_X11_251 (sh_60 t) rfl ?_
      refine nd_imul dX11_takesLaw_151 ?_
      refine nd_iload_n dX11_takesLaw_152 2 rfl ?_
      refine nd_iadd dX11_takesLaw_153 ?_
      refine nd_aload_n dX11_takesLaw_154 0 rfl ?_
      refine nd_get dX11_takesLaw_155 gf_X11_46 (sh_60 t) rfl ?_
      refine nd_sipush dX11_takesLaw_158 is_800 ?_
      refine nd_iload_n dX11_takesLaw_161 2 rfl ?_
      refine nd_iadd dX11_takesLaw_162 ?_
      refine nd_ialoadN dX11_takesLaw_163 (sh_73 t) h (fun h => ?_)
      refine nd_iastoreN dX11_takesLaw_164 (sh_73 t) h (fun σ3 h => ?_)
      refine nd_iinc (v := (x2 + (1 : Int32))) (ls' := [(2, .int (x2 + (1 : Int32))), (0, .ref 60), (1, .int x1)]) dX11_takesLaw_165 2 rfl (congrArg (HAdd.hAdd _) ic_1) (by decide) rfl ?_
      refine nd_goto dX11_takesLaw_168 107 (by decide) ?_
      refine nd_sub [1, 2, 0] rfl ?_
      exact hrec107 _ _ _ h
set_option maxRecDepth 100000 in
set_option maxHeartbeats 4000000 in
theorem b_X11_takesLaw_2 (F : Nat) (t : List nd_S) (hL : (nd_SH ++ t).length < nd_ro) {z : Int32 × nd_Mem} (m9 : Nat) : ∀ (x1 : Int32) (x2 : Int32) (σ : nd_Mem), f_X11_takesLaw_2 F m9 x1 x2 σ = some z → nd_V M_X11_takesLaw (nd_rm 0) (nd_Pv (nd_SH ++ t) z) 0 0 2 [(0, .ref 60), (1, .int x1), (2, .int x2)] [] (nd_SH ++ t) σ := by
  induction m9 with
  | zero =>
    intro x1 x2 σ h
    have h : none = some z := h
    cases h
  | succ m9 hrec2 =>
    intro x1 x2 σ h
    have h : f_X11_takesLaw_2_b F (f_X11_takesLaw_2 F m9) x1 x2 σ = some z := h
    unfold f_X11_takesLaw_2_b at h
    refine nd_iload_n dX11_takesLaw_2 2 rfl ?_
    refine nd_iload_n dX11_takesLaw_3 1 rfl ?_
    refine nd_icmp_geN dX11_takesLaw_4 105 (by decide) h (fun h => ?_) (fun h => ?_)
    · refine nd_iconst dX11_takesLaw_105 ic_0 ?_
      refine nd_istore_n (ls' := [(2, .int (0 : Int32)), (0, .ref 60), (1, .int x1)]) dX11_takesLaw_106 (by decide) rfl ?_
      refine nd_sub [1, 2, 0] rfl ?_
      exact b_X11_takesLaw_107 F t hL F _ _ _ h
    · refine nd_aload_n dX11_takesLaw_7 0 rfl ?_
      refine nd_get dX11_takesLaw_8 gf_X11_31 (sh_60 t) rfl ?_
      refine nd_bipush dX11_takesLaw_11 ib_16 ?_
      refine nd_aload_n dX11_takesLaw_13 0 rfl ?_
      refine nd_get dX11_takesLaw_14 gf_X11_251 (sh_60 t) rfl ?_
      refine nd_imul dX11_takesLaw_17 ?_
      refine nd_iload_n dX11_takesLaw_18 2 rfl ?_
      refine nd_iadd dX11_takesLaw_19 ?_
      refine nd_aload_n dX11_takesLaw_20 0 rfl ?_
      refine nd_get dX11_takesLaw_21 gf_X11_31 (sh_60 t) rfl ?_
      refine nd_bipush dX11_takesLaw_24 ib_32 ?_
      refine nd_iload_n dX11_takesLaw_26 2 rfl ?_
      refine nd_iadd dX11_takesLaw_27 ?_
      refine nd_ialoadN dX11_takesLaw_28 (sh_68 t) h (fun h => ?_)
      refine nd_iastoreN dX11_takesLaw_29 (sh_68 t) h (fun σ1 h => ?_)
      refine nd_aload_n dX11_takesLaw_30 0 rfl ?_
      refine nd_get dX11_takesLaw_31 gf_X11_34 (sh_60 t) rfl ?_
      refine nd_bipush dX11_takesLaw_34 ib_16 ?_
      refine nd_aload_n dX11_takesLaw_36 0 rfl ?_
      refine nd_get dX11_takesLaw_37 gf_X11_251 (sh_60 t) rfl ?_
      refine nd_imul dX11_takesLaw_40 ?_
      refine nd_iload_n dX11_takesLaw_41 2 rfl ?_
      refine nd_iadd dX11_takesLaw_42 ?_
      refine nd_aload_n dX11_takesLaw_43 0 rfl ?_
      refine nd_get dX11_takesLaw_44 gf_X11_34 (sh_60 t) rfl ?_
      refine nd_bipush dX11_takesLaw_47 ib_32 ?_
      refine nd_iload_n dX11_takesLaw_49 2 rfl ?_
      refine nd_iadd dX11_takesLaw_50 ?_
      refine nd_ialoadN dX11_takesLaw_51 (sh_69 t) h (fun h => ?_)
      refine nd_iastoreN dX11_takesLaw_52 (sh_69 t) h (fun σ2 h => ?_)
      refine nd_aload_n dX11_takesLaw_53 0 rfl ?_
      refine nd_get dX11_takesLaw_54 gf_X11_37 (sh_60 t) rfl ?_
      refine nd_bipush dX11_takesLaw_57 ib_16 ?_
      refine nd_aload_n dX11_takesLaw_59 0 rfl ?_
      refine nd_get dX11_takesLaw_60 gf_X11_251 (sh_60 t) rfl ?_
      refine nd_imul dX11_takesLaw_63 ?_
      refine nd_iload_n dX11_takesLaw_64 2 rfl ?_
      refine nd_iadd dX11_takesLaw_65 ?_
      refine nd_aload_n dX11_takesLaw_66 0 rfl ?_
      refine nd_get dX11_takesLaw_67 gf_X11_37 (sh_60 t) rfl ?_
      refine nd_bipush dX11_takesLaw_70 ib_32 ?_
      refine nd_iload_n dX11_takesLaw_72 2 rfl ?_
      refine nd_iadd dX11_takesLaw_73 ?_
      refine nd_ialoadN dX11_takesLaw_74 (sh_70 t) h (fun h => ?_)
      refine nd_iastoreN dX11_takesLaw_75 (sh_70 t) h (fun σ3 h => ?_)
      refine nd_aload_n dX11_takesLaw_76 0 rfl ?_
      refine nd_get dX11_takesLaw_77 gf_X11_40 (sh_60 t) rfl ?_
      refine nd_bipush dX11_takesLaw_80 ib_16 ?_
      refine nd_aload_n dX11_takesLaw_82 0 rfl ?_
      refine nd_get dX11_takesLaw_83 gf_X11_251 (sh_60 t) rfl ?_
      refine nd_imul dX11_takesLaw_86 ?_
      refine nd_iload_n dX11_takesLaw_87 2 rfl ?_
      refine nd_iadd dX11_takesLaw_88 ?_
      refine nd_aload_n dX11_takesLaw_89 0 rfl ?_
      refine nd_get dX11_takesLaw_90 gf_X11_40 (sh_60 t) rfl ?_
      refine nd_bipush dX11_takesLaw_93 ib_32 ?_
      refine nd_iload_n dX11_takesLaw_95 2 rfl ?_
      refine nd_iadd dX11_takesLaw_96 ?_
      refine nd_ialoadN dX11_takesLaw_97 (sh_71 t) h (fun h => ?_)
      refine nd_iastoreN dX11_takesLaw_98 (sh_71 t) h (fun σ4 h => ?_)
      refine nd_iinc (v := (x2 + (1 : Int32))) (ls' := [(2, .int (x2 + (1 : Int32))), (0, .ref 60), (1, .int x1)]) dX11_takesLaw_99 2 rfl (congrArg (HAdd.hAdd _) ic_1) (by decide) rfl ?_
      refine nd_goto dX11_takesLaw_102 2 (by decide) ?_
      refine nd_sub [1, 2, 0] rfl ?_
      exact hrec2 _ _ _ h
set_option maxRecDepth 100000 in
set_option maxHeartbeats 4000000 in
theorem t_X11_takesLaw (F : Nat) (t : List nd_S) (hL : (nd_SH ++ t).length < nd_ro) {z : Int32 × nd_Mem} (x1 : Int32) (σ : nd_Mem) (h : f_X11_takesLaw F x1 σ = some z) : nd_Fn M_X11_takesLaw (nd_rm 0) [.ref 60, .int x1] (nd_SH ++ t) σ (nd_Pv (nd_SH ++ t) z) := by
  refine nd_Fn.ofV (ls := [(0, .ref 60), (1, .int x1)]) pl_X11_takesLaw rfl (fun _ => Nat.le_of_ble_eq_true rfl) (fun _ => rfl) ?_
  unfold f_X11_takesLaw at h
  refine nd_iconst dX11_takesLaw_0 ic_0 ?_
  refine nd_istore_n (ls' := [(2, .int (0 : Int32)), (0, .ref 60), (1, .int x1)]) dX11_takesLaw_1 (by decide) rfl ?_
  refine nd_sub [1, 2, 0] rfl ?_
  exact b_X11_takesLaw_2 F t hL F _ _ _ h
