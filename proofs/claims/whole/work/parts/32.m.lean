def f_X11_takesOther_88 (F : Nat) (rec42 : Int32 → Int32 → Int32 → nd_Mem → nd_Res) (x1 : Int32) (x2 : Int32) (x3 : Int32) (σ : nd_Mem) : nd_Res := (rec42 x1 x2 (x3 + (1 : Int32)) σ)
def f_X11_takesOther_68 (F : Nat) (rec42 : Int32 → Int32 → Int32 → nd_Mem → nd_Res) (x1 : Int32) (x2 : Int32) (x3 : Int32) (σ : nd_Mem) : nd_Res := (if x1 = (3 : Int32) then (if ((16 : Int32) + x3) < 0 ∨ 32 ≤ (((16 : Int32) + x3)).toNatClampNeg then none else (if x3 < 0 ∨ 32 ≤ (x3).toNatClampNeg then none else (nd_let (nd_up σ 77 (x3).toNatClampNeg (σ 77 (((16 : Int32) + x3)).toNatClampNeg)) fun σ1 => (f_X11_takesOther_88 F rec42 x1 x2 x3 σ1)))) else (f_X11_takesOther_88 F rec42 x1 x2 x3 σ))
def f_X11_takesOther_114 (F : Nat) (σ : nd_Mem) : nd_Res := (nd_let (nd_up σ 60 3 (0 : Int32)) fun σ1 => (some (0, σ1)))
def f_X11_takesOther_104 (F : Nat) (x1 : Int32) (x2 : Int32) (σ : nd_Mem) : nd_Res := (if x1 = (3 : Int32) then (nd_let (nd_up σ 60 35 x2) fun σ1 => (f_X11_takesOther_114 F σ1)) else (f_X11_takesOther_114 F σ))
def f_X11_takesOther_42_b (F : Nat) (rec42 : Int32 → Int32 → Int32 → nd_Mem → nd_Res) (x1 : Int32) (x2 : Int32) (x3 : Int32) (σ : nd_Mem) : nd_Res := (if (16 : Int32) ≤ x3 then (if x1 = (2 : Int32) then (nd_let (nd_up σ 60 33 x2) fun σ1 => (f_X11_takesOther_104 F x1 x2 σ1)) else (f_X11_takesOther_104 F x1 x2 σ)) else (if x1 = (2 : Int32) then (if ((16 : Int32) + x3) < 0 ∨ 32 ≤ (((16 : Int32) + x3)).toNatClampNeg then none else (if x3 < 0 ∨ 32 ≤ (x3).toNatClampNeg then none else (nd_let (nd_up σ 76 (x3).toNatClampNeg (σ 76 (((16 : Int32) + x3)).toNatClampNeg)) fun σ2 => (f_X11_takesOther_68 F rec42 x1 x2 x3 σ2)))) else (f_X11_takesOther_68 F rec42 x1 x2 x3 σ)))
def f_X11_takesOther_42 (F : Nat) : Nat → Int32 → Int32 → Int32 → nd_Mem → nd_Res
  | 0, _, _, _, _ => none
  | m9 + 1, x1, x2, x3, σ => f_X11_takesOther_42_b F (f_X11_takesOther_42 F m9) x1 x2 x3 σ
def f_X11_takesOther_40 (F : Nat) (x1 : Int32) (x2 : Int32) (σ : nd_Mem) : nd_Res := (f_X11_takesOther_42 F F x1 x2 (0 : Int32) σ)
def f_X11_takesOther_7_b (F : Nat) (rec7 : Int32 → Int32 → Int32 → nd_Mem → nd_Res) (x1 : Int32) (x2 : Int32) (x3 : Int32) (σ : nd_Mem) : nd_Res := (if ((4 : Int32) * x2) ≤ x3 then (nd_let (nd_up σ 60 31 x2) fun σ1 => (f_X11_takesOther_40 F x1 x2 σ1)) else (if ((64 : Int32) + x3) < 0 ∨ 128 ≤ (((64 : Int32) + x3)).toNatClampNeg then none else (if x3 < 0 ∨ 128 ≤ (x3).toNatClampNeg then none else (nd_let (nd_up σ 75 (x3).toNatClampNeg (σ 75 (((64 : Int32) + x3)).toNatClampNeg)) fun σ2 => (rec7 x1 x2 (x3 + (1 : Int32)) σ2)))))
def f_X11_takesOther_7 (F : Nat) : Nat → Int32 → Int32 → Int32 → nd_Mem → nd_Res
  | 0, _, _, _, _ => none
  | m9 + 1, x1, x2, x3, σ => f_X11_takesOther_7_b F (f_X11_takesOther_7 F m9) x1 x2 x3 σ
def f_X11_takesOther (F : Nat) (x1 : Int32) (x2 : Int32) (σ : nd_Mem) : nd_Res := (if x1 = (1 : Int32) then (f_X11_takesOther_7 F F x1 x2 (0 : Int32) σ) else (f_X11_takesOther_40 F x1 x2 σ))
set_option maxRecDepth 100000 in
set_option maxHeartbeats 4000000 in
theorem b_X11_takesOther_88 (F : Nat) (rec42 : Int32 → Int32 → Int32 → nd_Mem → nd_Res) (t : List nd_S) (hL : (nd_SH ++ t).length < nd_ro) {z : Int32 × nd_Mem} (hrec42 : ∀ (x1 : Int32) (x2 : Int32) (x3 : Int32) (σ : nd_Mem), rec42 x1 x2 x3 σ = some z → nd_V M_X11_takesOther (nd_rm 0) (nd_Pv (nd_SH ++ t) z) 0 0 42 [(0, .ref 60), (1, .int x1), (2, .int x2), (3, .int x3)] [] (nd_SH ++ t) σ) (x1 : Int32) (x2 : Int32) (x3 : Int32) (σ : nd_Mem) (h : f_X11_takesOther_88 F rec42 x1 x2 x3 σ = some z) : nd_V M_X11_takesOther (nd_rm 0) (nd_Pv (nd_SH ++ t) z) 0 0 88 [(0, .ref 60), (1, .int x1), (2, .int x2), (3, .int x3)] [] (nd_SH ++ t) σ := by
  unfold f_X11_takesOther_88 at h
  refine nd_iinc (v := (x3 + (1 : Int32))) (ls' := [(3, .int (x3 + (1 : Int32))), (0, .ref 60), (1, .int x1), (2, .int x2)]) dX11_takesOther_88 3 rfl (congrArg (HAdd.hAdd _) ic_1) (by decide) rfl ?_
  refine nd_goto dX11_takesOther_91 42 (by decide) ?_
  refine nd_sub [1, 2, 3, 0] rfl ?_
  exact hrec42 _ _ _ _ h
set_option maxRecDepth 100000 in
set_option maxHeartbeats 4000000 in
theorem b_X11_takesOther_68 (F : Nat) (rec42 : Int32 → Int32 → Int32 → nd_Mem → nd_Res) (t : List nd_S) (hL : (nd_SH ++ t).length < nd_ro) {z : Int32 × nd_Mem} (hrec42 : ∀ (x1 : Int32) (x2 : Int32) (x3 : Int32) (σ : nd_Mem), rec42 x1 x2 x3 σ = some z → nd_V M_X11_takesOther (nd_rm 0) (nd_Pv (nd_SH ++ t) z) 0 0 42 [(0, .ref 60), (1, .int x1), (2, .int x2), (3, .int x3)] [] (nd_SH ++ t) σ) (x1 : Int32) (x2 : Int32) (x3 : Int32) (σ : nd_Mem) (h : f_X11_takesOther_68 F rec42 x1 x2 x3 σ = some z) : nd_V M_X11_takesOther (nd_rm 0) (nd_Pv (nd_SH ++ t) z) 0 0 68 [(0, .ref 60), (1, .int x1), (2, .int x2), (3, .int x3)] [] (nd_SH ++ t) σ := by
  unfold f_X11_takesOther_68 at h
  refine nd_iload_n dX11_takesOther_68 1 rfl ?_
  refine nd_iconst dX11_takesOther_69 ic_3 ?_
  refine nd_icmp_neN dX11_takesOther_70 88 (by decide) h (fun h => ?_) (fun h => ?_)
  · exact b_X11_takesOther_88 F _ t hL hrec42 _ _ _ _ h
  · refine nd_aload_n dX11_takesOther_73 0 rfl ?_
    refine nd_get dX11_takesOther_74 gf_X11_62 (sh_60 t) rfl ?_
    refine nd_iload_n dX11_takesOther_77 3 rfl ?_
    refine nd_aload_n dX11_takesOther_78 0 rfl ?_
    refine nd_get dX11_takesOther_79 gf_X11_62 (sh_60 t) rfl ?_
    refine nd_bipush dX11_takesOther_82 ib_16 ?_
    refine nd_iload_n dX11_takesOther_84 3 rfl ?_
    refine nd_iadd dX11_takesOther_85 ?_
    refine nd_ialoadN dX11_takesOther_86 (sh_77 t) h (fun h => ?_)
    refine nd_iastoreN dX11_takesOther_87 (sh_77 t) h (fun σ1 h => ?_)
    exact b_X11_takesOther_88 F _ t hL hrec42 _ _ _ _ h
set_option maxRecDepth 100000 in
set_option maxHeartbeats 4000000 in
theorem b_X11_takesOther_114 (F : Nat) (t : List nd_S) (hL : (nd_SH ++ t).length < nd_ro) {z : Int32 × nd_Mem} (σ : nd_Mem) (h : f_X11_takesOther_114 F σ = some z) : nd_V M_X11_takesOther (nd_rm 0) (nd_Pv (nd_SH ++ t) z) 0 0 114 [(0, .ref 60)] [] (nd_SH ++ t) σ := by
  unfold f_X11_takesOther_114 at h
  refine nd_aload_n dX11_takesOther_114 0 rfl ?_
  refine nd_iconst dX11_takesOther_115 ic_0 ?_
  refine nd_putiN dX11_takesOther_116 pf_X11_135 (sh_60 t) rfl h (fun σ1 h => ?_)
  exact nd_vret dX11_takesOther_119 (Nat.zero_le _) (Nat.zero_le _) trivial (by cases h; exact ⟨rfl, rfl, rfl⟩)
set_option maxRecDepth 100000 in
set_option maxHeartbeats 4000000 in
theorem b_X11_takesOther_104 (F : Nat) (t : List nd_S) (hL : (nd_SH ++ t).length < nd_ro) {z : Int32 × nd_Mem} (x1 : Int32) (x2 : Int32) (σ : nd_Mem) (h : f_X11_takesOther_104 F x1 x2 σ = some z) : nd_V M_X11_takesOther (nd_rm 0) (nd_Pv (nd_SH ++ t) z) 0 0 104 [(0, .ref 60), (1, .int x1), (2, .int x2)] [] (nd_SH ++ t) σ := by
  unfold f_X11_takesOther_104 at h
  refine nd_iload_n dX11_takesOther_104 1 rfl ?_
  refine nd_iconst dX11_takesOther_105 ic_3 ?_
  refine nd_icmp_neN dX11_takesOther_106 114 (by decide) h (fun h => ?_) (fun h => ?_)
  · refine nd_sub [0] rfl ?_
    exact b_X11_takesOther_114 F t hL _ h
  · refine nd_aload_n dX11_takesOther_109 0 rfl ?_
    refine nd_iload_n dX11_takesOther_110 2 rfl ?_
    refine nd_putiN dX11_takesOther_111 pf_X11_292 (sh_60 t) rfl h (fun σ1 h => ?_)
    refine nd_sub [0] rfl ?_
    exact b_X11_takesOther_114 F t hL _ h
set_option maxRecDepth 100000 in
set_option maxHeartbeats 4000000 in
theorem b_X11_takesOther_42 (F : Nat) (t : List nd_S) (hL : (nd_SH ++ t).length < nd_ro) {z : Int32 × nd_Mem} (m9 : Nat) : ∀ (x1 : Int32) (x2 : Int32) (x3 : Int32) (σ : nd_Mem), f_X11_takesOther_42 F m9 x1 x2 x3 σ = some z → nd_V M_X11_takesOther (nd_rm 0) (nd_Pv (nd_SH ++ t) z) 0 0 42 [(0, .ref 60), (1, .int x1), (2, .int x2), (3, .int x3)] [] (nd_SH ++ t) σ := by
  induction m9 with
  | zero =>
    intro x1 x2 x3 σ h
    have h : none = some z := h
    cases h
  | succ m9 hrec42 =>
    intro x1 x2 x3 σ h
    have h : f_X11_takesOther_42_b F (f_X11_takesOther_42 F m9) x1 x2 x3 σ = some z := h
    unfold f_X11_takesOther_42_b at h
    refine nd_iload_n dX11_takesOther_42 3 rfl ?_
    refine nd_bipush dX11_takesOther_43 ib_16 ?_
    refine nd_icmp_geN dX11_takesOther_45 94 (by decide) h (fun h => ?_) (fun h => ?_)
    · refine nd_iload_n dX11_takesOther_94 1 rfl ?_
      refine nd_iconst dX11_takesOther_95 ic_2 ?_
      refine nd_icmp_neN dX11_takesOther_96 104 (by decide) h (fun h => ?_) (fun h => ?_)
      · refine nd_sub [0, 1, 2] rfl ?_
        exact b_X11_takesOther_104 F t hL _ _ _ h
      · refine nd_aload_n dX11_takesOther_99 0 rfl ?_
        refine nd_iload_n dX11_takesOther_100 2 rfl ?_
        refine nd_putiN dX11_takesOther_101 pf_X11_289 (sh_60 t) rfl h (fun σ1 h => ?_)
        refine nd_sub [0, 1, 2] rfl ?_
        exact b_X11_takesOther_104 F t hL _ _ _ h
    · refine nd_iload_n dX11_takesOther_48 1 rfl ?_
      refine nd_iconst dX11_takesOther_49 ic_2 ?_
      refine nd_icmp_neN dX11_takesOther_50 68 (by decide) h (fun h => ?_) (fun h => ?_)
      · exact b_X11_takesOther_68 F _ t hL hrec42 _ _ _ _ h
      · refine nd_aload_n dX11_takesOther_53 0 rfl ?_
        refine nd_get dX11_takesOther_54 gf_X11_59 (sh_60 t) rfl ?_
        refine nd_iload_n dX11_takesOther_57 3 rfl ?_
        refine nd_aload_n dX11_takesOther_58 0 rfl ?_
        refine nd_get dX11_takesOther_59 gf_X11_59 (sh_60 t) rfl ?_
        refine nd_bipush dX11_takesOther_62 ib_16 ?_
        refine nd_iload_n dX11_takesOther_64 3 rfl ?_
        refine nd_iadd dX11_takesOther_65 ?_
        refine nd_ialoadN dX11_takesOther_66 (sh_76 t) h (fun h => ?_)
        refine nd_iastoreN dX11_takesOther_67 (sh_76 t) h (fun σ2 h => ?_)
        exact b_X11_takesOther_68 F _ t hL hrec42 _ _ _ _ h
set_option maxRecDepth 100000 in
set_option maxHeartbeats 4000000 in
theorem b_X11_takesOther_40 (F : Nat) (t : List nd_S) (hL : (nd_SH ++ t).length < nd_ro) {z : Int32 × nd_Mem} (x1 : Int32) (x2 : Int32) (σ : nd_Mem) (h : f_X11_takesOther_40 F x1 x2 σ = some z) : nd_V M_X11_takesOther (nd_rm 0) (nd_Pv (nd_SH ++ t) z) 0 0 40 [(0, .ref 60), (1, .int x1), (2, .int x2)] [] (nd_SH ++ t) σ := by
  unfold f_X11_takesOther_40 at h
  refine nd_iconst dX11_takesOther_40 ic_0 ?_
  refine nd_istore_n (ls' := [(3, .int (0 : Int32)), (0, .ref 60), (1, .int x1), (2, .int x2)]) dX11_takesOther_41 (by decide) rfl ?_
  refine nd_sub [1, 2, 3, 0] rfl ?_
  exact b_X11_takesOther_42 F t hL F _ _ _ _ h
set_option maxRecDepth 100000 in
set_option maxHeartbeats 4000000 in
theorem b_X11_takesOther_7 (F : Nat) (t : List nd_S) (hL : (nd_SH ++ t).length < nd_ro) {z : Int32 × nd_Mem} (m9 : Nat) : ∀ (x1 : Int32) (x2 : Int32) (x3 : Int32) (σ : nd_Mem), f_X11_takesOther_7 F m9 x1 x2 x3 σ = some z → nd_V M_X11_takesOther (nd_rm 0) (nd_Pv (nd_SH ++ t) z) 0 0 7 [(0, .ref 60), (1, .int x1), (2, .int x2), (3, .int x3)] [] (nd_SH ++ t) σ := by
  induction m9 with
  | zero =>
    intro x1 x2 x3 σ h
    have h : none = some z := h
    cases h
  | succ m9 hrec7 =>
    intro x1 x2 x3 σ h
    have h : f_X11_takesOther_7_b F (f_X11_takesOther_7 F m9) x1 x2 x3 σ = some z := h
    unfold f_X11_takesOther_7_b at h
    refine nd_iload_n dX11_takesOther_7 3 rfl ?_
    refine nd_iconst dX11_takesOther_8 ic_4 ?_
    refine nd_iload_n dX11_takesOther_9 2 rfl ?_
    refine nd_imul dX11_takesOther_10 ?_
    refine nd_icmp_geN dX11_takesOther_11 35 (by decide) h (fun h => ?_) (fun h => ?_)
    · refine nd_aload_n dX11_takesOther_35 0 rfl ?_
      refine nd_iload_n dX11_takesOther_36 2 rfl ?_
      refine nd_putiN dX11_takesOther_37 pf_X11_286 (sh_60 t) rfl h (fun σ1 h => ?_)
      refine nd_sub [0, 1, 2] rfl ?_
      exact b_X11_takesOther_40 F t hL _ _ _ h
    · refine nd_aload_n dX11_takesOther_14 0 rfl ?_
      refine nd_get dX11_takesOther_15 gf_X11_56 (sh_60 t) rfl ?_
      refine nd_iload_n dX11_takesOther_18 3 rfl ?_
      refine nd_aload_n dX11_takesOther_19 0 rfl ?_
      refine nd_get dX11_takesOther_20 gf_X11_56 (sh_60 t) rfl ?_
      refine nd_bipush dX11_takesOther_23 ib_64 ?_
      refine nd_iload_n dX11_takesOther_25 3 rfl ?_
      refine nd_iadd dX11_takesOther_26 ?_
      refine nd_ialoadN dX11_takesOther_27 (sh_75 t) h (fun h => ?_)
      refine nd_iastoreN dX11_takesOther_28 (sh_75 t) h (fun σ2 h => ?_)
      refine nd_iinc (v := (x3 + (1 : Int32))) (ls' := [(3, .int (x3 + (1 : Int32))), (0, .ref 60), (1, .int x1), (2, .int x2)]) dX11_takesOther_29 3 rfl (congrArg (HAdd.hAdd _) ic_1) (by decide) rfl ?_
      refine nd_goto dX11_takesOther_32 7 (by decide) ?_
      refine nd_sub [1, 2, 3, 0] rfl ?_
      exact hrec7 _ _ _ _ h
set_option maxRecDepth 100000 in
set_option maxHeartbeats 4000000 in
theorem t_X11_takesOther (F : Nat) (t : List nd_S) (hL : (nd_SH ++ t).length < nd_ro) {z : Int32 × nd_Mem} (x1 : Int32) (x2 : Int32) (σ : nd_Mem) (h : f_X11_takesOther F x1 x2 σ = some z) : nd_Fn M_X11_takesOther (nd_rm 0) [.ref 60, .int x1, .int x2] (nd_SH ++ t) σ (nd_Pv (nd_SH ++ t) z) := by
  refine nd_Fn.ofV (ls := [(0, .ref 60), (1, .int x1), (2, .int x2)]) pl_X11_takesOther rfl (fun _ => Nat.le_of_ble_eq_true rfl) (fun _ => rfl) ?_
  unfold f_X11_takesOther at h
  refine nd_iload_n dX11_takesOther_0 1 rfl ?_
  refine nd_iconst dX11_takesOther_1 ic_1 ?_
  refine nd_icmp_neN dX11_takesOther_2 40 (by decide) h (fun h => ?_) (fun h => ?_)
  · exact b_X11_takesOther_40 F t hL _ _ _ h
  · refine nd_iconst dX11_takesOther_5 ic_0 ?_
    refine nd_istore_n (ls' := [(3, .int (0 : Int32)), (0, .ref 60), (1, .int x1), (2, .int x2)]) dX11_takesOther_6 (by decide) rfl ?_
    refine nd_sub [1, 2, 3, 0] rfl ?_
    exact b_X11_takesOther_7 F t hL F _ _ _ _ h
def f_X11_takesWagons_34 (F : Nat) (σ : nd_Mem) : nd_Res := (some ((-1 : Int32), σ))
def f_X11_takesWagons_105 (F : Nat) (σ : nd_Mem) : nd_Res := (some ((-1 : Int32), σ))
def f_X11_takesWagons_46_b (F : Nat) (rec46 : Int32 → Int32 → Int32 → Int32 → nd_Mem → nd_Res) (x2 : Int32) (x3 : Int32) (x4 : Int32) (x5 : Int32) (σ : nd_Mem) : nd_Res := (if x5 < 0 then (if x4 = (1 : Int32) then (if x3 = (((1 : Int32) <<< (x2 &&& 31)) - (1 : Int32)) then (some (x2, σ)) else (f_X11_takesWagons_105 F σ)) else (f_X11_takesWagons_105 F σ)) else (if x5 < 0 ∨ 9 ≤ (x5).toNatClampNeg then none else (nd_let (nd_up σ 82 (x5).toNatClampNeg (q_rem x4 (10 : Int32))) fun σ1 => (rec46 x2 (x3 ||| ((1 : Int32) <<< ((q_rem x4 (10 : Int32)) &&& 31))) (x4 / (10 : Int32)) (x5 + (-1 : Int32)) σ1))))
def f_X11_takesWagons_46 (F : Nat) : Nat → Int32 → Int32 → Int32 → Int32 → nd_Mem → nd_Res
  | 0, _, _, _, _, _ => none
  | m9 + 1, x2, x3, x4, x5, σ => f_X11_takesWagons_46_b F (f_X11_takesWagons_46 F m9) x2 x3 x4 x5 σ
def f_X11_takesWagons_4_b (F : Nat) (rec4 : Int32 → Int32 → Int32 → nd_Mem → nd_Res) (x1 : Int32) (x2 : Int32) (x3 : Int32) (σ : nd_Mem) : nd_Res := (if x3 ≤ (9 : Int32) then (if x1 < (10 : Int32) then (f_X11_takesWagons_34 F σ) else (if x2 ≤ (9 : Int32) then (f_X11_takesWagons_46 F F x2 (0 : Int32) x1 (x2 - (1 : Int32)) σ) else (f_X11_takesWagons_34 F σ))) else (rec4 x1 (x2 + (1 : Int32)) (x3 / (10 : Int32)) σ))
def f_X11_takesWagons_4 (F : Nat) : Nat → Int32 → Int32 → Int32 → nd_Mem → nd_Res
  | 0, _, _, _, _ => none
  | m9 + 1, x1, x2, x3, σ => f_X11_takesWagons_4_b F (f_X11_takesWagons_4 F m9) x1 x2 x3 σ
def f_X11_takesWagons (F : Nat) (x1 : Int32) (σ : nd_Mem) : nd_Res := (f_X11_takesWagons_4 F F x1 (0 : Int32) x1 σ)
set_option maxRecDepth 100000 in
set_option maxHeartbeats 4000000 in
theorem b_X11_takesWagons_34 (F : Nat) (t : List nd_S) (hL : (nd_SH ++ t).length < nd_ro) {z : Int32 × nd_Mem} (σ : nd_Mem) (h : f_X11_takesWagons_34 F σ = some z) : nd_V M_X11_takesWagons (nd_rm 0) (nd_Pi (nd_SH ++ t) z) 0 0 34 [(0, .ref 60)] [] (nd_SH ++ t) σ := by
  unfold f_X11_takesWagons_34 at h
  refine nd_iconst dX11_takesWagons_34 ic_m1 ?_
  exact nd_iret dX11_takesWagons_35 (Nat.zero_le _) (Nat.zero_le _) (vp_nar_int _) (by cases h; exact ⟨rfl, rfl, rfl⟩)
set_option maxRecDepth 100000 in
set_option maxHeartbeats 4000000 in
theorem b_X11_takesWagons_105 (F : Nat) (t : List nd_S) (hL : (nd_SH ++ t).length < nd_ro) {z : Int32 × nd_Mem} (σ : nd_Mem) (h : f_X11_takesWagons_105 F σ = some z) : nd_V M_X11_takesWagons (nd_rm 0) (nd_Pi (nd_SH ++ t) z) 0 0 105 [(0, .ref 60)] [] (nd_SH ++ t) σ := by
  unfold f_X11_takesWagons_105 at h
  refine nd_iconst dX11_takesWagons_105 ic_m1 ?_
  exact nd_iret dX11_takesWagons_106 (Nat.zero_le _) (Nat.zero_le _) (vp_nar_int _) (by cases h; exact ⟨rfl, rfl, rfl⟩)
set_option maxRecDepth 100000 in
set_option maxHeartbeats 4000000 in
theorem b_X11_takesWagons_46 (F : Nat) (t : List nd_S) (hL : (nd_SH ++ t).length < nd_ro) {z : Int32 × nd_Mem} (m9 : Nat) : ∀ (x2 : Int32) (x3 : Int32) (x4 : Int32) (x5 : Int32) (σ : nd_Mem), f_X11_takesWagons_46 F m9 x2 x3 x4 x5 σ = some z → nd_V M_X11_takesWagons (nd_rm 0) (nd_Pi (nd_SH ++ t) z) 0 0 46 [(0, .ref 60), (2, .int x2), (3, .int x3), (4, .int x4), (5, .int x5)] [] (nd_SH ++ t) σ := by
  induction m9 with
  | zero =>
    intro x2 x3 x4 x5 σ h
    have h : none = some z := h
    cases h
  | succ m9 hrec46 =>
    intro x2 x3 x4 x5 σ h
    have h : f_X11_takesWagons_46_b F (f_X11_takesWagons_46 F m9) x2 x3 x4 x5 σ = some z := h
    unfold f_X11_takesWagons_46_b at h
    refine nd_iload dX11_takesWagons_46 4 rfl ?_
    refine nd_if_ltN dX11_takesWagons_48 86 (by decide) h (fun h => ?_) (fun h => ?_)
    · refine nd_iload dX11_takesWagons_86 3 rfl ?_
      refine nd_iconst dX11_takesWagons_88 ic_1 ?_
      refine nd_icmp_neN dX11_takesWagons_89 105 (by decide) h (fun h => ?_) (fun h => ?_)
      · refine nd_sub [0] rfl ?_
        exact b_X11_takesWagons_105 F t hL _ h
      · refine nd_iload_n dX11_takesWagons_92 2 rfl ?_
        refine nd_iconst dX11_takesWagons_93 ic_1 ?_
        refine nd_iload_n dX11_takesWagons_94 1 rfl ?_
        refine nd_ishl dX11_takesWagons_95 ?_
        refine nd_iconst dX11_takesWagons_96 ic_1 ?_
        refine nd_isub dX11_takesWagons_97 ?_
        refine nd_icmp_neN dX11_takesWagons_98 105 (by decide) h (fun h => ?_) (fun h => ?_)
        · refine nd_sub [0] rfl ?_
          exact b_X11_takesWagons_105 F t hL _ h
        · refine nd_iload_n dX11_takesWagons_101 1 rfl ?_
          refine nd_goto dX11_takesWagons_102 106 (by decide) ?_
          exact nd_iret dX11_takesWagons_106 (Nat.zero_le _) (Nat.zero_le _) (vp_nar_int _) (by cases h; exact ⟨rfl, rfl, rfl⟩)
    · refine nd_aload_n dX11_takesWagons_51 0 rfl ?_
      refine nd_get dX11_takesWagons_52 gf_X11_77 (sh_60 t) rfl ?_
      refine nd_iload dX11_takesWagons_55 4 rfl ?_
      refine nd_iload dX11_takesWagons_57 3 rfl ?_
      refine nd_bipush dX11_takesWagons_59 ib_10 ?_
      refine nd_irem dX11_takesWagons_61 (by decide) ?_
      refine nd_iastoreN dX11_takesWagons_62 (sh_82 t) h (fun σ1 h => ?_)
      refine nd_iload_n dX11_takesWagons_63 2 rfl ?_
      refine nd_iconst dX11_takesWagons_64 ic_1 ?_
      refine nd_iload dX11_takesWagons_65 3 rfl ?_
      refine nd_bipush dX11_takesWagons_67 ib_10 ?_
      refine nd_irem dX11_takesWagons_69 (by decide) ?_
      refine nd_ishl dX11_takesWagons_70 ?_
      refine nd_ior dX11_takesWagons_71 ?_
      refine nd_istore_n (ls' := [(3, .int (x3 ||| ((1 : Int32) <<< ((q_rem x4 (10 : Int32)) &&& 31)))), (0, .ref 60), (2, .int x2), (4, .int x4), (5, .int x5)]) dX11_takesWagons_72 (by decide) rfl ?_
      refine nd_iload dX11_takesWagons_73 3 rfl ?_
      refine nd_bipush dX11_takesWagons_75 ib_10 ?_
      refine nd_idiv dX11_takesWagons_77 (by decide) ?_
      refine nd_istore (ls' := [(4, .int (x4 / (10 : Int32))), (3, .int (x3 ||| ((1 : Int32) <<< ((q_rem x4 (10 : Int32)) &&& 31)))), (0, .ref 60), (2, .int x2), (5, .int x5)]) dX11_takesWagons_78 (by decide) rfl ?_
      refine nd_iinc (v := (x5 + (-1 : Int32))) (ls' := [(5, .int (x5 + (-1 : Int32))), (4, .int (x4 / (10 : Int32))), (3, .int (x3 ||| ((1 : Int32) <<< ((q_rem x4 (10 : Int32)) &&& 31)))), (0, .ref 60), (2, .int x2)]) dX11_takesWagons_80 4 rfl (congrArg (HAdd.hAdd _) ic_m1) (by decide) rfl ?_
      refine nd_goto dX11_takesWagons_83 46 (by decide) ?_
      refine nd_sub [3, 4, 2, 1, 0] rfl ?_
      exact hrec46 _ _ _ _ _ h
set_option maxRecDepth 100000 in
set_option maxHeartbeats 4000000 in
theorem b_X11_takesWagons_4 (F : Nat) (t : List nd_S) (hL : (nd_SH ++ t).length < nd_ro) {z : Int32 × nd_Mem} (m9 : Nat) : ∀ (x1 : Int32) (x2 : Int32) (x3 : Int32) (σ : nd_Mem), f_X11_takesWagons_4 F m9 x1 x2 x3 σ = some z → nd_V M_X11_takesWagons (nd_rm 0) (nd_Pi (nd_SH ++ t) z) 0 0 4 [(0, .ref 60), (1, .int x1), (2, .int x2), (3, .int x3)] [] (nd_SH ++ t) σ := by
  induction m9 with
  | zero =>
    intro x1 x2 x3 σ h
    have h : none = some z := h
    cases h
  | succ m9 hrec4 =>
    intro x1 x2 x3 σ h
    have h : f_X11_takesWagons_4_b F (f_X11_takesWagons_4 F m9) x1 x2 x3 σ = some z := h
    unfold f_X11_takesWagons_4_b at h
    refine nd_iload_n dX11_takesWagons_4 3 rfl ?_
    refine nd_bipush dX11_takesWagons_5 ib_9 ?_
    refine nd_icmp_leN dX11_takesWagons_7 22 (by decide) h (fun h => ?_) (fun h => ?_)
    · refine nd_iload_n dX11_takesWagons_22 1 rfl ?_
      refine nd_bipush dX11_takesWagons_23 ib_10 ?_
      refine nd_icmp_ltN dX11_takesWagons_25 34 (by decide) h (fun h => ?_) (fun h => ?_)
      · refine nd_sub [0] rfl ?_
        exact b_X11_takesWagons_34 F t hL _ h
      · refine nd_iload_n dX11_takesWagons_28 2 rfl ?_
        refine nd_bipush dX11_takesWagons_29 ib_9 ?_
        refine nd_icmp_leN dX11_takesWagons_31 36 (by decide) h (fun h => ?_) (fun h => ?_)
        · refine nd_iconst dX11_takesWagons_36 ic_0 ?_
          refine nd_istore_n (ls' := [(3, .int (0 : Int32)), (0, .ref 60), (1, .int x1), (2, .int x2)]) dX11_takesWagons_37 (by decide) rfl ?_
          refine nd_iload_n dX11_takesWagons_38 2 rfl ?_
          refine nd_istore (ls' := [(4, .int x1), (3, .int (0 : Int32)), (0, .ref 60), (1, .int x1), (2, .int x2)]) dX11_takesWagons_39 (by decide) rfl ?_
          refine nd_iload_n dX11_takesWagons_41 4 rfl ?_
          refine nd_iconst dX11_takesWagons_42 ic_1 ?_
          refine nd_isub dX11_takesWagons_43 ?_
          refine nd_istore (ls' := [(5, .int (x2 - (1 : Int32))), (4, .int x1), (3, .int (0 : Int32)), (0, .ref 60), (1, .int x1), (2, .int x2)]) dX11_takesWagons_44 (by decide) rfl ?_
          refine nd_sub [3, 5, 2, 1, 0] rfl ?_
          exact b_X11_takesWagons_46 F t hL F _ _ _ _ _ h
        · refine nd_sub [0] rfl ?_
          exact b_X11_takesWagons_34 F t hL _ h
    · refine nd_iload_n dX11_takesWagons_10 2 rfl ?_
      refine nd_iconst dX11_takesWagons_11 ic_1 ?_
      refine nd_iadd dX11_takesWagons_12 ?_
      refine nd_istore_n (ls' := [(2, .int (x2 + (1 : Int32))), (0, .ref 60), (1, .int x1), (3, .int x3)]) dX11_takesWagons_13 (by decide) rfl ?_
      refine nd_iload_n dX11_takesWagons_14 3 rfl ?_
      refine nd_bipush dX11_takesWagons_15 ib_10 ?_
      refine nd_idiv dX11_takesWagons_17 (by decide) ?_
      refine nd_istore_n (ls' := [(3, .int (x3 / (10 : Int32))), (2, .int (x2 + (1 : Int32))), (0, .ref 60), (1, .int x1)]) dX11_takesWagons_18 (by decide) rfl ?_
      refine nd_goto dX11_takesWagons_19 4 (by decide) ?_
      refine nd_sub [2, 3, 1, 0] rfl ?_
      exact hrec4 _ _ _ _ h
set_option maxRecDepth 100000 in
set_option maxHeartbeats 4000000 in
theorem t_X11_takesWagons (F : Nat) (t : List nd_S) (hL : (nd_SH ++ t).length < nd_ro) {z : Int32 × nd_Mem} (x1 : Int32) (σ : nd_Mem) (h : f_X11_takesWagons F x1 σ = some z) : nd_Fn M_X11_takesWagons (nd_rm 0) [.ref 60, .int x1] (nd_SH ++ t) σ (nd_Pi (nd_SH ++ t) z) := by
  refine nd_Fn.ofV (ls := [(0, .ref 60), (1, .int x1)]) pl_X11_takesWagons rfl (fun _ => Nat.le_of_ble_eq_true rfl) (fun _ => rfl) ?_
  unfold f_X11_takesWagons at h
  refine nd_iconst dX11_takesWagons_0 ic_0 ?_
  refine nd_istore_n (ls' := [(2, .int (0 : Int32)), (0, .ref 60), (1, .int x1)]) dX11_takesWagons_1 (by decide) rfl ?_
  refine nd_iload_n dX11_takesWagons_2 2 rfl ?_
  refine nd_istore_n (ls' := [(3, .int x1), (2, .int (0 : Int32)), (0, .ref 60), (1, .int x1)]) dX11_takesWagons_3 (by decide) rfl ?_
  refine nd_sub [2, 3, 1, 0] rfl ?_
  exact b_X11_takesWagons_4 F t hL F _ _ _ _ h
def f_X11_thinks_2_b (F : Nat) (rec2 : Int32 → nd_Mem → nd_Res) (x1 : Int32) (σ : nd_Mem) : nd_Res := (if (103 : Int32) ≤ x1 then (if ¬ ((1 : Int32) = 0 ∨ (1 : Int32) = 1) then none else (nd_let (nd_up σ 60 5 (1 : Int32)) fun σ1 => (some (0, σ1)))) else (if x1 < 0 ∨ 103 ≤ (x1).toNatClampNeg then none else (if x1 < 0 ∨ 103 ≤ (x1).toNatClampNeg then none else (nd_let (nd_up σ 63 (x1).toNatClampNeg (σ 61 (x1).toNatClampNeg)) fun σ2 => (rec2 (x1 + (1 : Int32)) σ2)))))
def f_X11_thinks_2 (F : Nat) : Nat → Int32 → nd_Mem → nd_Res
  | 0, _, _ => none
  | m9 + 1, x1, σ => f_X11_thinks_2_b F (f_X11_thinks_2 F m9) x1 σ
def f_X11_thinks (F : Nat) (σ : nd_Mem) : nd_Res := (f_X11_thinks_2 F F (0 : Int32) σ)
set_option maxRecDepth 100000 in
set_option maxHeartbeats 4000000 in
theorem b_X11_thinks_2 (F : Nat) (t : List nd_S) (hL : (nd_SH ++ t).length < nd_ro) {z : Int32 × nd_Mem} (m9 : Nat) : ∀ (x1 : Int32) (σ : nd_Mem), f_X11_thinks_2 F m9 x1 σ = some z → nd_V M_X11_thinks (nd_rm 0) (nd_Pv (nd_SH ++ t) z) 0 0 2 [(0, .ref 60), (1, .int x1)] [] (nd_SH ++ t) σ := by
  induction m9 with
  | zero =>
    intro x1 σ h
    have h : none = some z := h
    cases h
  | succ m9 hrec2 =>
    intro x1 σ h
    have h : f_X11_thinks_2_b F (f_X11_thinks_2 F m9) x1 σ = some z := h
    unfold f_X11_thinks_2_b at h
    refine nd_iload_n dX11_thinks_2 1 rfl ?_
    refine nd_bipush dX11_thinks_3 ib_103 ?_
    refine nd_icmp_geN dX11_thinks_5 26 (by decide) h (fun h => ?_) (fun h => ?_)
    · refine nd_aload_n dX11_thinks_26 0 rfl ?_
      refine nd_iconst dX11_thinks_27 ic_1 ?_
      refine nd_putzN dX11_thinks_28 pf_X11_138 (sh_60 t) rfl h (fun σ1 h => ?_)
      exact nd_vret dX11_thinks_31 (Nat.zero_le _) (Nat.zero_le _) trivial (by cases h; exact ⟨rfl, rfl, rfl⟩)
    · refine nd_aload_n dX11_thinks_8 0 rfl ?_
      refine nd_get dX11_thinks_9 gf_X11_16 (sh_60 t) rfl ?_
      refine nd_iload_n dX11_thinks_12 1 rfl ?_
      refine nd_aload_n dX11_thinks_13 0 rfl ?_
      refine nd_get dX11_thinks_14 gf_X11_7 (sh_60 t) rfl ?_
      refine nd_iload_n dX11_thinks_17 1 rfl ?_
      refine nd_ialoadN dX11_thinks_18 (sh_61 t) h (fun h => ?_)
      refine nd_iastoreN dX11_thinks_19 (sh_63 t) h (fun σ2 h => ?_)
      refine nd_iinc (v := (x1 + (1 : Int32))) (ls' := [(1, .int (x1 + (1 : Int32))), (0, .ref 60)]) dX11_thinks_20 1 rfl (congrArg (HAdd.hAdd _) ic_1) (by decide) rfl ?_
      refine nd_goto dX11_thinks_23 2 (by decide) ?_
      refine nd_sub [1, 0] rfl ?_
      exact hrec2 _ _ h
set_option maxRecDepth 100000 in
set_option maxHeartbeats 4000000 in
theorem t_X11_thinks (F : Nat) (t : List nd_S) (hL : (nd_SH ++ t).length < nd_ro) {z : Int32 × nd_Mem} (σ : nd_Mem) (h : f_X11_thinks F σ = some z) : nd_Fn M_X11_thinks (nd_rm 0) [.ref 60] (nd_SH ++ t) σ (nd_Pv (nd_SH ++ t) z) := by
  refine nd_Fn.ofV (ls := [(0, .ref 60)]) pl_X11_thinks rfl (fun _ => Nat.le_of_ble_eq_true rfl) (fun _ => rfl) ?_
  unfold f_X11_thinks at h
  refine nd_iconst dX11_thinks_0 ic_0 ?_
  refine nd_istore_n (ls' := [(1, .int (0 : Int32)), (0, .ref 60)]) dX11_thinks_1 (by decide) rfl ?_
  refine nd_sub [1, 0] rfl ?_
  exact b_X11_thinks_2 F t hL F _ _ h
def f_X11_twoOf (F : Nat) (x1 : Int32) (x2 : Int32) (x3 : Int32) (σ : nd_Mem) : nd_Res := (if x1 = (2 : Int32) then (some ((x2 + x3), σ)) else (if x1 = (3 : Int32) then (some ((x2 - x3), σ)) else (if x1 = (4 : Int32) then (some ((x2 * x3), σ)) else (if x1 = (5 : Int32) then (if x3 = 0 then none else (some ((x2 / x3), σ))) else (if x1 = (6 : Int32) then (if x3 ≤ x2 then (some ((0 : Int32), σ)) else (some ((1 : Int32), σ))) else (if x1 = (7 : Int32) then (if x2 = x3 then (some ((1 : Int32), σ)) else (some ((0 : Int32), σ))) else (if x1 = (8 : Int32) then (if x2 ≤ x3 then (some ((0 : Int32), σ)) else (some ((1 : Int32), σ))) else (if x1 = (10 : Int32) then (some ((x2 * x3), σ)) else (if (x2 + x3) ≤ 0 then (some ((0 : Int32), σ)) else (some ((1 : Int32), σ)))))))))))
set_option maxRecDepth 100000 in
set_option maxHeartbeats 4000000 in
theorem t_X11_twoOf (F : Nat) (t : List nd_S) (hL : (nd_SH ++ t).length < nd_ro) {z : Int32 × nd_Mem} (x1 : Int32) (x2 : Int32) (x3 : Int32) (σ : nd_Mem) (h : f_X11_twoOf F x1 x2 x3 σ = some z) : nd_Fn M_X11_twoOf (nd_rm 0) [.ref 60, .int x1, .int x2, .int x3] (nd_SH ++ t) σ (nd_Pi (nd_SH ++ t) z) := by
  refine nd_Fn.ofV (ls := [(0, .ref 60), (1, .int x1), (2, .int x2), (3, .int x3)]) pl_X11_twoOf rfl (fun _ => Nat.le_of_ble_eq_true rfl) (fun _ => rfl) ?_
  unfold f_X11_twoOf at h
  refine nd_iload_n dX11_twoOf_0 1 rfl ?_
  refine nd_iconst dX11_twoOf_1 ic_2 ?_
  refine nd_icmp_neN dX11_twoOf_2 9 (by decide) h (fun h => ?_) (fun h => ?_)
  · refine nd_iload_n dX11_twoOf_9 1 rfl ?_
    refine nd_iconst dX11_twoOf_10 ic_3 ?_
    refine nd_icmp_neN dX11_twoOf_11 18 (by decide) h (fun h => ?_) (fun h => ?_)
    · refine nd_iload_n dX11_twoOf_18 1 rfl ?_
      refine nd_iconst dX11_twoOf_19 ic_4 ?_
      refine nd_icmp_neN dX11_twoOf_20 27 (by decide) h (fun h => ?_) (fun h => ?_)
      · refine nd_iload_n dX11_twoOf_27 1 rfl ?_
        refine nd_iconst dX11_twoOf_28 ic_5 ?_
        refine nd_icmp_neN dX11_twoOf_29 36 (by decide) h (fun h => ?_) (fun h => ?_)
        · refine nd_iload_n dX11_twoOf_36 1 rfl ?_
          refine nd_bipush dX11_twoOf_37 ib_6 ?_
          refine nd_icmp_neN dX11_twoOf_39 53 (by decide) h (fun h => ?_) (fun h => ?_)
          · refine nd_iload_n dX11_twoOf_53 1 rfl ?_
            refine nd_bipush dX11_twoOf_54 ib_7 ?_
            refine nd_icmp_neN dX11_twoOf_56 70 (by decide) h (fun h => ?_) (fun h => ?_)
            · refine nd_iload_n dX11_twoOf_70 1 rfl ?_
              refine nd_bipush dX11_twoOf_71 ib_8 ?_
              refine nd_icmp_neN dX11_twoOf_73 87 (by decide) h (fun h => ?_) (fun h => ?_)
              · refine nd_iload_n dX11_twoOf_87 1 rfl ?_
                refine nd_bipush dX11_twoOf_88 ib_10 ?_
                refine nd_icmp_neN dX11_twoOf_90 99 (by decide) h (fun h => ?_) (fun h => ?_)
                · refine nd_iload_n dX11_twoOf_99 2 rfl ?_
                  refine nd_iload_n dX11_twoOf_100 3 rfl ?_
                  refine nd_iadd dX11_twoOf_101 ?_
                  refine nd_if_leN dX11_twoOf_102 109 (by decide) h (fun h => ?_) (fun h => ?_)
                  · refine nd_iconst dX11_twoOf_109 ic_0 ?_
                    exact nd_iret dX11_twoOf_110 (Nat.zero_le _) (Nat.zero_le _) (vp_nar_int _) (by cases h; exact ⟨rfl, rfl, rfl⟩)
                  · refine nd_iconst dX11_twoOf_105 ic_1 ?_
                    refine nd_goto dX11_twoOf_106 110 (by decide) ?_
                    exact nd_iret dX11_twoOf_110 (Nat.zero_le _) (Nat.zero_le _) (vp_nar_int _) (by cases h; exact ⟨rfl, rfl, rfl⟩)
                · refine nd_iload_n dX11_twoOf_93 2 rfl ?_
                  refine nd_iload_n dX11_twoOf_94 3 rfl ?_
                  refine nd_imul dX11_twoOf_95 ?_
                  refine nd_goto dX11_twoOf_96 110 (by decide) ?_
                  exact nd_iret dX11_twoOf_110 (Nat.zero_le _) (Nat.zero_le _) (vp_nar_int _) (by cases h; exact ⟨rfl, rfl, rfl⟩)
              · refine nd_iload_n dX11_twoOf_76 2 rfl ?_
                refine nd_iload_n dX11_twoOf_77 3 rfl ?_
                refine nd_icmp_leN dX11_twoOf_78 85 (by decide) h (fun h => ?_) (fun h => ?_)
                · refine nd_iconst dX11_twoOf_85 ic_0 ?_
                  exact nd_iret dX11_twoOf_86 (Nat.zero_le _) (Nat.zero_le _) (vp_nar_int _) (by cases h; exact ⟨rfl, rfl, rfl⟩)
                · refine nd_iconst dX11_twoOf_81 ic_1 ?_
                  refine nd_goto dX11_twoOf_82 86 (by decide) ?_
                  exact nd_iret dX11_twoOf_86 (Nat.zero_le _) (Nat.zero_le _) (vp_nar_int _) (by cases h; exact ⟨rfl, rfl, rfl⟩)
            · refine nd_iload_n dX11_twoOf_59 2 rfl ?_
              refine nd_iload_n dX11_twoOf_60 3 rfl ?_
              refine nd_icmp_neN dX11_twoOf_61 68 (by decide) h (fun h => ?_) (fun h => ?_)
              · refine nd_iconst dX11_twoOf_68 ic_0 ?_
                exact nd_iret dX11_twoOf_69 (Nat.zero_le _) (Nat.zero_le _) (vp_nar_int _) (by cases h; exact ⟨rfl, rfl, rfl⟩)
              · refine nd_iconst dX11_twoOf_64 ic_1 ?_
                refine nd_goto dX11_twoOf_65 69 (by decide) ?_
                exact nd_iret dX11_twoOf_69 (Nat.zero_le _) (Nat.zero_le _) (vp_nar_int _) (by cases h; exact ⟨rfl, rfl, rfl⟩)
          · refine nd_iload_n dX11_twoOf_42 2 rfl ?_
            refine nd_iload_n dX11_twoOf_43 3 rfl ?_
            refine nd_icmp_geN dX11_twoOf_44 51 (by decide) h (fun h => ?_) (fun h => ?_)
            · refine nd_iconst dX11_twoOf_51 ic_0 ?_
              exact nd_iret dX11_twoOf_52 (Nat.zero_le _) (Nat.zero_le _) (vp_nar_int _) (by cases h; exact ⟨rfl, rfl, rfl⟩)
            · refine nd_iconst dX11_twoOf_47 ic_1 ?_
              refine nd_goto dX11_twoOf_48 52 (by decide) ?_
              exact nd_iret dX11_twoOf_52 (Nat.zero_le _) (Nat.zero_le _) (vp_nar_int _) (by cases h; exact ⟨rfl, rfl, rfl⟩)
        · refine nd_iload_n dX11_twoOf_32 2 rfl ?_
          refine nd_iload_n dX11_twoOf_33 3 rfl ?_
          refine nd_idivN dX11_twoOf_34 h (fun h => ?_)
          exact nd_iret dX11_twoOf_35 (Nat.zero_le _) (Nat.zero_le _) (vp_nar_int _) (by cases h; exact ⟨rfl, rfl, rfl⟩)
      · refine nd_iload_n dX11_twoOf_23 2 rfl ?_
        refine nd_iload_n dX11_twoOf_24 3 rfl ?_
        refine nd_imul dX11_twoOf_25 ?_
        exact nd_iret dX11_twoOf_26 (Nat.zero_le _) (Nat.zero_le _) (vp_nar_int _) (by cases h; exact ⟨rfl, rfl, rfl⟩)
    · refine nd_iload_n dX11_twoOf_14 2 rfl ?_
      refine nd_iload_n dX11_twoOf_15 3 rfl ?_
      refine nd_isub dX11_twoOf_16 ?_
      exact nd_iret dX11_twoOf_17 (Nat.zero_le _) (Nat.zero_le _) (vp_nar_int _) (by cases h; exact ⟨rfl, rfl, rfl⟩)
  · refine nd_iload_n dX11_twoOf_5 2 rfl ?_
    refine nd_iload_n dX11_twoOf_6 3 rfl ?_
    refine nd_iadd dX11_twoOf_7 ?_
    exact nd_iret dX11_twoOf_8 (Nat.zero_le _) (Nat.zero_le _) (vp_nar_int _) (by cases h; exact ⟨rfl, rfl, rfl⟩)
def f_X11_types_3_b (F : Nat) (rec3 : Int32 → Int32 → nd_Mem → nd_Res) (x1 : Int32) (x2 : Int32) (σ : nd_Mem) : nd_Res := (if x2 < 0 then (some (0, σ)) else (if (σ 60 9) < 0 ∨ 400 ≤ ((σ 60 9)).toNatClampNeg then none else (nd_let (nd_up σ 65 ((σ 60 9)).toNatClampNeg ((x1 >>> (x2 &&& 31)) &&& (255 : Int32))) fun σ1 => (nd_let (nd_up σ1 60 9 ((σ1 60 9) + (1 : Int32))) fun σ2 => (rec3 x1 (x2 + (-8 : Int32)) σ2)))))
def f_X11_types_3 (F : Nat) : Nat → Int32 → Int32 → nd_Mem → nd_Res
  | 0, _, _, _ => none
  | m9 + 1, x1, x2, σ => f_X11_types_3_b F (f_X11_types_3 F m9) x1 x2 σ
def f_X11_types (F : Nat) (x1 : Int32) (σ : nd_Mem) : nd_Res := (f_X11_types_3 F F x1 (24 : Int32) σ)
set_option maxRecDepth 100000 in
set_option maxHeartbeats 4000000 in
theorem b_X11_types_3 (F : Nat) (t : List nd_S) (hL : (nd_SH ++ t).length < nd_ro) {z : Int32 × nd_Mem} (m9 : Nat) : ∀ (x1 : Int32) (x2 : Int32) (σ : nd_Mem), f_X11_types_3 F m9 x1 x2 σ = some z → nd_V M_X11_types (nd_rm 0) (nd_Pv (nd_SH ++ t) z) 0 0 3 [(0, .ref 60), (1, .int x1), (2, .int x2)] [] (nd_SH ++ t) σ := by
  induction m9 with
  | zero =>
    intro x1 x2 σ h
    have h : none = some z := h
    cases h
  | succ m9 hrec3 =>
    intro x1 x2 σ h
    have h : f_X11_types_3_b F (f_X11_types_3 F m9) x1 x2 σ = some z := h
    unfold f_X11_types_3_b at h
    refine nd_iload_n dX11_types_3 2 rfl ?_
    refine nd_if_ltN dX11_types_4 39 (by decide) h (fun h => ?_) (fun h => ?_)
    · exact nd_vret dX11_types_39 (Nat.zero_le _) (Nat.zero_le _) trivial (by cases h; exact ⟨rfl, rfl, rfl⟩)
    · refine nd_aload_n dX11_types_7 0 rfl ?_
      refine nd_get dX11_types_8 gf_X11_22 (sh_60 t) rfl ?_
      refine nd_aload_n dX11_types_11 0 rfl ?_
      refine nd_get dX11_types_12 gf_X11_155 (sh_60 t) rfl ?_
      refine nd_iload_n dX11_types_15 1 rfl ?_
      refine nd_iload_n dX11_types_16 2 rfl ?_
      refine nd_ishr dX11_types_17 ?_
      refine nd_sipush dX11_types_18 is_255 ?_
      refine nd_iand dX11_types_21 ?_
      refine nd_iastoreN dX11_types_22 (sh_65 t) h (fun σ1 h => ?_)
      refine nd_aload_n dX11_types_23 0 rfl ?_
      refine nd_aload_n dX11_types_24 0 rfl ?_
      refine nd_get dX11_types_25 gf_X11_155 (sh_60 t) rfl ?_
      refine nd_iconst dX11_types_28 ic_1 ?_
      refine nd_iadd dX11_types_29 ?_
      refine nd_putiN dX11_types_30 pf_X11_155 (sh_60 t) rfl h (fun σ2 h => ?_)
      refine nd_iinc (v := (x2 + (-8 : Int32))) (ls' := [(2, .int (x2 + (-8 : Int32))), (0, .ref 60), (1, .int x1)]) dX11_types_33 2 rfl (congrArg (HAdd.hAdd _) ic_m8) (by decide) rfl ?_
      refine nd_goto dX11_types_36 3 (by decide) ?_
      refine nd_sub [1, 2, 0] rfl ?_
      exact hrec3 _ _ _ h
set_option maxRecDepth 100000 in
set_option maxHeartbeats 4000000 in
theorem t_X11_types (F : Nat) (t : List nd_S) (hL : (nd_SH ++ t).length < nd_ro) {z : Int32 × nd_Mem} (x1 : Int32) (σ : nd_Mem) (h : f_X11_types F x1 σ = some z) : nd_Fn M_X11_types (nd_rm 0) [.ref 60, .int x1] (nd_SH ++ t) σ (nd_Pv (nd_SH ++ t) z) := by
  refine nd_Fn.ofV (ls := [(0, .ref 60), (1, .int x1)]) pl_X11_types rfl (fun _ => Nat.le_of_ble_eq_true rfl) (fun _ => rfl) ?_
  unfold f_X11_types at h
  refine nd_bipush dX11_types_0 ib_24 ?_
  refine nd_istore_n (ls' := [(2, .int (24 : Int32)), (0, .ref 60), (1, .int x1)]) dX11_types_2 (by decide) rfl ?_
  refine nd_sub [1, 2, 0] rfl ?_
  exact b_X11_types_3 F t hL F _ _ _ h
def f_X11_undo_26_b (F : Nat) (rec26 : Int32 → nd_Mem → nd_Res) (x1 : Int32) (σ : nd_Mem) : nd_Res := (if (103 : Int32) ≤ x1 then (some ((1 : Int32), σ)) else (if (((103 : Int32) * (σ 60 3)) + x1) < 0 ∨ 618 ≤ ((((103 : Int32) * (σ 60 3)) + x1)).toNatClampNeg then none else (if x1 < 0 ∨ 103 ≤ (x1).toNatClampNeg then none else (nd_let (nd_up σ 61 (x1).toNatClampNeg (σ 62 ((((103 : Int32) * (σ 60 3)) + x1)).toNatClampNeg)) fun σ1 => (rec26 (x1 + (1 : Int32)) σ1)))))
def f_X11_undo_26 (F : Nat) : Nat → Int32 → nd_Mem → nd_Res
  | 0, _, _ => none
  | m9 + 1, x1, σ => f_X11_undo_26_b F (f_X11_undo_26 F m9) x1 σ
def f_X11_undo (F : Nat) (σ : nd_Mem) : nd_Res := (nd_let (nd_up σ 60 0 (0 : Int32)) fun σ1 => (if (σ1 60 3) = 0 then (some ((0 : Int32), σ1)) else (nd_let (nd_up σ1 60 3 ((σ1 60 3) - (1 : Int32))) fun σ2 => (f_X11_undo_26 F F (0 : Int32) σ2))))
set_option maxRecDepth 100000 in
set_option maxHeartbeats 4000000 in
theorem b_X11_undo_26 (F : Nat) (t : List nd_S) (hL : (nd_SH ++ t).length < nd_ro) {z : Int32 × nd_Mem} (m9 : Nat) : ∀ (x1 : Int32) (σ : nd_Mem), f_X11_undo_26 F m9 x1 σ = some z → nd_V M_X11_undo (nd_rm 0) (nd_Pi (nd_SH ++ t) z) 0 0 26 [(0, .ref 60), (1, .int x1)] [] (nd_SH ++ t) σ := by
  induction m9 with
  | zero =>
    intro x1 σ h
    have h : none = some z := h
    cases h
  | succ m9 hrec26 =>
    intro x1 σ h
    have h : f_X11_undo_26_b F (f_X11_undo_26 F m9) x1 σ = some z := h
    unfold f_X11_undo_26_b at h
    refine nd_iload_n dX11_undo_26 1 rfl ?_
    refine nd_bipush dX11_undo_27 ib_103 ?_
    refine nd_icmp_geN dX11_undo_29 58 (by decide) h (fun h => ?_) (fun h => ?_)
    · refine nd_iconst dX11_undo_58 ic_1 ?_
      exact nd_iret dX11_undo_59 (Nat.zero_le _) (Nat.zero_le _) rfl (by cases h; exact ⟨rfl, rfl, rfl⟩)
    · refine nd_aload_n dX11_undo_32 0 rfl ?_
      refine nd_get dX11_undo_33 gf_X11_7 (sh_60 t) rfl ?_
      refine nd_iload_n dX11_undo_36 1 rfl ?_
      refine nd_aload_n dX11_undo_37 0 rfl ?_
      refine nd_get dX11_undo_38 gf_X11_13 (sh_60 t) rfl ?_
      refine nd_bipush dX11_undo_41 ib_103 ?_
      refine nd_aload_n dX11_undo_43 0 rfl ?_
      refine nd_get dX11_undo_44 gf_X11_135 (sh_60 t) rfl ?_
      refine nd_imul dX11_undo_47 ?_
      refine nd_iload_n dX11_undo_48 1 rfl ?_
      refine nd_iadd dX11_undo_49 ?_
      refine nd_ialoadN dX11_undo_50 (sh_62 t) h (fun h => ?_)
      refine nd_iastoreN dX11_undo_51 (sh_61 t) h (fun σ1 h => ?_)
      refine nd_iinc (v := (x1 + (1 : Int32))) (ls' := [(1, .int (x1 + (1 : Int32))), (0, .ref 60)]) dX11_undo_52 1 rfl (congrArg (HAdd.hAdd _) ic_1) (by decide) rfl ?_
      refine nd_goto dX11_undo_55 26 (by decide) ?_
      refine nd_sub [1, 0] rfl ?_
      exact hrec26 _ _ h
set_option maxRecDepth 100000 in
set_option maxHeartbeats 4000000 in
theorem t_X11_undo (F : Nat) (t : List nd_S) (hL : (nd_SH ++ t).length < nd_ro) {z : Int32 × nd_Mem} (σ : nd_Mem) (h : f_X11_undo F σ = some z) : nd_Fn M_X11_undo (nd_rm 0) [.ref 60] (nd_SH ++ t) σ (nd_Pi (nd_SH ++ t) z) := by
  refine nd_Fn.ofV (ls := [(0, .ref 60)]) pl_X11_undo rfl (fun _ => Nat.le_of_ble_eq_true rfl) (fun _ => rfl) ?_
  unfold f_X11_undo at h
  refine nd_aload_n dX11_undo_0 0 rfl ?_
  refine nd_iconst dX11_undo_1 ic_0 ?_
  refine nd_putiN dX11_undo_2 pf_X11_132 (sh_60 t) rfl h (fun σ1 h => ?_)
  refine nd_aload_n dX11_undo_5 0 rfl ?_
  refine nd_get dX11_undo_6 gf_X11_135 (sh_60 t) rfl ?_
  refine nd_if_neN dX11_undo_9 14 (by decide) h (fun h => ?_) (fun h => ?_)
  · refine nd_aload_n dX11_undo_14 0 rfl ?_
    refine nd_aload_n dX11_undo_15 0 rfl ?_
    refine nd_get dX11_undo_16 gf_X11_135 (sh_60 t) rfl ?_
    refine nd_iconst dX11_undo_19 ic_1 ?_
    refine nd_isub dX11_undo_20 ?_
    refine nd_putiN dX11_undo_21 pf_X11_135 (sh_60 t) rfl h (fun σ2 h => ?_)
    refine nd_iconst dX11_undo_24 ic_0 ?_
    refine nd_istore_n (ls' := [(1, .int (0 : Int32)), (0, .ref 60)]) dX11_undo_25 (by decide) rfl ?_
    refine nd_sub [1, 0] rfl ?_
    exact b_X11_undo_26 F t hL F _ _ h
  · refine nd_iconst dX11_undo_12 ic_0 ?_
    exact nd_iret dX11_undo_13 (Nat.zero_le _) (Nat.zero_le _) rfl (by cases h; exact ⟨rfl, rfl, rfl⟩)
def f_X11_waits (F : Nat) (x1 : Int32) (σ : nd_Mem) : nd_Res := (if (σ 60 26) < 0 ∨ 40 ≤ ((σ 60 26)).toNatClampNeg then none else (nd_let (nd_up σ 74 ((σ 60 26)).toNatClampNeg x1) fun σ1 => (nd_let (nd_up σ1 60 26 ((σ1 60 26) + (1 : Int32))) fun σ2 => (some (0, σ2)))))
set_option maxRecDepth 100000 in
set_option maxHeartbeats 4000000 in
theorem t_X11_waits (F : Nat) (t : List nd_S) (hL : (nd_SH ++ t).length < nd_ro) {z : Int32 × nd_Mem} (x1 : Int32) (σ : nd_Mem) (h : f_X11_waits F x1 σ = some z) : nd_Fn M_X11_waits (nd_rm 0) [.ref 60, .int x1] (nd_SH ++ t) σ (nd_Pv (nd_SH ++ t) z) := by
  refine nd_Fn.ofV (ls := [(0, .ref 60), (1, .int x1)]) pl_X11_waits rfl (fun _ => Nat.le_of_ble_eq_true rfl) (fun _ => rfl) ?_
  unfold f_X11_waits at h
  refine nd_aload_n dX11_waits_0 0 rfl ?_
  refine nd_get dX11_waits_1 gf_X11_49 (sh_60 t) rfl ?_
  refine nd_aload_n dX11_waits_4 0 rfl ?_
  refine nd_get dX11_waits_5 gf_X11_226 (sh_60 t) rfl ?_
  refine nd_iload_n dX11_waits_8 1 rfl ?_
  refine nd_iastoreN dX11_waits_9 (sh_74 t) h (fun σ1 h => ?_)
  refine nd_aload_n dX11_waits_10 0 rfl ?_
  refine nd_aload_n dX11_waits_11 0 rfl ?_
  refine nd_get dX11_waits_12 gf_X11_226 (sh_60 t) rfl ?_
  refine nd_iconst dX11_waits_15 ic_1 ?_
  refine nd_iadd dX11_waits_16 ?_
  refine nd_putiN dX11_waits_17 pf_X11_226 (sh_60 t) rfl h (fun σ2 h => ?_)
  exact nd_vret dX11_waits_20 (Nat.zero_le _) (Nat.zero_le _) trivial (by cases h; exact ⟨rfl, rfl, rfl⟩)
def f_X11_wordAt_94_b (F : Nat) (rec5 : Int32 → Int32 → Int32 → Int32 → nd_Mem → nd_Res) (rec94 : Int32 → Int32 → Int32 → Int32 → nd_Mem → nd_Res) (x1 : Int32) (x2 : Int32) (x3 : Int32) (x4 : Int32) (σ : nd_Mem) : nd_Res := (if x4 < 0 ∨ 134 ≤ (x4).toNatClampNeg then none else (if (σ 66 (x4).toNatClampNeg) = (32 : Int32) then (rec5 x1 x2 x3 x4 σ) else (rec94 x1 x2 x3 (x4 + (1 : Int32)) σ)))
def f_X11_wordAt_94 (F : Nat) (rec5 : Int32 → Int32 → Int32 → Int32 → nd_Mem → nd_Res) : Nat → Int32 → Int32 → Int32 → Int32 → nd_Mem → nd_Res
  | 0, _, _, _, _, _ => none
  | m9 + 1, x1, x2, x3, x4, σ => f_X11_wordAt_94_b F rec5 (f_X11_wordAt_94 F rec5 m9) x1 x2 x3 x4 σ
def f_X11_wordAt_88 (F : Nat) (rec5 : Int32 → Int32 → Int32 → Int32 → nd_Mem → nd_Res) (x1 : Int32) (x2 : Int32) (x3 : Int32) (x4 : Int32) (σ : nd_Mem) : nd_Res := (f_X11_wordAt_94 F rec5 F x1 x2 x3 (x4 + (1 : Int32)) σ)
def f_X11_wordAt_61 (F : Nat) (rec5 : Int32 → Int32 → Int32 → Int32 → nd_Mem → nd_Res) (x1 : Int32) (x2 : Int32) (x3 : Int32) (x4 : Int32) (x5 : Int32) (σ : nd_Mem) : nd_Res := (if (x1 + x5) = x2 then (if ((x4 + (1 : Int32)) + x5) < 0 ∨ 134 ≤ (((x4 + (1 : Int32)) + x5)).toNatClampNeg then none else (if (σ 66 (((x4 + (1 : Int32)) + x5)).toNatClampNeg) = (32 : Int32) then (some (x3, σ)) else (f_X11_wordAt_88 F rec5 x1 x2 x3 x4 σ))) else (f_X11_wordAt_88 F rec5 x1 x2 x3 x4 σ))
def f_X11_wordAt_20_b (F : Nat) (rec5 : Int32 → Int32 → Int32 → Int32 → nd_Mem → nd_Res) (rec20 : Int32 → Int32 → Int32 → Int32 → Int32 → nd_Mem → nd_Res) (x1 : Int32) (x2 : Int32) (x3 : Int32) (x4 : Int32) (x5 : Int32) (σ : nd_Mem) : nd_Res := (if x2 ≤ (x1 + x5) then (f_X11_wordAt_61 F rec5 x1 x2 x3 x4 x5 σ) else (if ((x4 + (1 : Int32)) + x5) < 0 ∨ 134 ≤ (((x4 + (1 : Int32)) + x5)).toNatClampNeg then none else (if (x1 + x5) < 0 ∨ 400 ≤ ((x1 + x5)).toNatClampNeg then none else (if (σ 66 (((x4 + (1 : Int32)) + x5)).toNatClampNeg) = (σ 65 ((x1 + x5)).toNatClampNeg) then (rec20 x1 x2 x3 x4 (x5 + (1 : Int32)) σ) else (f_X11_wordAt_61 F rec5 x1 x2 x3 x4 x5 σ)))))
def f_X11_wordAt_20 (F : Nat) (rec5 : Int32 → Int32 → Int32 → Int32 → nd_Mem → nd_Res) : Nat → Int32 → Int32 → Int32 → Int32 → Int32 → nd_Mem → nd_Res
  | 0, _, _, _, _, _, _ => none
  | m9 + 1, x1, x2, x3, x4, x5, σ => f_X11_wordAt_20_b F rec5 (f_X11_wordAt_20 F rec5 m9) x1 x2 x3 x4 x5 σ
def f_X11_wordAt_5_b (F : Nat) (rec5 : Int32 → Int32 → Int32 → Int32 → nd_Mem → nd_Res) (x1 : Int32) (x2 : Int32) (x3 : Int32) (x4 : Int32) (σ : nd_Mem) : nd_Res := (if (133 : Int32) ≤ x4 then (some ((-1 : Int32), σ)) else (f_X11_wordAt_20 F rec5 F x1 x2 (x3 + (1 : Int32)) x4 (0 : Int32) σ))
def f_X11_wordAt_5 (F : Nat) : Nat → Int32 → Int32 → Int32 → Int32 → nd_Mem → nd_Res
  | 0, _, _, _, _, _ => none
  | m9 + 1, x1, x2, x3, x4, σ => f_X11_wordAt_5_b F (f_X11_wordAt_5 F m9) x1 x2 x3 x4 σ
def f_X11_wordAt (F : Nat) (x1 : Int32) (x2 : Int32) (σ : nd_Mem) : nd_Res := (f_X11_wordAt_5 F F x1 x2 (-1 : Int32) (0 : Int32) σ)
set_option maxRecDepth 100000 in
set_option maxHeartbeats 4000000 in
theorem b_X11_wordAt_94 (F : Nat) (rec5 : Int32 → Int32 → Int32 → Int32 → nd_Mem → nd_Res) (t : List nd_S) (hL : (nd_SH ++ t).length < nd_ro) {z : Int32 × nd_Mem} (hrec5 : ∀ (x1 : Int32) (x2 : Int32) (x3 : Int32) (x4 : Int32) (σ : nd_Mem), rec5 x1 x2 x3 x4 σ = some z → nd_V M_X11_wordAt (nd_rm 0) (nd_Pi (nd_SH ++ t) z) 0 0 5 [(0, .ref 60), (1, .int x1), (2, .int x2), (3, .int x3), (4, .int x4)] [] (nd_SH ++ t) σ) (m9 : Nat) : ∀ (x1 : Int32) (x2 : Int32) (x3 : Int32) (x4 : Int32) (σ : nd_Mem), f_X11_wordAt_94 F rec5 m9 x1 x2 x3 x4 σ = some z → nd_V M_X11_wordAt (nd_rm 0) (nd_Pi (nd_SH ++ t) z) 0 0 94 [(0, .ref 60), (1, .int x1), (2, .int x2), (3, .int x3), (4, .int x4)] [] (nd_SH ++ t) σ := by
  induction m9 with
  | zero =>
    intro x1 x2 x3 x4 σ h
    have h : none = some z := h
    cases h
  | succ m9 hrec94 =>
    intro x1 x2 x3 x4 σ h
    have h : f_X11_wordAt_94_b F rec5 (f_X11_wordAt_94 F rec5 m9) x1 x2 x3 x4 σ = some z := h
    unfold f_X11_wordAt_94_b at h
    refine nd_aload_n dX11_wordAt_94 0 rfl ?_
    refine nd_get dX11_wordAt_95 gf_X11_25 (sh_60 t) rfl ?_
    refine nd_iload dX11_wordAt_98 4 rfl ?_
    refine nd_ialoadN dX11_wordAt_100 (sh_66 t) h (fun h => ?_)
    refine nd_bipush dX11_wordAt_101 ib_32 ?_
    refine nd_icmp_eqN dX11_wordAt_103 115 (by decide) h (fun h => ?_) (fun h => ?_)
    · refine nd_goto dX11_wordAt_115 5 (by decide) ?_
      exact hrec5 _ _ _ _ _ h
    · refine nd_iload dX11_wordAt_106 4 rfl ?_
      refine nd_iconst dX11_wordAt_108 ic_1 ?_
      refine nd_iadd dX11_wordAt_109 ?_
      refine nd_istore (ls' := [(4, .int (x4 + (1 : Int32))), (0, .ref 60), (1, .int x1), (2, .int x2), (3, .int x3)]) dX11_wordAt_110 (by decide) rfl ?_
      refine nd_goto dX11_wordAt_112 94 (by decide) ?_
      refine nd_sub [1, 2, 3, 4, 0] rfl ?_
      exact hrec94 _ _ _ _ _ h
set_option maxRecDepth 100000 in
set_option maxHeartbeats 4000000 in
theorem b_X11_wordAt_88 (F : Nat) (rec5 : Int32 → Int32 → Int32 → Int32 → nd_Mem → nd_Res) (t : List nd_S) (hL : (nd_SH ++ t).length < nd_ro) {z : Int32 × nd_Mem} (hrec5 : ∀ (x1 : Int32) (x2 : Int32) (x3 : Int32) (x4 : Int32) (σ : nd_Mem), rec5 x1 x2 x3 x4 σ = some z → nd_V M_X11_wordAt (nd_rm 0) (nd_Pi (nd_SH ++ t) z) 0 0 5 [(0, .ref 60), (1, .int x1), (2, .int x2), (3, .int x3), (4, .int x4)] [] (nd_SH ++ t) σ) (x1 : Int32) (x2 : Int32) (x3 : Int32) (x4 : Int32) (σ : nd_Mem) (h : f_X11_wordAt_88 F rec5 x1 x2 x3 x4 σ = some z) : nd_V M_X11_wordAt (nd_rm 0) (nd_Pi (nd_SH ++ t) z) 0 0 88 [(0, .ref 60), (1, .int x1), (2, .int x2), (3, .int x3), (4, .int x4)] [] (nd_SH ++ t) σ := by
  unfold f_X11_wordAt_88 at h
  refine nd_iload dX11_wordAt_88 4 rfl ?_
  refine nd_iconst dX11_wordAt_90 ic_1 ?_
  refine nd_iadd dX11_wordAt_91 ?_
  refine nd_istore (ls' := [(4, .int (x4 + (1 : Int32))), (0, .ref 60), (1, .int x1), (2, .int x2), (3, .int x3)]) dX11_wordAt_92 (by decide) rfl ?_
  refine nd_sub [1, 2, 3, 4, 0] rfl ?_
  exact b_X11_wordAt_94 F _ t hL hrec5 F _ _ _ _ _ h
set_option maxRecDepth 100000 in
set_option maxHeartbeats 4000000 in
theorem b_X11_wordAt_61 (F : Nat) (rec5 : Int32 → Int32 → Int32 → Int32 → nd_Mem → nd_Res) (t : List nd_S) (hL : (nd_SH ++ t).length < nd_ro) {z : Int32 × nd_Mem} (hrec5 : ∀ (x1 : Int32) (x2 : Int32) (x3 : Int32) (x4 : Int32) (σ : nd_Mem), rec5 x1 x2 x3 x4 σ = some z → nd_V M_X11_wordAt (nd_rm 0) (nd_Pi (nd_SH ++ t) z) 0 0 5 [(0, .ref 60), (1, .int x1), (2, .int x2), (3, .int x3), (4, .int x4)] [] (nd_SH ++ t) σ) (x1 : Int32) (x2 : Int32) (x3 : Int32) (x4 : Int32) (x5 : Int32) (σ : nd_Mem) (h : f_X11_wordAt_61 F rec5 x1 x2 x3 x4 x5 σ = some z) : nd_V M_X11_wordAt (nd_rm 0) (nd_Pi (nd_SH ++ t) z) 0 0 61 [(0, .ref 60), (1, .int x1), (2, .int x2), (3, .int x3), (4, .int x4), (5, .int x5)] [] (nd_SH ++ t) σ := by
  unfold f_X11_wordAt_61 at h
  refine nd_iload_n dX11_wordAt_61 1 rfl ?_
  refine nd_iload dX11_wordAt_62 5 rfl ?_
  refine nd_iadd dX11_wordAt_64 ?_
  refine nd_iload_n dX11_wordAt_65 2 rfl ?_
  refine nd_icmp_neN dX11_wordAt_66 88 (by decide) h (fun h => ?_) (fun h => ?_)
  · refine nd_sub [0, 1, 2, 3, 4] rfl ?_
    exact b_X11_wordAt_88 F _ t hL hrec5 _ _ _ _ _ h
  · refine nd_aload_n dX11_wordAt_69 0 rfl ?_
    refine nd_get dX11_wordAt_70 gf_X11_25 (sh_60 t) rfl ?_
    refine nd_iload dX11_wordAt_73 4 rfl ?_
    refine nd_iconst dX11_wordAt_75 ic_1 ?_
    refine nd_iadd dX11_wordAt_76 ?_
    refine nd_iload dX11_wordAt_77 5 rfl ?_
    refine nd_iadd dX11_wordAt_79 ?_
    refine nd_ialoadN dX11_wordAt_80 (sh_66 t) h (fun h => ?_)
    refine nd_bipush dX11_wordAt_81 ib_32 ?_
    refine nd_icmp_neN dX11_wordAt_83 88 (by decide) h (fun h => ?_) (fun h => ?_)
    · refine nd_sub [0, 1, 2, 3, 4] rfl ?_
      exact b_X11_wordAt_88 F _ t hL hrec5 _ _ _ _ _ h
    · refine nd_iload_n dX11_wordAt_86 3 rfl ?_
      exact nd_iret dX11_wordAt_87 (Nat.zero_le _) (Nat.zero_le _) (vp_nar_int _) (by cases h; exact ⟨rfl, rfl, rfl⟩)
set_option maxRecDepth 100000 in
set_option maxHeartbeats 4000000 in
theorem b_X11_wordAt_20 (F : Nat) (rec5 : Int32 → Int32 → Int32 → Int32 → nd_Mem → nd_Res) (t : List nd_S) (hL : (nd_SH ++ t).length < nd_ro) {z : Int32 × nd_Mem} (hrec5 : ∀ (x1 : Int32) (x2 : Int32) (x3 : Int32) (x4 : Int32) (σ : nd_Mem), rec5 x1 x2 x3 x4 σ = some z → nd_V M_X11_wordAt (nd_rm 0) (nd_Pi (nd_SH ++ t) z) 0 0 5 [(0, .ref 60), (1, .int x1), (2, .int x2), (3, .int x3), (4, .int x4)] [] (nd_SH ++ t) σ) (m9 : Nat) : ∀ (x1 : Int32) (x2 : Int32) (x3 : Int32) (x4 : Int32) (x5 : Int32) (σ : nd_Mem), f_X11_wordAt_20 F rec5 m9 x1 x2 x3 x4 x5 σ = some z → nd_V M_X11_wordAt (nd_rm 0) (nd_Pi (nd_SH ++ t) z) 0 0 20 [(0, .ref 60), (1, .int x1), (2, .int x2), (3, .int x3), (4, .int x4), (5, .int x5)] [] (nd_SH ++ t) σ := by
  induction m9 with
  | zero =>
    intro x1 x2 x3 x4 x5 σ h
    have h : none = some z := h
    cases h
  | succ m9 hrec20 =>
    intro x1 x2 x3 x4 x5 σ h
    have h : f_X11_wordAt_20_b F rec5 (f_X11_wordAt_20 F rec5 m9) x1 x2 x3 x4 x5 σ = some z := h
    unfold f_X11_wordAt_20_b at h
    refine nd_iload_n dX11_wordAt_20 1 rfl ?_
    refine nd_iload dX11_wordAt_21 5 rfl ?_
    refine nd_iadd dX11_wordAt_23 ?_
    refine nd_iload_n dX11_wordAt_24 2 rfl ?_
    refine nd_icmp_geN dX11_wordAt_25 61 (by decide) h (fun h => ?_) (fun h => ?_)
    · exact b_X11_wordAt_61 F _ t hL hrec5 _ _ _ _ _ _ h
    · refine nd_aload_n dX11_wordAt_28 0 rfl ?_
      refine nd_get dX11_wordAt_29 gf_X11_25 (sh_60 t) rfl ?_
      refine nd_iload dX11_wordAt_32 4 rfl ?_
      refine nd_iconst dX11_wordAt_34 ic_1 ?_
      refine nd_iadd dX11_wordAt_35 ?_
      refine nd_iload dX11_wordAt_36 5 rfl ?_
      refine nd_iadd dX11_wordAt_38 ?_
      refine nd_ialoadN dX11_wordAt_39 (sh_66 t) h (fun h => ?_)
      refine nd_aload_n dX11_wordAt_40 0 rfl ?_
      refine nd_get dX11_wordAt_41 gf_X11_22 (sh_60 t) rfl ?_
      refine nd_iload_n dX11_wordAt_44 1 rfl ?_
      refine nd_iload dX11_wordAt_45 5 rfl ?_
      refine nd_iadd dX11_wordAt_47 ?_
      refine nd_ialoadN dX11_wordAt_48 (sh_65 t) h (fun h => ?_)
      refine nd_icmp_neN dX11_wordAt_49 61 (by decide) h (fun h => ?_) (fun h => ?_)
      · exact b_X11_wordAt_61 F _ t hL hrec5 _ _ _ _ _ _ h
      · refine nd_iload dX11_wordAt_52 5 rfl ?_
        refine nd_iconst dX11_wordAt_54 ic_1 ?_
        refine nd_iadd dX11_wordAt_55 ?_
        refine nd_istore (ls' := [(5, .int (x5 + (1 : Int32))), (0, .ref 60), (1, .int x1), (2, .int x2), (3, .int x3), (4, .int x4)]) dX11_wordAt_56 (by decide) rfl ?_
        refine nd_goto dX11_wordAt_58 20 (by decide) ?_
        refine nd_sub [1, 2, 3, 4, 5, 0] rfl ?_
        exact hrec20 _ _ _ _ _ _ h
set_option maxRecDepth 100000 in
set_option maxHeartbeats 4000000 in
theorem b_X11_wordAt_5 (F : Nat) (t : List nd_S) (hL : (nd_SH ++ t).length < nd_ro) {z : Int32 × nd_Mem} (m9 : Nat) : ∀ (x1 : Int32) (x2 : Int32) (x3 : Int32) (x4 : Int32) (σ : nd_Mem), f_X11_wordAt_5 F m9 x1 x2 x3 x4 σ = some z → nd_V M_X11_wordAt (nd_rm 0) (nd_Pi (nd_SH ++ t) z) 0 0 5 [(0, .ref 60), (1, .int x1), (2, .int x2), (3, .int x3), (4, .int x4)] [] (nd_SH ++ t) σ := by
  induction m9 with
  | zero =>
    intro x1 x2 x3 x4 σ h
    have h : none = some z := h
    cases h
  | succ m9 hrec5 =>
    intro x1 x2 x3 x4 σ h
    have h : f_X11_wordAt_5_b F (f_X11_wordAt_5 F m9) x1 x2 x3 x4 σ = some z := h
    unfold f_X11_wordAt_5_b at h
    refine nd_iload dX11_wordAt_5 4 rfl ?_
    refine nd_sipush dX11_wordAt_7 is_133 ?_
    refine nd_icmp_geN dX11_wordAt_10 118 (by decide) h (fun h => ?_) (fun h => ?_)
    · refine nd_iconst dX11_wordAt_118 ic_m1 ?_
      exact nd_iret dX11_wordAt_119 (Nat.zero_le _) (Nat.zero_le _) (vp_nar_int _) (by cases h; exact ⟨rfl, rfl, rfl⟩)
    · refine nd_iconst dX11_wordAt_13 ic_0 ?_
      refine nd_istore (ls' := [(5, .int (0 : Int32)), (0, .ref 60), (1, .int x1), (2, .int x2), (3, .int x3), (4, .int x4)]) dX11_wordAt_14 (by decide) rfl ?_
      refine nd_iload_n dX11_wordAt_16 4 rfl ?_
      refine nd_iconst dX11_wordAt_17 ic_1 ?_
      refine nd_iadd dX11_wordAt_18 ?_
      refine nd_istore_n (ls' := [(3, .int (x3 + (1 : Int32))), (5, .int (0 : Int32)), (0, .ref 60), (1, .int x1), (2, .int x2), (4, .int x4)]) dX11_wordAt_19 (by decide) rfl ?_
      refine nd_sub [2, 3, 4, 0, 5, 1] rfl ?_
      exact b_X11_wordAt_20 F _ t hL hrec5 F _ _ _ _ _ _ h
set_option maxRecDepth 100000 in
set_option maxHeartbeats 4000000 in
theorem t_X11_wordAt (F : Nat) (t : List nd_S) (hL : (nd_SH ++ t).length < nd_ro) {z : Int32 × nd_Mem} (x1 : Int32) (x2 : Int32) (σ : nd_Mem) (h : f_X11_wordAt F x1 x2 σ = some z) : nd_Fn M_X11_wordAt (nd_rm 0) [.ref 60, .int x1, .int x2] (nd_SH ++ t) σ (nd_Pi (nd_SH ++ t) z) := by
  refine nd_Fn.ofV (ls := [(0, .ref 60), (1, .int x1), (2, .int x2)]) pl_X11_wordAt rfl (fun _ => Nat.le_of_ble_eq_true rfl) (fun _ => rfl) ?_
  unfold f_X11_wordAt at h
  refine nd_iconst dX11_wordAt_0 ic_m1 ?_
  refine nd_istore_n (ls' := [(3, .int (-1 : Int32)), (0, .ref 60), (1, .int x1), (2, .int x2)]) dX11_wordAt_1 (by decide) rfl ?_
  refine nd_iconst dX11_wordAt_2 ic_0 ?_
  refine nd_istore (ls' := [(4, .int (0 : Int32)), (3, .int (-1 : Int32)), (0, .ref 60), (1, .int x1), (2, .int x2)]) dX11_wordAt_3 (by decide) rfl ?_
  refine nd_sub [2, 3, 4, 1, 0] rfl ?_
  exact b_X11_wordAt_5 F t hL F _ _ _ _ _ h
def f_X11_book_45 (F : Nat) (σ : nd_Mem) : nd_Res := (some ((-1 : Int32), σ))
def f_X11_book (F : Nat) (x1 : Int32) (x2 : Int32) (σ : nd_Mem) : nd_Res := (nd_let (nd_up σ 60 0 (0 : Int32)) fun σ1 => (if (2 : Int32) < 0 ∨ 103 ≤ ((2 : Int32)).toNatClampNeg then none else (nd_bind (f_X11_isIn F x1 (0 : Int32) ((σ1 61 ((2 : Int32)).toNatClampNeg) - (1 : Int32)) σ1) fun r2 σ3 => (if r2 = 0 then (f_X11_book_45 F σ3) else (nd_bind (f_X11_isIn F x2 (0 : Int32) (3 : Int32) σ3) fun r5 σ6 => (if r5 = 0 then (f_X11_book_45 F σ6) else (if (((4 : Int32) * x1) + x2) < 0 ∨ 600 ≤ ((((4 : Int32) * x1) + x2)).toNatClampNeg then none else (some ((σ6 64 ((((4 : Int32) * x1) + x2)).toNatClampNeg), σ6)))))))))
set_option maxRecDepth 100000 in
set_option maxHeartbeats 4000000 in
theorem b_X11_book_45 (F : Nat) (t : List nd_S) (hL : (nd_SH ++ t).length < nd_ro) {z : Int32 × nd_Mem} (σ : nd_Mem) (h : f_X11_book_45 F σ = some z) : nd_V M_X11_book (nd_rm 1) (nd_Pi (nd_SH ++ t) z) 0 0 45 [(0, .ref 60)] [] (nd_SH ++ t) σ := by
  unfold f_X11_book_45 at h
  refine nd_iconst dX11_book_45 ic_m1 ?_
  exact nd_iret dX11_book_46 (Nat.zero_le _) (Nat.zero_le _) (vp_nar_int _) (by cases h; exact ⟨rfl, rfl, rfl⟩)
set_option maxRecDepth 100000 in
set_option maxHeartbeats 4000000 in
theorem t_X11_book (F : Nat) (t : List nd_S) (hL : (nd_SH ++ t).length < nd_ro) {z : Int32 × nd_Mem} (x1 : Int32) (x2 : Int32) (σ : nd_Mem) (h : f_X11_book F x1 x2 σ = some z) : nd_Fn M_X11_book (nd_rm 1) [.ref 60, .int x1, .int x2] (nd_SH ++ t) σ (nd_Pi (nd_SH ++ t) z) := by
  refine nd_Fn.ofV (ls := [(0, .ref 60), (1, .int x1), (2, .int x2)]) pl_X11_book rfl (fun _ => Nat.le_of_ble_eq_true rfl) (fun _ => rfl) ?_
  unfold f_X11_book at h
  refine nd_aload_n dX11_book_0 0 rfl ?_
  refine nd_iconst dX11_book_1 ic_0 ?_
  refine nd_putiN dX11_book_2 pf_X11_132 (sh_60 t) rfl h (fun σ1 h => ?_)
  refine nd_aload_n dX11_book_5 0 rfl ?_
  refine nd_iload_n dX11_book_6 1 rfl ?_
  refine nd_iconst dX11_book_7 ic_0 ?_
  refine nd_aload_n dX11_book_8 0 rfl ?_
  refine nd_get dX11_book_9 gf_X11_7 (sh_60 t) rfl ?_
  refine nd_iconst dX11_book_12 ic_2 ?_
  refine nd_ialoadN dX11_book_13 (sh_61 t) h (fun h => ?_)
  refine nd_iconst dX11_book_14 ic_1 ?_
  refine nd_isub dX11_book_15 ?_
  obtain ⟨r2, σ3, hc4, h⟩ := nd_bind_e h
  refine nd_cvi [.int x1, .int (0 : Int32), .int ((σ1 61 ((2 : Int32)).toNatClampNeg) - (1 : Int32))] [] dX11_book_16 cl_X11_147 (sh_60 t) ⟨Nat.le_of_ble_eq_true rfl, Nat.le_of_ble_eq_true rfl⟩ rfl (Nat.le_of_ble_eq_true rfl) hL (t_X11_isIn F t hL _ _ _ _ hc4) ?_
  refine nd_if_eqN dX11_book_19 45 (by decide) h (fun h => ?_) (fun h => ?_)
  · refine nd_sub [0] rfl ?_
    exact b_X11_book_45 F t hL _ h
  · refine nd_aload_n dX11_book_22 0 rfl ?_
    refine nd_iload_n dX11_book_23 2 rfl ?_
    refine nd_iconst dX11_book_24 ic_0 ?_
    refine nd_iconst dX11_book_25 ic_3 ?_
    obtain ⟨r5, σ6, hc7, h⟩ := nd_bind_e h
    refine nd_cvi [.int x2, .int (0 : Int32), .int (3 : Int32)] [] dX11_book_26 cl_X11_147 (sh_60 t) ⟨Nat.le_of_ble_eq_true rfl, Nat.le_of_ble_eq_true rfl⟩ rfl (Nat.le_of_ble_eq_true rfl) hL (t_X11_isIn F t hL _ _ _ _ hc7) ?_
    refine nd_if_eqN dX11_book_29 45 (by decide) h (fun h => ?_) (fun h => ?_)
    · refine nd_sub [0] rfl ?_
      exact b_X11_book_45 F t hL _ h
    · refine nd_aload_n dX11_book_32 0 rfl ?_
      refine nd_get dX11_book_33 gf_X11_19 (sh_60 t) rfl ?_
      refine nd_iconst dX11_book_36 ic_4 ?_
      refine nd_iload_n dX11_book_37 1 rfl ?_
      refine nd_imul dX11_book_38 ?_
      refine nd_iload_n dX11_book_39 2 rfl ?_
      refine nd_iadd dX11_book_40 ?_
      refine nd_ialoadN dX11_book_41 (sh_64 t) h (fun h => ?_)
      refine nd_goto dX11_book_42 46 (by decide) ?_
      exact nd_iret dX11_book_46 (Nat.zero_le _) (Nat.zero_le _) (vp_nar_int _) (by cases h; exact ⟨rfl, rfl, rfl⟩)
def f_X11_bought_17_b (F : Nat) (rec17 : Int32 → nd_Mem → nd_Res) (x3 : Int32) (σ : nd_Mem) : nd_Res := (if (9 : Int32) ≤ x3 then (some ((0 : Int32), σ)) else (if x3 < 0 ∨ 9 ≤ (x3).toNatClampNeg then none else (nd_let (nd_up σ 85 (x3).toNatClampNeg (0 : Int32)) fun σ1 => (if x3 < 0 ∨ 9 ≤ (x3).toNatClampNeg then none else (nd_let (nd_up σ1 86 (x3).toNatClampNeg (0 : Int32)) fun σ2 => (if x3 < 0 ∨ 9 ≤ (x3).toNatClampNeg then none else (nd_let (nd_up σ2 87 (x3).toNatClampNeg (0 : Int32)) fun σ3 => (rec17 (x3 + (1 : Int32)) σ3))))))))
def f_X11_bought_17 (F : Nat) : Nat → Int32 → nd_Mem → nd_Res
  | 0, _, _ => none
  | m9 + 1, x3, σ => f_X11_bought_17_b F (f_X11_bought_17 F m9) x3 σ
def f_X11_bought_88 (F : Nat) (σ : nd_Mem) : nd_Res := (some ((-1 : Int32), σ))
def f_X11_bought (F : Nat) (x1 : Int32) (x2 : Int32) (σ : nd_Mem) : nd_Res := (nd_let (nd_up σ 60 0 (0 : Int32)) fun σ1 => (if x1 = (-1 : Int32) then (nd_let (nd_up σ1 60 45 (0 : Int32)) fun σ13 => (f_X11_bought_17 F F (0 : Int32) σ13)) else (nd_bind (f_X11_isIn F x1 (0 : Int32) (8 : Int32) σ1) fun r2 σ3 => (if r2 = 0 then (f_X11_bought_88 F σ3) else (nd_bind (f_X11_isIn F x2 (0 : Int32) (8 : Int32) σ3) fun r5 σ6 => (if r5 = 0 then (f_X11_bought_88 F σ6) else (if x1 = x2 then (f_X11_bought_88 F σ6) else (if (σ6 60 45) = (6 : Int32) then (f_X11_bought_88 F σ6) else (if x1 < 0 ∨ 9 ≤ (x1).toNatClampNeg then none else (if x1 < 0 ∨ 9 ≤ (x1).toNatClampNeg then none else (nd_let (nd_up σ6 85 (x1).toNatClampNeg ((σ6 85 (x1).toNatClampNeg) ||| ((1 : Int32) <<< (x2 &&& 31)))) fun σ8 => (if x2 < 0 ∨ 9 ≤ (x2).toNatClampNeg then none else (if x2 < 0 ∨ 9 ≤ (x2).toNatClampNeg then none else (nd_let (nd_up σ8 85 (x2).toNatClampNeg ((σ8 85 (x2).toNatClampNeg) ||| ((1 : Int32) <<< (x1 &&& 31)))) fun σ9 => (if x1 < 0 ∨ 9 ≤ (x1).toNatClampNeg then none else (if x1 < 0 ∨ 9 ≤ (x1).toNatClampNeg then none else (nd_let (nd_up σ9 86 (x1).toNatClampNeg ((σ9 86 (x1).toNatClampNeg) ||| ((1 : Int32) <<< (x2 &&& 31)))) fun σ10 => (if x2 < 0 ∨ 9 ≤ (x2).toNatClampNeg then none else (if x2 < 0 ∨ 9 ≤ (x2).toNatClampNeg then none else (nd_let (nd_up σ10 87 (x2).toNatClampNeg ((σ10 87 (x2).toNatClampNeg) ||| ((1 : Int32) <<< (x1 &&& 31)))) fun σ11 => (nd_let (nd_up σ11 60 45 ((σ11 60 45) + (1 : Int32))) fun σ12 => (some ((σ12 60 45), σ12)))))))))))))))))))))))
set_option maxRecDepth 100000 in
set_option maxHeartbeats 4000000 in
theorem b_X11_bought_17 (F : Nat) (t : List nd_S) (hL : (nd_SH ++ t).length < nd_ro) {z : Int32 × nd_Mem} (m9 : Nat) : ∀ (x3 : Int32) (σ : nd_Mem), f_X11_bought_17 F m9 x3 σ = some z → nd_V M_X11_bought (nd_rm 1) (nd_Pi (nd_SH ++ t) z) 0 0 17 [(0, .ref 60), (3, .int x3)] [] (nd_SH ++ t) σ := by
  induction m9 with
  | zero =>
    intro x3 σ h
    have h : none = some z := h
    cases h
  | succ m9 hrec17 =>
    intro x3 σ h
    have h : f_X11_bought_17_b F (f_X11_bought_17 F m9) x3 σ = some z := h
    unfold f_X11_bought_17_b at h
    refine nd_iload_n dX11_bought_17 1 rfl ?_
    refine nd_bipush dX11_bought_18 ib_9 ?_
    refine nd_icmp_geN dX11_bought_20 50 (by decide) h (fun h => ?_) (fun h => ?_)
    · refine nd_iconst dX11_bought_50 ic_0 ?_
      exact nd_iret dX11_bought_51 (Nat.zero_le _) (Nat.zero_le _) (vp_nar_int _) (by cases h; exact ⟨rfl, rfl, rfl⟩)
    · refine nd_aload_n dX11_bought_23 0 rfl ?_
      refine nd_get dX11_bought_24 gf_X11_86 (sh_60 t) rfl ?_
      refine nd_iload_n dX11_bought_27 1 rfl ?_
      refine nd_iconst dX11_bought_28 ic_0 ?_
      refine nd_iastoreN dX11_bought_29 (sh_85 t) h (fun σ1 h => ?_)
      refine nd_aload_n dX11_bought_30 0 rfl ?_
      refine nd_get dX11_bought_31 gf_X11_89 (sh_60 t) rfl ?_
      refine nd_iload_n dX11_bought_34 1 rfl ?_
      refine nd_iconst dX11_bought_35 ic_0 ?_
      refine nd_iastoreN dX11_bought_36 (sh_86 t) h (fun σ2 h => ?_)
      refine nd_aload_n dX11_bought_37 0 rfl ?_
      refine nd_get dX11_bought_38 gf_X11_92 (sh_60 t) rfl ?_
      refine nd_iload_n dX11_bought_41 1 rfl ?_
      refine nd_iconst dX11_bought_42 ic_0 ?_
      refine nd_iastoreN dX11_bought_43 (sh_87 t) h (fun σ3 h => ?_)
      refine nd_iinc (v := (x3 + (1 : Int32))) (ls' := [(3, .int (x3 + (1 : Int32))), (0, .ref 60)]) dX11_bought_44 1 rfl (congrArg (HAdd.hAdd _) ic_1) (by decide) rfl ?_
      refine nd_goto dX11_bought_47 17 (by decide) ?_
      refine nd_sub [1, 0] rfl ?_
      exact hrec17 _ _ h
set_option maxRecDepth 100000 in
set_option maxHeartbeats 4000000 in
theorem b_X11_bought_88 (F : Nat) (t : List nd_S) (hL : (nd_SH ++ t).length < nd_ro) {z : Int32 × nd_Mem} (σ : nd_Mem) (h : f_X11_bought_88 F σ = some z) : nd_V M_X11_bought (nd_rm 1) (nd_Pi (nd_SH ++ t) z) 0 0 88 [(0, .ref 60)] [] (nd_SH ++ t) σ := by
  unfold f_X11_bought_88 at h
  refine nd_iconst dX11_bought_88 ic_m1 ?_
  exact nd_iret dX11_bought_89 (Nat.zero_le _) (Nat.zero_le _) (vp_nar_int _) (by cases h; exact ⟨rfl, rfl, rfl⟩)
set_option maxRecDepth 100000 in
set_option maxHeartbeats 4000000 in
theorem t_X11_bought (F : Nat) (t : List nd_S) (hL : (nd_SH ++ t).length < nd_ro) {z : Int32 × nd_Mem} (x1 : Int32) (x2 : Int32) (σ : nd_Mem) (h : f_X11_bought F x1 x2 σ = some z) : nd_Fn M_X11_bought (nd_rm 1) [.ref 60, .int x1, .int x2] (nd_SH ++ t) σ (nd_Pi (nd_SH ++ t) z) := by
  refine nd_Fn.ofV (ls := [(0, .ref 60), (1, .int x1), (2, .int x2)]) pl_X11_bought rfl (fun _ => Nat.le_of_ble_eq_true rfl) (fun _ => rfl) ?_
  unfold f_X11_bought at h
  refine nd_aload_n dX11_bought_0 0 rfl ?_
  refine nd_iconst dX11_bought_1 ic_0 ?_
  refine nd_putiN dX11_bought_2 pf_X11_132 (sh_60 t) rfl h (fun σ1 h => ?_)
  refine nd_iload_n dX11_bought_5 1 rfl ?_
  refine nd_iconst dX11_bought_6 ic_m1 ?_
  refine nd_icmp_neN dX11_bought_7 52 (by decide) h (fun h => ?_) (fun h => ?_)
  · refine nd_aload_n dX11_bought_52 0 rfl ?_
    refine nd_iload_n dX11_bought_53 1 rfl ?_
    refine nd_iconst dX11_bought_54 ic_0 ?_
    refine nd_bipush dX11_bought_55 ib_8 ?_
    obtain ⟨r2, σ3, hc4, h⟩ := nd_bind_e h
    refine nd_cvi [.int x1, .int (0 : Int32), .int (8 : Int32)] [] dX11_bought_57 cl_X11_147 (sh_60 t) ⟨Nat.le_of_ble_eq_true rfl, Nat.le_of_ble_eq_true rfl⟩ rfl (Nat.le_of_ble_eq_true rfl) hL (t_X11_isIn F t hL _ _ _ _ hc4) ?_
    refine nd_if_eqN dX11_bought_60 88 (by decide) h (fun h => ?_) (fun h => ?_)
    · refine nd_sub [0] rfl ?_
      exact b_X11_bought_88 F t hL _ h
    · refine nd_aload_n dX11_bought_63 0 rfl ?_
      refine nd_iload_n dX11_bought_64 2 rfl ?_
      refine nd_iconst dX11_bought_65 ic_0 ?_
      refine nd_bipush dX11_bought_66 ib_8 ?_
      obtain ⟨r5, σ6, hc7, h⟩ := nd_bind_e h
      refine nd_cvi [.int x2, .int (0 : Int32), .int (8 : Int32)] [] dX11_bought_68 cl_X11_147 (sh_60 t) ⟨Nat.le_of_ble_eq_true rfl, Nat.le_of_ble_eq_true rfl⟩ rfl (Nat.le_of_ble_eq_true rfl) hL (t_X11_isIn F t hL _ _ _ _ hc7) ?_
      refine nd_if_eqN dX11_bought_71 88 (by decide) h (fun h => ?_) (fun h => ?_)
      · refine nd_sub [0] rfl ?_
        exact b_X11_bought_88 F t hL _ h
      · refine nd_iload_n dX11_bought_74 1 rfl ?_
        refine nd_iload_n dX11_bought_75 2 rfl ?_
        refine nd_icmp_eqN dX11_bought_76 88 (by decide) h (fun h => ?_) (fun h => ?_)
        · refine nd_sub [0] rfl ?_
          exact b_X11_bought_88 F t hL _ h
        · refine nd_aload_n dX11_bought_79 0 rfl ?_
          refine nd_get dX11_bought_80 gf_X11_407 (sh_60 t) rfl ?_
          refine nd_bipush dX11_bought_83 ib_6 ?_
          refine nd_icmp_neN dX11_bought_85 90 (by decide) h (fun h => ?_) (fun h => ?_)
          · refine nd_aload_n dX11_bought_90 0 rfl ?_
            refine nd_get dX11_bought_91 gf_X11_86 (sh_60 t) rfl ?_
            refine nd_iload_n dX11_bought_94 1 rfl ?_
            refine nd_aload_n dX11_bought_95 0 rfl ?_
            refine nd_get dX11_bought_96 gf_X11_86 (sh_60 t) rfl ?_
            refine nd_iload_n dX11_bought_99 1 rfl ?_
            refine nd_ialoadN dX11_bought_100 (sh_85 t) h (fun h => ?_)
            refine nd_iconst dX11_bought_101 ic_1 ?_
            refine nd_iload_n dX11_bought_102 2 rfl ?_
            refine nd_ishl dX11_bought_103 ?_
            refine nd_ior dX11_bought_104 ?_
            refine nd_iastoreN dX11_bought_105 (sh_85 t) h (fun σ8 h => ?_)
            refine nd_aload_n dX11_bought_106 0 rfl ?_
            refine nd_get dX11_bought_107 gf_X11_86 (sh_60 t) rfl ?_
            refine nd_iload_n dX11_bought_110 2 rfl ?_
            refine nd_aload_n dX11_bought_111 0 rfl ?_
            refine nd_get dX11_bought_112 gf_X11_86 (sh_60 t) rfl ?_
            refine nd_iload_n dX11_bought_115 2 rfl ?_
            refine nd_ialoadN dX11_bought_116 (sh_85 t) h (fun h => ?_)
            refine nd_iconst dX11_bought_117 ic_1 ?_
            refine nd_iload_n dX11_bought_118 1 rfl ?_
            refine nd_ishl dX11_bought_119 ?_
            refine nd_ior dX11_bought_120 ?_
            refine nd_iastoreN dX11_bought_121 (sh_85 t) h (fun σ9 h => ?_)
            refine nd_aload_n dX11_bought_122 0 rfl ?_
            refine nd_get dX11_bought_123 gf_X11_89 (sh_60 t) rfl ?_
            refine nd_iload_n dX11_bought_126 1 rfl ?_
            refine nd_aload_n dX11_bought_127 0 rfl ?_
            refine nd_get dX11_bought_128 gf_X11_89 (sh_60 t) rfl ?_
            refine nd_iload_n dX11_bought_131 1 rfl ?_
            refine nd_ialoadN dX11_bought_132 (sh_86 t) h (fun h => ?_)
            refine nd_iconst dX11_bought_133 ic_1 ?_
            refine nd_iload_n dX11_bought_134 2 rfl ?_
            refine nd_ishl dX11_bought_135 ?_
            refine nd_ior dX11_bought_136 ?_
            refine nd_iastoreN dX11_bought_137 (sh_86 t) h (fun σ10 h => ?_)
            refine nd_aload_n dX11_bought_138 0 rfl ?_
            refine nd_get dX11_bought_139 gf_X11_92 (sh_60 t) rfl ?_
            refine nd_iload_n dX11_bought_142 2 rfl ?_
            refine nd_aload_n dX11_bought_143 0 rfl ?_
            refine nd_get dX11_bought_144 gf_X11_92 (sh_60 t) rfl ?_
            refine nd_iload_n dX11_bought_147 2 rfl ?_
            refine nd_ialoadN dX11_bought_148 (sh_87 t) h (fun h => ?_)
            refine nd_iconst dX11_bought_149 ic_1 ?_
            refine nd_iload_n dX11_bought_150 1 rfl ?_
            refine nd_ishl dX11_bought_151 ?_
            refine nd_ior dX11_bought_152 ?_
            refine nd_iastoreN dX11_bought_153 (sh_87 t) h (fun σ11 h => ?_)
            refine nd_aload_n dX11_bought_154 0 rfl ?_
            refine nd_aload_n dX11_bought_155 0 rfl ?_
            refine nd_get dX11_bought_156 gf_X11_407 (sh_60 t) rfl ?_
            refine nd_iconst dX11_bought_159 ic_1 ?_
            refine nd_iadd dX11_bought_160 ?_
            refine nd_putiN dX11_bought_161 pf_X11_407 (sh_60 t) rfl h (fun σ12 h => ?_)
            refine nd_aload_n dX11_bought_164 0 rfl ?_
            refine nd_get dX11_bought_165 gf_X11_407 (sh_60 t) rfl ?_
            exact nd_iret dX11_bought_168 (Nat.zero_le _) (Nat.zero_le _) (vp_nar_int _) (by cases h; exact ⟨rfl, rfl, rfl⟩)
          · refine nd_sub [0] rfl ?_
            exact b_X11_bought_88 F t hL _ h
  · refine nd_aload_n dX11_bought_10 0 rfl ?_
    refine nd_iconst dX11_bought_11 ic_0 ?_
    refine nd_putiN dX11_bought_12 pf_X11_407 (sh_60 t) rfl h (fun σ13 h => ?_)
    refine nd_iconst dX11_bought_15 ic_0 ?_
    refine nd_istore_n (ls' := [(3, .int (0 : Int32)), (0, .ref 60), (1, .int x1), (2, .int x2)]) dX11_bought_16 (by decide) rfl ?_
    refine nd_sub [1, 0] rfl ?_
    exact b_X11_bought_17 F t hL F _ _ h
def f_X11_canAsk (F : Nat) (x1 : Int32) (σ : nd_Mem) : nd_Res := (nd_bind (f_X11_isIn F x1 (7 : Int32) (16 : Int32) σ) fun r1 σ2 => (if ¬ (r1 = 0 ∨ r1 = 1) then none else (some (r1, σ2))))
set_option maxRecDepth 100000 in
set_option maxHeartbeats 4000000 in
theorem t_X11_canAsk (F : Nat) (t : List nd_S) (hL : (nd_SH ++ t).length < nd_ro) {z : Int32 × nd_Mem} (x1 : Int32) (σ : nd_Mem) (h : f_X11_canAsk F x1 σ = some z) : nd_Fn M_X11_canAsk (nd_rm 1) [.ref 60, .int x1] (nd_SH ++ t) σ (nd_Pi (nd_SH ++ t) z) := by
  refine nd_Fn.ofV (ls := [(0, .ref 60), (1, .int x1)]) pl_X11_canAsk rfl (fun _ => Nat.le_of_ble_eq_true rfl) (fun _ => rfl) ?_
  unfold f_X11_canAsk at h
  refine nd_aload_n dX11_canAsk_0 0 rfl ?_
  refine nd_iload_n dX11_canAsk_1 1 rfl ?_
  refine nd_bipush dX11_canAsk_2 ib_7 ?_
  refine nd_bipush dX11_canAsk_4 ib_16 ?_
  obtain ⟨r1, σ2, hc3, h⟩ := nd_bind_e h
  refine nd_cvi [.int x1, .int (7 : Int32), .int (16 : Int32)] [] dX11_canAsk_6 cl_X11_147 (sh_60 t) ⟨Nat.le_of_ble_eq_true rfl, Nat.le_of_ble_eq_true rfl⟩ rfl (Nat.le_of_ble_eq_true rfl) hL (t_X11_isIn F t hL _ _ _ _ hc3) ?_
  have hz4 := nd_no_e h
  have h := hz4.2
  exact nd_iret dX11_canAsk_9 (Nat.zero_le _) (Nat.zero_le _) (nd_zok rfl (Classical.not_not.mp hz4.1)) (by cases h; exact ⟨rfl, rfl, rfl⟩)
def f_X11_canMove_68 (F : Nat) (σ : nd_Mem) : nd_Res := (some ((0 : Int32), σ))
def f_X11_canMove_77 (F : Nat) (rec4 : Int32 → Int32 → Int32 → nd_Mem → nd_Res) (x1 : Int32) (x2 : Int32) (x3 : Int32) (σ : nd_Mem) : nd_Res := (rec4 x1 x2 (x3 + (1 : Int32)) σ)
def f_X11_canMove_70 (F : Nat) (rec4 : Int32 → Int32 → Int32 → nd_Mem → nd_Res) (x1 : Int32) (x2 : Int32) (x3 : Int32) (x4 : Int32) (σ : nd_Mem) : nd_Res := (f_X11_canMove_77 F rec4 x1 (x2 ||| ((1 : Int32) <<< (x4 &&& 31))) x3 σ)
def f_X11_canMove_4_b (F : Nat) (rec4 : Int32 → Int32 → Int32 → nd_Mem → nd_Res) (x1 : Int32) (x2 : Int32) (x3 : Int32) (σ : nd_Mem) : nd_Res := (if (10 : Int32) ≤ x3 then (some ((1 : Int32), σ)) else (nd_bind (f_X11_has F x1 x3 σ) fun r1 σ2 => (if r1 = 0 then (f_X11_canMove_77 F rec4 x1 x2 x3 σ2) else (if x3 < 0 ∨ 10 ≤ (x3).toNatClampNeg then none else (if ((σ2 95 (x3).toNatClampNeg) - (2 : Int32)) < 0 then (f_X11_canMove_68 F σ2) else (nd_bind (f_X11_has F x2 ((σ2 95 (x3).toNatClampNeg) - (2 : Int32)) σ2) fun r4 σ5 => (if r4 = 0 then (if ((σ2 95 (x3).toNatClampNeg) - (2 : Int32)) < 0 ∨ 10 ≤ (((σ2 95 (x3).toNatClampNeg) - (2 : Int32))).toNatClampNeg then none else (if (σ5 95 (((σ2 95 (x3).toNatClampNeg) - (2 : Int32))).toNatClampNeg) = (1 : Int32) then (f_X11_canMove_70 F rec4 x1 x2 x3 ((σ2 95 (x3).toNatClampNeg) - (2 : Int32)) σ5) else (nd_bind (f_X11_has F x1 ((σ2 95 (x3).toNatClampNeg) - (2 : Int32)) σ5) fun r7 σ8 => (if r7 = 0 then (f_X11_canMove_68 F σ8) else (f_X11_canMove_70 F rec4 x1 x2 x3 ((σ2 95 (x3).toNatClampNeg) - (2 : Int32)) σ8))))) else (f_X11_canMove_68 F σ5))))))))
def f_X11_canMove_4 (F : Nat) : Nat → Int32 → Int32 → Int32 → nd_Mem → nd_Res
  | 0, _, _, _, _ => none
  | m9 + 1, x1, x2, x3, σ => f_X11_canMove_4_b F (f_X11_canMove_4 F m9) x1 x2 x3 σ
def f_X11_canMove (F : Nat) (x1 : Int32) (σ : nd_Mem) : nd_Res := (f_X11_canMove_4 F F x1 (0 : Int32) (0 : Int32) σ)
set_option maxRecDepth 100000 in
set_option maxHeartbeats 4000000 in
theorem b_X11_canMove_68 (F : Nat) (t : List nd_S) (hL : (nd_SH ++ t).length < nd_ro) {z : Int32 × nd_Mem} (σ : nd_Mem) (h : f_X11_canMove_68 F σ = some z) : nd_V M_X11_canMove (nd_rm 1) (nd_Pi (nd_SH ++ t) z) 0 0 68 [(0, .ref 60)] [] (nd_SH ++ t) σ := by
  unfold f_X11_canMove_68 at h
  refine nd_iconst dX11_canMove_68 ic_0 ?_
  exact nd_iret dX11_canMove_69 (Nat.zero_le _) (Nat.zero_le _) rfl (by cases h; exact ⟨rfl, rfl, rfl⟩)
set_option maxRecDepth 100000 in
set_option maxHeartbeats 4000000 in
theorem b_X11_canMove_77 (F : Nat) (rec4 : Int32 → Int32 → Int32 → nd_Mem → nd_Res) (t : List nd_S) (hL : (nd_SH ++ t).length < nd_ro) {z : Int32 × nd_Mem} (hrec4 : ∀ (x1 : Int32) (x2 : Int32) (x3 : Int32) (σ : nd_Mem), rec4 x1 x2 x3 σ = some z → nd_V M_X11_canMove (nd_rm 1) (nd_Pi (nd_SH ++ t) z) 0 0 4 [(0, .ref 60), (1, .int x1), (2, .int x2), (3, .int x3)] [] (nd_SH ++ t) σ) (x1 : Int32) (x2 : Int32) (x3 : Int32) (σ : nd_Mem) (h : f_X11_canMove_77 F rec4 x1 x2 x3 σ = some z) : nd_V M_X11_canMove (nd_rm 1) (nd_Pi (nd_SH ++ t) z) 0 0 77 [(0, .ref 60), (1, .int x1), (2, .int x2), (3, .int x3)] [] (nd_SH ++ t) σ := by
  unfold f_X11_canMove_77 at h
  refine nd_iinc (v := (x3 + (1 : Int32))) (ls' := [(3, .int (x3 + (1 : Int32))), (0, .ref 60), (1, .int x1), (2, .int x2)]) dX11_canMove_77 3 rfl (congrArg (HAdd.hAdd _) ic_1) (by decide) rfl ?_
  refine nd_goto dX11_canMove_80 4 (by decide) ?_
  refine nd_sub [1, 2, 3, 0] rfl ?_
  exact hrec4 _ _ _ _ h
set_option maxRecDepth 100000 in
set_option maxHeartbeats 4000000 in
theorem b_X11_canMove_70 (F : Nat) (rec4 : Int32 → Int32 → Int32 → nd_Mem → nd_Res) (t : List nd_S) (hL : (nd_SH ++ t).length < nd_ro) {z : Int32 × nd_Mem} (hrec4 : ∀ (x1 : Int32) (x2 : Int32) (x3 : Int32) (σ : nd_Mem), rec4 x1 x2 x3 σ = some z → nd_V M_X11_canMove (nd_rm 1) (nd_Pi (nd_SH ++ t) z) 0 0 4 [(0, .ref 60), (1, .int x1), (2, .int x2), (3, .int x3)] [] (nd_SH ++ t) σ) (x1 : Int32) (x2 : Int32) (x3 : Int32) (x4 : Int32) (σ : nd_Mem) (h : f_X11_canMove_70 F rec4 x1 x2 x3 x4 σ = some z) : nd_V M_X11_canMove (nd_rm 1) (nd_Pi (nd_SH ++ t) z) 0 0 70 [(0, .ref 60), (1, .int x1), (2, .int x2), (3, .int x3), (4, .int x4)] [] (nd_SH ++ t) σ := by
  unfold f_X11_canMove_70 at h
  refine nd_iload_n dX11_canMove_70 2 rfl ?_
  refine nd_iconst dX11_canMove_71 ic_1 ?_
  refine nd_iload dX11_canMove_72 4 rfl ?_
  refine nd_ishl dX11_canMove_74 ?_
  refine nd_ior dX11_canMove_75 ?_
  refine nd_istore_n (ls' := [(2, .int (x2 ||| ((1 : Int32) <<< (x4 &&& 31)))), (0, .ref 60), (1, .int x1), (3, .int x3), (4, .int x4)]) dX11_canMove_76 (by decide) rfl ?_
  refine nd_sub [1, 2, 0, 3] rfl ?_
  exact b_X11_canMove_77 F _ t hL hrec4 _ _ _ _ h
set_option maxRecDepth 100000 in
set_option maxHeartbeats 4000000 in
theorem b_X11_canMove_4 (F : Nat) (t : List nd_S) (hL : (nd_SH ++ t).length < nd_ro) {z : Int32 × nd_Mem} (m9 : Nat) : ∀ (x1 : Int32) (x2 : Int32) (x3 : Int32) (σ : nd_Mem), f_X11_canMove_4 F m9 x1 x2 x3 σ = some z → nd_V M_X11_canMove (nd_rm 1) (nd_Pi (nd_SH ++ t) z) 0 0 4 [(0, .ref 60), (1, .int x1), (2, .int x2), (3, .int x3)] [] (nd_SH ++ t) σ := by
  induction m9 with
  | zero =>
    intro x1 x2 x3 σ h
    have h : none = some z := h
    cases h
  | succ m9 hrec4 =>
    intro x1 x2 x3 σ h
    have h : f_X11_canMove_4_b F (f_X11_canMove_4 F m9) x1 x2 x3 σ = some z := h
    unfold f_X11_canMove_4_b at h
    refine nd_iload_n dX11_canMove_4 3 rfl ?_
    refine nd_bipush dX11_canMove_5 ib_10 ?_
    refine nd_icmp_geN dX11_canMove_7 83 (by decide) h (fun h => ?_) (fun h => ?_)
    · refine nd_iconst dX11_canMove_83 ic_1 ?_
      exact nd_iret dX11_canMove_84 (Nat.zero_le _) (Nat.zero_le _) rfl (by cases h; exact ⟨rfl, rfl, rfl⟩)
    · refine nd_aload_n dX11_canMove_10 0 rfl ?_
      refine nd_iload_n dX11_canMove_11 1 rfl ?_
      refine nd_iload_n dX11_canMove_12 3 rfl ?_
      obtain ⟨r1, σ2, hc3, h⟩ := nd_bind_e h
      refine nd_cvi [.int x1, .int x3] [] dX11_canMove_13 cl_X11_328 (sh_60 t) ⟨Nat.le_of_ble_eq_true rfl, Nat.le_of_ble_eq_true rfl⟩ rfl (Nat.le_of_ble_eq_true rfl) hL (t_X11_has F t hL _ _ _ hc3) ?_
      refine nd_if_neN dX11_canMove_16 22 (by decide) h (fun h => ?_) (fun h => ?_)
      · refine nd_aload_n dX11_canMove_22 0 rfl ?_
        refine nd_get dX11_canMove_23 gf_X11_116 (sh_60 t) rfl ?_
        refine nd_iload_n dX11_canMove_26 3 rfl ?_
        refine nd_ialoadN dX11_canMove_27 (sh_95 t) h (fun h => ?_)
        refine nd_iconst dX11_canMove_28 ic_2 ?_
        refine nd_isub dX11_canMove_29 ?_
        refine nd_istore (ls' := [(4, .int ((σ2 95 (x3).toNatClampNeg) - (2 : Int32))), (0, .ref 60), (1, .int x1), (2, .int x2), (3, .int x3)]) dX11_canMove_30 (by decide) rfl ?_
        refine nd_iload dX11_canMove_32 0 rfl ?_
        refine nd_if_ltN dX11_canMove_34 68 (by decide) h (fun h => ?_) (fun h => ?_)
        · refine nd_sub [1] rfl ?_
          exact b_X11_canMove_68 F t hL _ h
        · refine nd_aload_n dX11_canMove_37 1 rfl ?_
          refine nd_iload_n dX11_canMove_38 3 rfl ?_
          refine nd_iload dX11_canMove_39 0 rfl ?_
          obtain ⟨r4, σ5, hc6, h⟩ := nd_bind_e h
          refine nd_cvi [.int x2, .int ((σ2 95 (x3).toNatClampNeg) - (2 : Int32))] [] dX11_canMove_41 cl_X11_328 (sh_60 t) ⟨Nat.le_of_ble_eq_true rfl, Nat.le_of_ble_eq_true rfl⟩ rfl (Nat.le_of_ble_eq_true rfl) hL (t_X11_has F t hL _ _ _ hc6) ?_
          refine nd_if_neN dX11_canMove_44 68 (by decide) h (fun h => ?_) (fun h => ?_)
          · refine nd_sub [1] rfl ?_
            exact b_X11_canMove_68 F t hL _ h
          · refine nd_aload_n dX11_canMove_47 1 rfl ?_
            refine nd_get dX11_canMove_48 gf_X11_116 (sh_60 t) rfl ?_
            refine nd_iload dX11_canMove_51 0 rfl ?_
            refine nd_ialoadN dX11_canMove_53 (sh_95 t) h (fun h => ?_)
            refine nd_iconst dX11_canMove_54 ic_1 ?_
            refine nd_icmp_eqN dX11_canMove_55 70 (by decide) h (fun h => ?_) (fun h => ?_)
            · refine nd_sub [1, 2, 3, 4, 0] rfl ?_
              exact b_X11_canMove_70 F _ t hL hrec4 _ _ _ _ _ h
            · refine nd_aload_n dX11_canMove_58 1 rfl ?_
              refine nd_iload_n dX11_canMove_59 2 rfl ?_
              refine nd_iload dX11_canMove_60 0 rfl ?_
              obtain ⟨r7, σ8, hc9, h⟩ := nd_bind_e h
              refine nd_cvi [.int x1, .int ((σ2 95 (x3).toNatClampNeg) - (2 : Int32))] [] dX11_canMove_62 cl_X11_328 (sh_60 t) ⟨Nat.le_of_ble_eq_true rfl, Nat.le_of_ble_eq_true rfl⟩ rfl (Nat.le_of_ble_eq_true rfl) hL (t_X11_has F t hL _ _ _ hc9) ?_
              refine nd_if_neN dX11_canMove_65 70 (by decide) h (fun h => ?_) (fun h => ?_)
              · refine nd_sub [1, 2, 3, 4, 0] rfl ?_
                exact b_X11_canMove_70 F _ t hL hrec4 _ _ _ _ _ h
              · refine nd_sub [1] rfl ?_
                exact b_X11_canMove_68 F t hL _ h
      · refine nd_goto dX11_canMove_19 77 (by decide) ?_
        exact b_X11_canMove_77 F _ t hL hrec4 _ _ _ _ h
set_option maxRecDepth 100000 in
set_option maxHeartbeats 4000000 in
theorem t_X11_canMove (F : Nat) (t : List nd_S) (hL : (nd_SH ++ t).length < nd_ro) {z : Int32 × nd_Mem} (x1 : Int32) (σ : nd_Mem) (h : f_X11_canMove F x1 σ = some z) : nd_Fn M_X11_canMove (nd_rm 1) [.ref 60, .int x1] (nd_SH ++ t) σ (nd_Pi (nd_SH ++ t) z) := by
  refine nd_Fn.ofV (ls := [(0, .ref 60), (1, .int x1)]) pl_X11_canMove rfl (fun _ => Nat.le_of_ble_eq_true rfl) (fun _ => rfl) ?_
  unfold f_X11_canMove at h
  refine nd_iconst dX11_canMove_0 ic_0 ?_
  refine nd_istore_n (ls' := [(2, .int (0 : Int32)), (0, .ref 60), (1, .int x1)]) dX11_canMove_1 (by decide) rfl ?_
  refine nd_iconst dX11_canMove_2 ic_0 ?_
  refine nd_istore_n (ls' := [(3, .int (0 : Int32)), (2, .int (0 : Int32)), (0, .ref 60), (1, .int x1)]) dX11_canMove_3 (by decide) rfl ?_
  refine nd_sub [2, 3, 1, 0] rfl ?_
  exact b_X11_canMove_4 F t hL F _ _ _ _ h
def f_X11_child_36 (F : Nat) (σ : nd_Mem) : nd_Res := (some ((-1 : Int32), σ))
def f_X11_child (F : Nat) (x1 : Int32) (σ : nd_Mem) : nd_Res := (nd_let (nd_up σ 60 0 (0 : Int32)) fun σ1 => (if x1 = (-1 : Int32) then (nd_let (nd_up σ1 60 40 (0 : Int32)) fun σ7 => (some ((0 : Int32), σ7))) else (nd_bind (f_X11_isIn F x1 (0 : Int32) (1 : Int32) σ1) fun r2 σ3 => (if r2 = 0 then (f_X11_child_36 F σ3) else (if (σ3 60 40) = (12 : Int32) then (f_X11_child_36 F σ3) else (if (σ3 60 40) < 0 ∨ 12 ≤ ((σ3 60 40)).toNatClampNeg then none else (nd_let (nd_up σ3 81 ((σ3 60 40)).toNatClampNeg x1) fun σ5 => (nd_let (nd_up σ5 60 40 ((σ5 60 40) + (1 : Int32))) fun σ6 => (some ((σ6 60 40), σ6))))))))))
set_option maxRecDepth 100000 in
set_option maxHeartbeats 4000000 in
theorem b_X11_child_36 (F : Nat) (t : List nd_S) (hL : (nd_SH ++ t).length < nd_ro) {z : Int32 × nd_Mem} (σ : nd_Mem) (h : f_X11_child_36 F σ = some z) : nd_V M_X11_child (nd_rm 1) (nd_Pi (nd_SH ++ t) z) 0 0 36 [(0, .ref 60)] [] (nd_SH ++ t) σ := by
  unfold f_X11_child_36 at h
  refine nd_iconst dX11_child_36 ic_m1 ?_
  exact nd_iret dX11_child_37 (Nat.zero_le _) (Nat.zero_le _) (vp_nar_int _) (by cases h; exact ⟨rfl, rfl, rfl⟩)
set_option maxRecDepth 100000 in
set_option maxHeartbeats 4000000 in
theorem t_X11_child (F : Nat) (t : List nd_S) (hL : (nd_SH ++ t).length < nd_ro) {z : Int32 × nd_Mem} (x1 : Int32) (σ : nd_Mem) (h : f_X11_child F x1 σ = some z) : nd_Fn M_X11_child (nd_rm 1) [.ref 60, .int x1] (nd_SH ++ t) σ (nd_Pi (nd_SH ++ t) z) := by
  refine nd_Fn.ofV (ls := [(0, .ref 60), (1, .int x1)]) pl_X11_child rfl (fun _ => Nat.le_of_ble_eq_true rfl) (fun _ => rfl) ?_
  unfold f_X11_child at h
  refine nd_aload_n dX11_child_0 0 rfl ?_
  refine nd_iconst dX11_child_1 ic_0 ?_
  refine nd_putiN dX11_child_2 pf_X11_132 (sh_60 t) rfl h (fun σ1 h => ?_)
  refine nd_iload_n dX11_child_5 1 rfl ?_
  refine nd_iconst dX11_child_6 ic_m1 ?_
  refine nd_icmp_neN dX11_child_7 17 (by decide) h (fun h => ?_) (fun h => ?_)
  · refine nd_aload_n dX11_child_17 0 rfl ?_
    refine nd_iload_n dX11_child_18 1 rfl ?_
    refine nd_iconst dX11_child_19 ic_0 ?_
    refine nd_iconst dX11_child_20 ic_1 ?_
    obtain ⟨r2, σ3, hc4, h⟩ := nd_bind_e h
    refine nd_cvi [.int x1, .int (0 : Int32), .int (1 : Int32)] [] dX11_child_21 cl_X11_147 (sh_60 t) ⟨Nat.le_of_ble_eq_true rfl, Nat.le_of_ble_eq_true rfl⟩ rfl (Nat.le_of_ble_eq_true rfl) hL (t_X11_isIn F t hL _ _ _ _ hc4) ?_
    refine nd_if_eqN dX11_child_24 36 (by decide) h (fun h => ?_) (fun h => ?_)
    · refine nd_sub [0] rfl ?_
      exact b_X11_child_36 F t hL _ h
    · refine nd_aload_n dX11_child_27 0 rfl ?_
      refine nd_get dX11_child_28 gf_X11_388 (sh_60 t) rfl ?_
      refine nd_bipush dX11_child_31 ib_12 ?_
      refine nd_icmp_neN dX11_child_33 38 (by decide) h (fun h => ?_) (fun h => ?_)
      · refine nd_aload_n dX11_child_38 0 rfl ?_
        refine nd_get dX11_child_39 gf_X11_74 (sh_60 t) rfl ?_
        refine nd_aload_n dX11_child_42 0 rfl ?_
        refine nd_get dX11_child_43 gf_X11_388 (sh_60 t) rfl ?_
        refine nd_iload_n dX11_child_46 1 rfl ?_
        refine nd_iastoreN dX11_child_47 (sh_81 t) h (fun σ5 h => ?_)
        refine nd_aload_n dX11_child_48 0 rfl ?_
        refine nd_aload_n dX11_child_49 0 rfl ?_
        refine nd_get dX11_child_50 gf_X11_388 (sh_60 t) rfl ?_
        refine nd_iconst dX11_child_53 ic_1 ?_
        refine nd_iadd dX11_child_54 ?_
        refine nd_putiN dX11_child_55 pf_X11_388 (sh_60 t) rfl h (fun σ6 h => ?_)
        refine nd_aload_n dX11_child_58 0 rfl ?_
        refine nd_get dX11_child_59 gf_X11_388 (sh_60 t) rfl ?_
        exact nd_iret dX11_child_62 (Nat.zero_le _) (Nat.zero_le _) (vp_nar_int _) (by cases h; exact ⟨rfl, rfl, rfl⟩)
      · refine nd_sub [0] rfl ?_
        exact b_X11_child_36 F t hL _ h
  · refine nd_aload_n dX11_child_10 0 rfl ?_
    refine nd_iconst dX11_child_11 ic_0 ?_
    refine nd_putiN dX11_child_12 pf_X11_388 (sh_60 t) rfl h (fun σ7 h => ?_)
    refine nd_iconst dX11_child_15 ic_0 ?_
    exact nd_iret dX11_child_16 (Nat.zero_le _) (Nat.zero_le _) (vp_nar_int _) (by cases h; exact ⟨rfl, rfl, rfl⟩)
def f_X11_deepest_78 (F : Nat) (rec10 : Int32 → Int32 → Int32 → Int32 → Int32 → nd_Mem → nd_Res) (x1 : Int32) (x2 : Int32) (x3 : Int32) (x4 : Int32) (x5 : Int32) (σ : nd_Mem) : nd_Res := (nd_bind (f_X11_greater F x4 x3 σ) fun r1 σ2 => (rec10 x1 x2 x3 r1 (x5 + (1 : Int32)) σ2))
def f_X11_deepest_51_b (F : Nat) (rec10 : Int32 → Int32 → Int32 → Int32 → Int32 → nd_Mem → nd_Res) (rec51 : Int32 → Int32 → Int32 → Int32 → Int32 → nd_Mem → nd_Res) (x1 : Int32) (x2 : Int32) (x3 : Int32) (x4 : Int32) (x5 : Int32) (σ : nd_Mem) : nd_Res := (if x3 ≤ 0 then (f_X11_deepest_78 F rec10 x1 x2 x3 x4 x5 σ) else (if (x3 - (1 : Int32)) < 0 ∨ 9 ≤ ((x3 - (1 : Int32))).toNatClampNeg then none else (if (σ 83 ((x3 - (1 : Int32))).toNatClampNeg) = x2 then (rec51 x1 (x2 + (1 : Int32)) (x3 - (1 : Int32)) x4 x5 σ) else (f_X11_deepest_78 F rec10 x1 x2 x3 x4 x5 σ))))
def f_X11_deepest_51 (F : Nat) (rec10 : Int32 → Int32 → Int32 → Int32 → Int32 → nd_Mem → nd_Res) : Nat → Int32 → Int32 → Int32 → Int32 → Int32 → nd_Mem → nd_Res
  | 0, _, _, _, _, _, _ => none
  | m9 + 1, x1, x2, x3, x4, x5, σ => f_X11_deepest_51_b F rec10 (f_X11_deepest_51 F rec10 m9) x1 x2 x3 x4 x5 σ
def f_X11_deepest_10_b (F : Nat) (rec10 : Int32 → Int32 → Int32 → Int32 → Int32 → nd_Mem → nd_Res) (x1 : Int32) (x2 : Int32) (x3 : Int32) (x4 : Int32) (x5 : Int32) (σ : nd_Mem) : nd_Res := (if x1 ≤ x5 then (if x3 = 0 then (some (x4, σ)) else (some ((-1 : Int32), σ))) else (if x5 < 0 ∨ 9 ≤ (x5).toNatClampNeg then none else (if (σ 82 (x5).toNatClampNeg) = x2 then (f_X11_deepest_51 F rec10 F x1 (x2 + (1 : Int32)) x3 x4 x5 σ) else (if x5 < 0 ∨ 9 ≤ (x5).toNatClampNeg then none else (if x3 < 0 ∨ 9 ≤ (x3).toNatClampNeg then none else (nd_let (nd_up σ 83 (x3).toNatClampNeg (σ 82 (x5).toNatClampNeg)) fun σ1 => (f_X11_deepest_51 F rec10 F x1 x2 (x3 + (1 : Int32)) x4 x5 σ1)))))))
def f_X11_deepest_10 (F : Nat) : Nat → Int32 → Int32 → Int32 → Int32 → Int32 → nd_Mem → nd_Res
  | 0, _, _, _, _, _, _ => none
  | m9 + 1, x1, x2, x3, x4, x5, σ => f_X11_deepest_10_b F (f_X11_deepest_10 F m9) x1 x2 x3 x4 x5 σ
def f_X11_deepest (F : Nat) (x1 : Int32) (σ : nd_Mem) : nd_Res := (f_X11_deepest_10 F F x1 (0 : Int32) (0 : Int32) (0 : Int32) (0 : Int32) σ)
set_option maxRecDepth 100000 in
set_option maxHeartbeats 4000000 in
theorem b_X11_deepest_78 (F : Nat) (rec10 : Int32 → Int32 → Int32 → Int32 → Int32 → nd_Mem → nd_Res) (t : List nd_S) (hL : (nd_SH ++ t).length < nd_ro) {z : Int32 × nd_Mem} (hrec10 : ∀ (x1 : Int32) (x2 : Int32) (x3 : Int32) (x4 : Int32) (x5 : Int32) (σ : nd_Mem), rec10 x1 x2 x3 x4 x5 σ = some z → nd_V M_X11_deepest (nd_rm 1) (nd_Pi (nd_SH ++ t) z) 0 0 10 [(0, .ref 60), (1, .int x1), (2, .int x2), (3, .int x3), (4, .int x4), (5, .int x5)] [] (nd_SH ++ t) σ) (x1 : Int32) (x2 : Int32) (x3 : Int32) (x4 : Int32) (x5 : Int32) (σ : nd_Mem) (h : f_X11_deepest_78 F rec10 x1 x2 x3 x4 x5 σ = some z) : nd_V M_X11_deepest (nd_rm 1) (nd_Pi (nd_SH ++ t) z) 0 0 78 [(0, .ref 60), (1, .int x1), (2, .int x2), (3, .int x3), (4, .int x4), (5, .int x5)] [] (nd_SH ++ t) σ := by
  unfold f_X11_deepest_78 at h
  refine nd_aload_n dX11_deepest_78 0 rfl ?_
  refine nd_iload dX11_deepest_79 4 rfl ?_
  refine nd_iload_n dX11_deepest_81 3 rfl ?_
  obtain ⟨r1, σ2, hc3, h⟩ := nd_bind_e h
  refine nd_cvi [.int x4, .int x3] [] dX11_deepest_82 cl_X11_398 (sh_60 t) ⟨Nat.le_of_ble_eq_true rfl, Nat.le_of_ble_eq_true rfl⟩ rfl (Nat.le_of_ble_eq_true rfl) hL (t_X11_greater F t hL _ _ _ hc3) ?_
  refine nd_istore (ls' := [(4, .int r1), (0, .ref 60), (1, .int x1), (2, .int x2), (3, .int x3), (5, .int x5)]) dX11_deepest_85 (by decide) rfl ?_
  refine nd_iinc (v := (x5 + (1 : Int32))) (ls' := [(5, .int (x5 + (1 : Int32))), (4, .int r1), (0, .ref 60), (1, .int x1), (2, .int x2), (3, .int x3)]) dX11_deepest_87 5 rfl (congrArg (HAdd.hAdd _) ic_1) (by decide) rfl ?_
  refine nd_goto dX11_deepest_90 10 (by decide) ?_
  refine nd_sub [2, 3, 4, 5, 1, 0] rfl ?_
  exact hrec10 _ _ _ _ _ _ h
set_option maxRecDepth 100000 in
set_option maxHeartbeats 4000000 in
theorem b_X11_deepest_51 (F : Nat) (rec10 : Int32 → Int32 → Int32 → Int32 → Int32 → nd_Mem → nd_Res) (t : List nd_S) (hL : (nd_SH ++ t).length < nd_ro) {z : Int32 × nd_Mem} (hrec10 : ∀ (x1 : Int32) (x2 : Int32) (x3 : Int32) (x4 : Int32) (x5 : Int32) (σ : nd_Mem), rec10 x1 x2 x3 x4 x5 σ = some z → nd_V M_X11_deepest (nd_rm 1) (nd_Pi (nd_SH ++ t) z) 0 0 10 [(0, .ref 60), (1, .int x1), (2, .int x2), (3, .int x3), (4, .int x4), (5, .int x5)] [] (nd_SH ++ t) σ) (m9 : Nat) : ∀ (x1 : Int32) (x2 : Int32) (x3 : Int32) (x4 : Int32) (x5 : Int32) (σ : nd_Mem), f_X11_deepest_51 F rec10 m9 x1 x2 x3 x4 x5 σ = some z → nd_V M_X11_deepest (nd_rm 1) (nd_Pi (nd_SH ++ t) z) 0 0 51 [(0, .ref 60), (1, .int x1), (2, .int x2), (3, .int x3), (4, .int x4), (5, .int x5)] [] (nd_SH ++ t) σ := by
  induction m9 with
  | zero =>
    intro x1 x2 x3 x4 x5 σ h
    have h : none = some z := h
    cases h
  | succ m9 hrec51 =>
    intro x1 x2 x3 x4 x5 σ h
    have h : f_X11_deepest_51_b F rec10 (f_X11_deepest_51 F rec10 m9) x1 x2 x3 x4 x5 σ = some z := h
    unfold f_X11_deepest_51_b at h
    refine nd_iload_n dX11_deepest_51 3 rfl ?_
    refine nd_if_leN dX11_deepest_52 78 (by decide) h (fun h => ?_) (fun h => ?_)
    · exact b_X11_deepest_78 F _ t hL hrec10 _ _ _ _ _ _ h
    · refine nd_aload_n dX11_deepest_55 0 rfl ?_
      refine nd_get dX11_deepest_56 gf_X11_80 (sh_60 t) rfl ?_
      refine nd_iload_n dX11_deepest_59 3 rfl ?_
      refine nd_iconst dX11_deepest_60 ic_1 ?_
      refine nd_isub dX11_deepest_61 ?_
      refine nd_ialoadN dX11_deepest_62 (sh_83 t) h (fun h => ?_)
      refine nd_iload_n dX11_deepest_63 2 rfl ?_
      refine nd_icmp_neN dX11_deepest_64 78 (by decide) h (fun h => ?_) (fun h => ?_)
      · exact b_X11_deepest_78 F _ t hL hrec10 _ _ _ _ _ _ h
      · refine nd_iload_n dX11_deepest_67 3 rfl ?_
        refine nd_iconst dX11_deepest_68 ic_1 ?_
        refine nd_isub dX11_deepest_69 ?_
        refine nd_istore_n (ls' := [(3, .int (x3 - (1 : Int32))), (0, .ref 60), (1, .int x1), (2, .int x2), (4, .int x4), (5, .int x5)]) dX11_deepest_70 (by decide) rfl ?_
        refine nd_iload_n dX11_deepest_71 3 rfl ?_
        refine nd_iconst dX11_deepest_72 ic_1 ?_
        refine nd_iadd dX11_deepest_73 ?_
        refine nd_istore_n (ls' := [(2, .int (x2 + (1 : Int32))), (3, .int (x3 - (1 : Int32))), (0, .ref 60), (1, .int x1), (4, .int x4), (5, .int x5)]) dX11_deepest_74 (by decide) rfl ?_
        refine nd_goto dX11_deepest_75 51 (by decide) ?_
        refine nd_sub [2, 3, 0, 1, 4, 5] rfl ?_
        exact hrec51 _ _ _ _ _ _ h
set_option maxRecDepth 100000 in
set_option maxHeartbeats 4000000 in
theorem b_X11_deepest_10 (F : Nat) (t : List nd_S) (hL : (nd_SH ++ t).length < nd_ro) {z : Int32 × nd_Mem} (m9 : Nat) : ∀ (x1 : Int32) (x2 : Int32) (x3 : Int32) (x4 : Int32) (x5 : Int32) (σ : nd_Mem), f_X11_deepest_10 F m9 x1 x2 x3 x4 x5 σ = some z → nd_V M_X11_deepest (nd_rm 1) (nd_Pi (nd_SH ++ t) z) 0 0 10 [(0, .ref 60), (1, .int x1), (2, .int x2), (3, .int x3), (4, .int x4), (5, .int x5)] [] (nd_SH ++ t) σ := by
  induction m9 with
  | zero =>
    intro x1 x2 x3 x4 x5 σ h
    have h : none = some z := h
    cases h
  | succ m9 hrec10 =>
    intro x1 x2 x3 x4 x5 σ h
    have h : f_X11_deepest_10_b F (f_X11_deepest_10 F m9) x1 x2 x3 x4 x5 σ = some z := h
    unfold f_X11_deepest_10_b at h
    refine nd_iload dX11_deepest_10 5 rfl ?_
    refine nd_iload_n dX11_deepest_12 1 rfl ?_
    refine nd_icmp_geN dX11_deepest_13 93 (by decide) h (fun h => ?_) (fun h => ?_)
    · refine nd_iload_n dX11_deepest_93 3 rfl ?_
      refine nd_if_neN dX11_deepest_94 102 (by decide) h (fun h => ?_) (fun h => ?_)
      · refine nd_iconst dX11_deepest_102 ic_m1 ?_
        exact nd_iret dX11_deepest_103 (Nat.zero_le _) (Nat.zero_le _) (vp_nar_int _) (by cases h; exact ⟨rfl, rfl, rfl⟩)
      · refine nd_iload dX11_deepest_97 4 rfl ?_
        refine nd_goto dX11_deepest_99 103 (by decide) ?_
        exact nd_iret dX11_deepest_103 (Nat.zero_le _) (Nat.zero_le _) (vp_nar_int _) (by cases h; exact ⟨rfl, rfl, rfl⟩)
    · refine nd_aload_n dX11_deepest_16 0 rfl ?_
      refine nd_get dX11_deepest_17 gf_X11_77 (sh_60 t) rfl ?_
      refine nd_iload dX11_deepest_20 5 rfl ?_
      refine nd_ialoadN dX11_deepest_22 (sh_82 t) h (fun h => ?_)
      refine nd_iload_n dX11_deepest_23 2 rfl ?_
      refine nd_icmp_neN dX11_deepest_24 34 (by decide) h (fun h => ?_) (fun h => ?_)
      · refine nd_aload_n dX11_deepest_34 0 rfl ?_
        refine nd_get dX11_deepest_35 gf_X11_80 (sh_60 t) rfl ?_
        refine nd_iload_n dX11_deepest_38 3 rfl ?_
        refine nd_aload_n dX11_deepest_39 0 rfl ?_
        refine nd_get dX11_deepest_40 gf_X11_77 (sh_60 t) rfl ?_
        refine nd_iload dX11_deepest_43 5 rfl ?_
        refine nd_ialoadN dX11_deepest_45 (sh_82 t) h (fun h => ?_)
        refine nd_iastoreN dX11_deepest_46 (sh_83 t) h (fun σ1 h => ?_)
        refine nd_iload_n dX11_deepest_47 3 rfl ?_
        refine nd_iconst dX11_deepest_48 ic_1 ?_
        refine nd_iadd dX11_deepest_49 ?_
        refine nd_istore_n (ls' := [(3, .int (x3 + (1 : Int32))), (0, .ref 60), (1, .int x1), (2, .int x2), (4, .int x4), (5, .int x5)]) dX11_deepest_50 (by decide) rfl ?_
        refine nd_sub [1, 2, 3, 0, 4, 5] rfl ?_
        exact b_X11_deepest_51 F _ t hL hrec10 F _ _ _ _ _ _ h
      · refine nd_iload_n dX11_deepest_27 2 rfl ?_
        refine nd_iconst dX11_deepest_28 ic_1 ?_
        refine nd_iadd dX11_deepest_29 ?_
        refine nd_istore_n (ls' := [(2, .int (x2 + (1 : Int32))), (0, .ref 60), (1, .int x1), (3, .int x3), (4, .int x4), (5, .int x5)]) dX11_deepest_30 (by decide) rfl ?_
        refine nd_goto dX11_deepest_31 51 (by decide) ?_
        refine nd_sub [1, 2, 0, 3, 4, 5] rfl ?_
        exact b_X11_deepest_51 F _ t hL hrec10 F _ _ _ _ _ _ h
set_option maxRecDepth 100000 in
set_option maxHeartbeats 4000000 in
theorem t_X11_deepest (F : Nat) (t : List nd_S) (hL : (nd_SH ++ t).length < nd_ro) {z : Int32 × nd_Mem} (x1 : Int32) (σ : nd_Mem) (h : f_X11_deepest F x1 σ = some z) : nd_Fn M_X11_deepest (nd_rm 1) [.ref 60, .int x1] (nd_SH ++ t) σ (nd_Pi (nd_SH ++ t) z) := by
  refine nd_Fn.ofV (ls := [(0, .ref 60), (1, .int x1)]) pl_X11_deepest rfl (fun _ => Nat.le_of_ble_eq_true rfl) (fun _ => rfl) ?_
  unfold f_X11_deepest at h
  refine nd_iconst dX11_deepest_0 ic_0 ?_
  refine nd_istore_n (ls' := [(2, .int (0 : Int32)), (0, .ref 60), (1, .int x1)]) dX11_deepest_1 (by decide) rfl ?_
  refine nd_iconst dX11_deepest_2 ic_0 ?_
  refine nd_istore_n (ls' := [(3, .int (0 : Int32)), (2, .int (0 : Int32)), (0, .ref 60), (1, .int x1)]) dX11_deepest_3 (by decide) rfl ?_
  refine nd_iconst dX11_deepest_4 ic_0 ?_
  refine nd_istore (ls' := [(4, .int (0 : Int32)), (3, .int (0 : Int32)), (2, .int (0 : Int32)), (0, .ref 60), (1, .int x1)]) dX11_deepest_5 (by decide) rfl ?_
  refine nd_iconst dX11_deepest_7 ic_0 ?_
  refine nd_istore (ls' := [(5, .int (0 : Int32)), (4, .int (0 : Int32)), (3, .int (0 : Int32)), (2, .int (0 : Int32)), (0, .ref 60), (1, .int x1)]) dX11_deepest_8 (by decide) rfl ?_
  refine nd_sub [4, 5, 3, 2, 1, 0] rfl ?_
  exact b_X11_deepest_10 F t hL F _ _ _ _ _ _ h
def f_X11_doSee_49 (F : Nat) (σ : nd_Mem) : nd_Res := (some ((0 : Int32), σ))
def f_X11_doSee_9_b (F : Nat) (rec9 : Int32 → Int32 → Int32 → nd_Mem → nd_Res) (x1 : Int32) (x2 : Int32) (x3 : Int32) (σ : nd_Mem) : nd_Res := (nd_bind (f_X11_greater F x1 x2 σ) fun r1 σ2 => (if r1 ≤ x3 then (if x1 = x2 then (some ((0 : Int32), σ2)) else (some ((1 : Int32), σ2))) else (if x3 < 0 ∨ 10 ≤ (x3).toNatClampNeg then none else (if x1 < 0 ∨ 10 ≤ (x1).toNatClampNeg then none else (if (σ2 96 (x1).toNatClampNeg) ≤ (σ2 96 (x3).toNatClampNeg) then (f_X11_doSee_49 F σ2) else (if x3 < 0 ∨ 10 ≤ (x3).toNatClampNeg then none else (if x2 < 0 ∨ 10 ≤ (x2).toNatClampNeg then none else (if (σ2 96 (x3).toNatClampNeg) < (σ2 96 (x2).toNatClampNeg) then (rec9 x1 x2 (x3 + (1 : Int32)) σ2) else (f_X11_doSee_49 F σ2)))))))))
def f_X11_doSee_9 (F : Nat) : Nat → Int32 → Int32 → Int32 → nd_Mem → nd_Res
  | 0, _, _, _, _ => none
  | m9 + 1, x1, x2, x3, σ => f_X11_doSee_9_b F (f_X11_doSee_9 F m9) x1 x2 x3 σ
def f_X11_doSee (F : Nat) (x1 : Int32) (x2 : Int32) (σ : nd_Mem) : nd_Res := (nd_bind (f_X11_lesser F x1 x2 σ) fun r1 σ2 => (f_X11_doSee_9 F F x1 x2 (r1 + (1 : Int32)) σ2))
set_option maxRecDepth 100000 in
set_option maxHeartbeats 4000000 in
theorem b_X11_doSee_49 (F : Nat) (t : List nd_S) (hL : (nd_SH ++ t).length < nd_ro) {z : Int32 × nd_Mem} (σ : nd_Mem) (h : f_X11_doSee_49 F σ = some z) : nd_V M_X11_doSee (nd_rm 1) (nd_Pi (nd_SH ++ t) z) 0 0 49 [(0, .ref 60)] [] (nd_SH ++ t) σ := by
  unfold f_X11_doSee_49 at h
  refine nd_iconst dX11_doSee_49 ic_0 ?_
  exact nd_iret dX11_doSee_50 (Nat.zero_le _) (Nat.zero_le _) rfl (by cases h; exact ⟨rfl, rfl, rfl⟩)
set_option maxRecDepth 100000 in
set_option maxHeartbeats 4000000 in
theorem b_X11_doSee_9 (F : Nat) (t : List nd_S) (hL : (nd_SH ++ t).length < nd_ro) {z : Int32 × nd_Mem} (m9 : Nat) : ∀ (x1 : Int32) (x2 : Int32) (x3 : Int32) (σ : nd_Mem), f_X11_doSee_9 F m9 x1 x2 x3 σ = some z → nd_V M_X11_doSee (nd_rm 1) (nd_Pi (nd_SH ++ t) z) 0 0 9 [(0, .ref 60), (1, .int x1), (2, .int x2), (3, .int x3)] [] (nd_SH ++ t) σ := by
  induction m9 with
  | zero =>
    intro x1 x2 x3 σ h
    have h : none = some z := h
    cases h
  | succ m9 hrec9 =>
    intro x1 x2 x3 σ h
    have h : f_X11_doSee_9_b F (f_X11_doSee_9 F m9) x1 x2 x3 σ = some z := h
    unfold f_X11_doSee_9_b at h
    refine nd_iload_n dX11_doSee_9 3 rfl ?_
    refine nd_aload_n dX11_doSee_10 0 rfl ?_
    refine nd_iload_n dX11_doSee_11 1 rfl ?_
    refine nd_iload_n dX11_doSee_12 2 rfl ?_
    obtain ⟨r1, σ2, hc3, h⟩ := nd_bind_e h
    refine nd_cvi [.int x1, .int x2] [.int x3] dX11_doSee_13 cl_X11_398 (sh_60 t) ⟨Nat.le_of_ble_eq_true rfl, Nat.le_of_ble_eq_true rfl⟩ rfl (Nat.le_of_ble_eq_true rfl) hL (t_X11_greater F t hL _ _ _ hc3) ?_
    refine nd_icmp_geN dX11_doSee_16 57 (by decide) h (fun h => ?_) (fun h => ?_)
    · refine nd_iload_n dX11_doSee_57 1 rfl ?_
      refine nd_iload_n dX11_doSee_58 2 rfl ?_
      refine nd_icmp_eqN dX11_doSee_59 66 (by decide) h (fun h => ?_) (fun h => ?_)
      · refine nd_iconst dX11_doSee_66 ic_0 ?_
        exact nd_iret dX11_doSee_67 (Nat.zero_le _) (Nat.zero_le _) rfl (by cases h; exact ⟨rfl, rfl, rfl⟩)
      · refine nd_iconst dX11_doSee_62 ic_1 ?_
        refine nd_goto dX11_doSee_63 67 (by decide) ?_
        exact nd_iret dX11_doSee_67 (Nat.zero_le _) (Nat.zero_le _) rfl (by cases h; exact ⟨rfl, rfl, rfl⟩)
    · refine nd_aload_n dX11_doSee_19 0 rfl ?_
      refine nd_get dX11_doSee_20 gf_X11_119 (sh_60 t) rfl ?_
      refine nd_iload_n dX11_doSee_23 3 rfl ?_
      refine nd_ialoadN dX11_doSee_24 (sh_96 t) h (fun h => ?_)
      refine nd_aload_n dX11_doSee_25 0 rfl ?_
      refine nd_get dX11_doSee_26 gf_X11_119 (sh_60 t) rfl ?_
      refine nd_iload_n dX11_doSee_29 1 rfl ?_
      refine nd_ialoadN dX11_doSee_30 (sh_96 t) h (fun h => ?_)
      refine nd_icmp_geN dX11_doSee_31 49 (by decide) h (fun h => ?_) (fun h => ?_)
      · refine nd_sub [0] rfl ?_
        exact b_X11_doSee_49 F t hL _ h
      · refine nd_aload_n dX11_doSee_34 0 rfl ?_
        refine nd_get dX11_doSee_35 gf_X11_119 (sh_60 t) rfl ?_
        refine nd_iload_n dX11_doSee_38 3 rfl ?_
        refine nd_ialoadN dX11_doSee_39 (sh_96 t) h (fun h => ?_)
        refine nd_aload_n dX11_doSee_40 0 rfl ?_
        refine nd_get dX11_doSee_41 gf_X11_119 (sh_60 t) rfl ?_
        refine nd_iload_n dX11_doSee_44 2 rfl ?_
        refine nd_ialoadN dX11_doSee_45 (sh_96 t) h (fun h => ?_)
        refine nd_icmp_ltN dX11_doSee_46 51 (by decide) h (fun h => ?_) (fun h => ?_)
        · refine nd_iinc (v := (x3 + (1 : Int32))) (ls' := [(3, .int (x3 + (1 : Int32))), (0, .ref 60), (1, .int x1), (2, .int x2)]) dX11_doSee_51 3 rfl (congrArg (HAdd.hAdd _) ic_1) (by decide) rfl ?_
          refine nd_goto dX11_doSee_54 9 (by decide) ?_
          refine nd_sub [1, 2, 3, 0] rfl ?_
          exact hrec9 _ _ _ _ h
        · refine nd_sub [0] rfl ?_
          exact b_X11_doSee_49 F t hL _ h
set_option maxRecDepth 100000 in
set_option maxHeartbeats 4000000 in
theorem t_X11_doSee (F : Nat) (t : List nd_S) (hL : (nd_SH ++ t).length < nd_ro) {z : Int32 × nd_Mem} (x1 : Int32) (x2 : Int32) (σ : nd_Mem) (h : f_X11_doSee F x1 x2 σ = some z) : nd_Fn M_X11_doSee (nd_rm 1) [.ref 60, .int x1, .int x2] (nd_SH ++ t) σ (nd_Pi (nd_SH ++ t) z) := by
  refine nd_Fn.ofV (ls := [(0, .ref 60), (1, .int x1), (2, .int x2)]) pl_X11_doSee rfl (fun _ => Nat.le_of_ble_eq_true rfl) (fun _ => rfl) ?_
  unfold f_X11_doSee at h
  refine nd_aload_n dX11_doSee_0 0 rfl ?_
  refine nd_iload_n dX11_doSee_1 1 rfl ?_
  refine nd_iload_n dX11_doSee_2 2 rfl ?_
  obtain ⟨r1, σ2, hc3, h⟩ := nd_bind_e h
  refine nd_cvi [.int x1, .int x2] [] dX11_doSee_3 cl_X11_332 (sh_60 t) ⟨Nat.le_of_ble_eq_true rfl, Nat.le_of_ble_eq_true rfl⟩ rfl (Nat.le_of_ble_eq_true rfl) hL (t_X11_lesser F t hL _ _ _ hc3) ?_
  refine nd_iconst dX11_doSee_6 ic_1 ?_
  refine nd_iadd dX11_doSee_7 ?_
  refine nd_istore_n (ls' := [(3, .int (r1 + (1 : Int32))), (0, .ref 60), (1, .int x1), (2, .int x2)]) dX11_doSee_8 (by decide) rfl ?_
  refine nd_sub [1, 2, 3, 0] rfl ?_
  exact b_X11_doSee_9 F t hL F _ _ _ _ h
def f_X11_dowry_37 (F : Nat) (σ : nd_Mem) : nd_Res := (some ((-1 : Int32), σ))
def f_X11_dowry (F : Nat) (x1 : Int32) (σ : nd_Mem) : nd_Res := (nd_let (nd_up σ 60 0 (0 : Int32)) fun σ1 => (if x1 = (-1 : Int32) then (nd_let (nd_up σ1 60 50 (0 : Int32)) fun σ7 => (some ((0 : Int32), σ7))) else (nd_bind (f_X11_isIn F x1 (0 : Int32) (60 : Int32) σ1) fun r2 σ3 => (if r2 = 0 then (f_X11_dowry_37 F σ3) else (if (σ3 60 50) = (10 : Int32) then (f_X11_dowry_37 F σ3) else (if (σ3 60 50) < 0 ∨ 10 ≤ ((σ3 60 50)).toNatClampNeg then none else (nd_let (nd_up σ3 89 ((σ3 60 50)).toNatClampNeg x1) fun σ5 => (nd_let (nd_up σ5 60 50 ((σ5 60 50) + (1 : Int32))) fun σ6 => (some ((σ6 60 50), σ6))))))))))
set_option maxRecDepth 100000 in
set_option maxHeartbeats 4000000 in
theorem b_X11_dowry_37 (F : Nat) (t : List nd_S) (hL : (nd_SH ++ t).length < nd_ro) {z : Int32 × nd_Mem} (σ : nd_Mem) (h : f_X11_dowry_37 F σ = some z) : nd_V M_X11_dowry (nd_rm 1) (nd_Pi (nd_SH ++ t) z) 0 0 37 [(0, .ref 60)] [] (nd_SH ++ t) σ := by
  unfold f_X11_dowry_37 at h
  refine nd_iconst dX11_dowry_37 ic_m1 ?_
  exact nd_iret dX11_dowry_38 (Nat.zero_le _) (Nat.zero_le _) (vp_nar_int _) (by cases h; exact ⟨rfl, rfl, rfl⟩)
set_option maxRecDepth 100000 in
set_option maxHeartbeats 4000000 in
theorem t_X11_dowry (F : Nat) (t : List nd_S) (hL : (nd_SH ++ t).length < nd_ro) {z : Int32 × nd_Mem} (x1 : Int32) (σ : nd_Mem) (h : f_X11_dowry F x1 σ = some z) : nd_Fn M_X11_dowry (nd_rm 1) [.ref 60, .int x1] (nd_SH ++ t) σ (nd_Pi (nd_SH ++ t) z) := by
  refine nd_Fn.ofV (ls := [(0, .ref 60), (1, .int x1)]) pl_X11_dowry rfl (fun _ => Nat.le_of_ble_eq_true rfl) (fun _ => rfl) ?_
  unfold f_X11_dowry at h
  refine nd_aload_n dX11_dowry_0 0 rfl ?_
  refine nd_iconst dX11_dowry_1 ic_0 ?_
  refine nd_putiN dX11_dowry_2 pf_X11_132 (sh_60 t) rfl h (fun σ1 h => ?_)
  refine nd_iload_n dX11_dowry_5 1 rfl ?_
  refine nd_iconst dX11_dowry_6 ic_m1 ?_
  refine nd_icmp_neN dX11_dowry_7 17 (by decide) h (fun h => ?_) (fun h => ?_)
  · refine nd_aload_n dX11_dowry_17 0 rfl ?_
    refine nd_iload_n dX11_dowry_18 1 rfl ?_
    refine nd_iconst dX11_dowry_19 ic_0 ?_
    refine nd_bipush dX11_dowry_20 ib_60 ?_
    obtain ⟨r2, σ3, hc4, h⟩ := nd_bind_e h
    refine nd_cvi [.int x1, .int (0 : Int32), .int (60 : Int32)] [] dX11_dowry_22 cl_X11_147 (sh_60 t) ⟨Nat.le_of_ble_eq_true rfl, Nat.le_of_ble_eq_true rfl⟩ rfl (Nat.le_of_ble_eq_true rfl) hL (t_X11_isIn F t hL _ _ _ _ hc4) ?_
    refine nd_if_eqN dX11_dowry_25 37 (by decide) h (fun h => ?_) (fun h => ?_)
    · refine nd_sub [0] rfl ?_
      exact b_X11_dowry_37 F t hL _ h
    · refine nd_aload_n dX11_dowry_28 0 rfl ?_
      refine nd_get dX11_dowry_29 gf_X11_414 (sh_60 t) rfl ?_
      refine nd_bipush dX11_dowry_32 ib_10 ?_
      refine nd_icmp_neN dX11_dowry_34 39 (by decide) h (fun h => ?_) (fun h => ?_)
      · refine nd_aload_n dX11_dowry_39 0 rfl ?_
        refine nd_get dX11_dowry_40 gf_X11_98 (sh_60 t) rfl ?_
        refine nd_aload_n dX11_dowry_43 0 rfl ?_
        refine nd_get dX11_dowry_44 gf_X11_414 (sh_60 t) rfl ?_
        refine nd_iload_n dX11_dowry_47 1 rfl ?_
        refine nd_iastoreN dX11_dowry_48 (sh_89 t) h (fun σ5 h => ?_)
        refine nd_aload_n dX11_dowry_49 0 rfl ?_
        refine nd_aload_n dX11_dowry_50 0 rfl ?_
        refine nd_get dX11_dowry_51 gf_X11_414 (sh_60 t) rfl ?_
        refine nd_iconst dX11_dowry_54 ic_1 ?_
        refine nd_iadd dX11_dowry_55 ?_
        refine nd_putiN dX11_dowry_56 pf_X11_414 (sh_60 t) rfl h (fun σ6 h => ?_)
        refine nd_aload_n dX11_dowry_59 0 rfl ?_
        refine nd_get dX11_dowry_60 gf_X11_414 (sh_60 t) rfl ?_
        exact nd_iret dX11_dowry_63 (Nat.zero_le _) (Nat.zero_le _) (vp_nar_int _) (by cases h; exact ⟨rfl, rfl, rfl⟩)
      · refine nd_sub [0] rfl ?_
        exact b_X11_dowry_37 F t hL _ h
  · refine nd_aload_n dX11_dowry_10 0 rfl ?_
    refine nd_iconst dX11_dowry_11 ic_0 ?_
    refine nd_putiN dX11_dowry_12 pf_X11_414 (sh_60 t) rfl h (fun σ7 h => ?_)
    refine nd_iconst dX11_dowry_15 ic_0 ?_
    exact nd_iret dX11_dowry_16 (Nat.zero_le _) (Nat.zero_le _) (vp_nar_int _) (by cases h; exact ⟨rfl, rfl, rfl⟩)
def f_X11_end (F : Nat) (x1 : Int32) (σ : nd_Mem) : nd_Res := (nd_let (nd_up σ 60 0 (0 : Int32)) fun σ1 => (nd_bind (f_X11_isIn F x1 (0 : Int32) (σ1 60 9) σ1) fun r2 σ3 => (if r2 = 0 then (some ((0 : Int32), σ3)) else (nd_let (nd_up σ3 60 9 x1) fun σ5 => (some ((1 : Int32), σ5))))))
set_option maxRecDepth 100000 in
set_option maxHeartbeats 4000000 in
theorem t_X11_end (F : Nat) (t : List nd_S) (hL : (nd_SH ++ t).length < nd_ro) {z : Int32 × nd_Mem} (x1 : Int32) (σ : nd_Mem) (h : f_X11_end F x1 σ = some z) : nd_Fn M_X11_end (nd_rm 1) [.ref 60, .int x1] (nd_SH ++ t) σ (nd_Pi (nd_SH ++ t) z) := by
  refine nd_Fn.ofV (ls := [(0, .ref 60), (1, .int x1)]) pl_X11_end rfl (fun _ => Nat.le_of_ble_eq_true rfl) (fun _ => rfl) ?_
  unfold f_X11_end at h
  refine nd_aload_n dX11_end_0 0 rfl ?_
  refine nd_iconst dX11_end_1 ic_0 ?_
  refine nd_putiN dX11_end_2 pf_X11_132 (sh_60 t) rfl h (fun σ1 h => ?_)
  refine nd_aload_n dX11_end_5 0 rfl ?_
  refine nd_iload_n dX11_end_6 1 rfl ?_
  refine nd_iconst dX11_end_7 ic_0 ?_
  refine nd_aload_n dX11_end_8 0 rfl ?_
  refine nd_get dX11_end_9 gf_X11_155 (sh_60 t) rfl ?_
  obtain ⟨r2, σ3, hc4, h⟩ := nd_bind_e h
  refine nd_cvi [.int x1, .int (0 : Int32), .int (σ1 60 9)] [] dX11_end_12 cl_X11_147 (sh_60 t) ⟨Nat.le_of_ble_eq_true rfl, Nat.le_of_ble_eq_true rfl⟩ rfl (Nat.le_of_ble_eq_true rfl) hL (t_X11_isIn F t hL _ _ _ _ hc4) ?_
  refine nd_if_neN dX11_end_15 20 (by decide) h (fun h => ?_) (fun h => ?_)
  · refine nd_aload_n dX11_end_20 0 rfl ?_
    refine nd_iload_n dX11_end_21 1 rfl ?_
    refine nd_putiN dX11_end_22 pf_X11_155 (sh_60 t) rfl h (fun σ5 h => ?_)
    refine nd_iconst dX11_end_25 ic_1 ?_
    exact nd_iret dX11_end_26 (Nat.zero_le _) (Nat.zero_le _) rfl (by cases h; exact ⟨rfl, rfl, rfl⟩)
  · refine nd_iconst dX11_end_18 ic_0 ?_
    exact nd_iret dX11_end_19 (Nat.zero_le _) (Nat.zero_le _) rfl (by cases h; exact ⟨rfl, rfl, rfl⟩)
def f_X11_feed (F : Nat) (x1 : Int32) (x2 : Int32) (x3 : Int32) (x4 : Int32) (x5 : Int32) (σ : nd_Mem) : nd_Res := (nd_let (nd_up σ 60 0 (0 : Int32)) fun σ1 => (if (σ1 60 9) ≤ (380 : Int32) then (nd_bind (f_X11_types F x1 σ1) fun r2 σ3 => (nd_bind (f_X11_types F x2 σ3) fun r5 σ6 => (nd_bind (f_X11_types F x3 σ6) fun r8 σ9 => (nd_bind (f_X11_types F x4 σ9) fun r11 σ12 => (nd_bind (f_X11_types F x5 σ12) fun r14 σ15 => (some ((σ15 60 9), σ15))))))) else (some ((-1 : Int32), σ1))))
set_option maxRecDepth 100000 in
set_option maxHeartbeats 4000000 in
theorem t_X11_feed (F : Nat) (t : List nd_S) (hL : (nd_SH ++ t).length < nd_ro) {z : Int32 × nd_Mem} (x1 : Int32) (x2 : Int32) (x3 : Int32) (x4 : Int32) (x5 : Int32) (σ : nd_Mem) (h : f_X11_feed F x1 x2 x3 x4 x5 σ = some z) : nd_Fn M_X11_feed (nd_rm 1) [.ref 60, .int x1, .int x2, .int x3, .int x4, .int x5] (nd_SH ++ t) σ (nd_Pi (nd_SH ++ t) z) := by
  refine nd_Fn.ofV (ls := [(0, .ref 60), (1, .int x1), (2, .int x2), (3, .int x3), (4, .int x4), (5, .int x5)]) pl_X11_feed rfl (fun _ => Nat.le_of_ble_eq_true rfl) (fun _ => rfl) ?_
  unfold f_X11_feed at h
  refine nd_aload_n dX11_feed_0 0 rfl ?_
  refine nd_iconst dX11_feed_1 ic_0 ?_
  refine nd_putiN dX11_feed_2 pf_X11_132 (sh_60 t) rfl h (fun σ1 h => ?_)
  refine nd_aload_n dX11_feed_5 0 rfl ?_
  refine nd_get dX11_feed_6 gf_X11_155 (sh_60 t) rfl ?_
  refine nd_sipush dX11_feed_9 is_380 ?_
  refine nd_icmp_leN dX11_feed_12 17 (by decide) h (fun h => ?_) (fun h => ?_)
  · refine nd_aload_n dX11_feed_17 0 rfl ?_
    refine nd_iload_n dX11_feed_18 1 rfl ?_
    obtain ⟨r2, σ3, hc4, h⟩ := nd_bind_e h
    refine nd_cvv [.int x1] [] dX11_feed_19 cl_X11_158 (sh_60 t) ⟨Nat.le_of_ble_eq_true rfl, Nat.le_of_ble_eq_true rfl⟩ rfl (Nat.le_of_ble_eq_true rfl) hL (t_X11_types F t hL _ _ hc4) ?_
    refine nd_aload_n dX11_feed_22 0 rfl ?_
    refine nd_iload_n dX11_feed_23 2 rfl ?_
    obtain ⟨r5, σ6, hc7, h⟩ := nd_bind_e h
    refine nd_cvv [.int x2] [] dX11_feed_24 cl_X11_158 (sh_60 t) ⟨Nat.le_of_ble_eq_true rfl, Nat.le_of_ble_eq_true rfl⟩ rfl (Nat.le_of_ble_eq_true rfl) hL (t_X11_types F t hL _ _ hc7) ?_
    refine nd_aload_n dX11_feed_27 0 rfl ?_
    refine nd_iload_n dX11_feed_28 3 rfl ?_
    obtain ⟨r8, σ9, hc10, h⟩ := nd_bind_e h
    refine nd_cvv [.int x3] [] dX11_feed_29 cl_X11_158 (sh_60 t) ⟨Nat.le_of_ble_eq_true rfl, Nat.le_of_ble_eq_true rfl⟩ rfl (Nat.le_of_ble_eq_true rfl) hL (t_X11_types F t hL _ _ hc10) ?_
    refine nd_aload_n dX11_feed_32 0 rfl ?_
    refine nd_iload dX11_feed_33 4 rfl ?_
    obtain ⟨r11, σ12, hc13, h⟩ := nd_bind_e h
    refine nd_cvv [.int x4] [] dX11_feed_35 cl_X11_158 (sh_60 t) ⟨Nat.le_of_ble_eq_true rfl, Nat.le_of_ble_eq_true rfl⟩ rfl (Nat.le_of_ble_eq_true rfl) hL (t_X11_types F t hL _ _ hc13) ?_
    refine nd_aload_n dX11_feed_38 0 rfl ?_
    refine nd_iload dX11_feed_39 5 rfl ?_
    obtain ⟨r14, σ15, hc16, h⟩ := nd_bind_e h
    refine nd_cvv [.int x5] [] dX11_feed_41 cl_X11_158 (sh_60 t) ⟨Nat.le_of_ble_eq_true rfl, Nat.le_of_ble_eq_true rfl⟩ rfl (Nat.le_of_ble_eq_true rfl) hL (t_X11_types F t hL _ _ hc16) ?_
    refine nd_aload_n dX11_feed_44 0 rfl ?_
    refine nd_get dX11_feed_45 gf_X11_155 (sh_60 t) rfl ?_
    exact nd_iret dX11_feed_48 (Nat.zero_le _) (Nat.zero_le _) (vp_nar_int _) (by cases h; exact ⟨rfl, rfl, rfl⟩)
  · refine nd_iconst dX11_feed_15 ic_m1 ?_
    exact nd_iret dX11_feed_16 (Nat.zero_le _) (Nat.zero_le _) (vp_nar_int _) (by cases h; exact ⟨rfl, rfl, rfl⟩)
def f_X11_getsRicher (F : Nat) (x1 : Int32) (x2 : Int32) (σ : nd_Mem) : nd_Res := (if ((55 : Int32) + x1) < 0 ∨ 103 ≤ (((55 : Int32) + x1)).toNatClampNeg then none else (nd_bind (f_X11_lesser F (9999 : Int32) ((σ 61 (((55 : Int32) + x1)).toNatClampNeg) + x2) σ) fun r1 σ2 => (if ((55 : Int32) + x1) < 0 ∨ 103 ≤ (((55 : Int32) + x1)).toNatClampNeg then none else (nd_let (nd_up σ2 61 (((55 : Int32) + x1)).toNatClampNeg r1) fun σ4 => (some (0, σ4))))))
set_option maxRecDepth 100000 in
set_option maxHeartbeats 4000000 in
theorem t_X11_getsRicher (F : Nat) (t : List nd_S) (hL : (nd_SH ++ t).length < nd_ro) {z : Int32 × nd_Mem} (x1 : Int32) (x2 : Int32) (σ : nd_Mem) (h : f_X11_getsRicher F x1 x2 σ = some z) : nd_Fn M_X11_getsRicher (nd_rm 1) [.ref 60, .int x1, .int x2] (nd_SH ++ t) σ (nd_Pv (nd_SH ++ t) z) := by
  refine nd_Fn.ofV (ls := [(0, .ref 60), (1, .int x1), (2, .int x2)]) pl_X11_getsRicher rfl (fun _ => Nat.le_of_ble_eq_true rfl) (fun _ => rfl) ?_
  unfold f_X11_getsRicher at h
  refine nd_aload_n dX11_getsRicher_0 0 rfl ?_
  refine nd_get dX11_getsRicher_1 gf_X11_7 (sh_60 t) rfl ?_
  refine nd_bipush dX11_getsRicher_4 ib_55 ?_
  refine nd_iload_n dX11_getsRicher_6 1 rfl ?_
  refine nd_iadd dX11_getsRicher_7 ?_
  refine nd_aload_n dX11_getsRicher_8 0 rfl ?_
  refine nd_sipush dX11_getsRicher_9 is_9999 ?_
  refine nd_aload_n dX11_getsRicher_12 0 rfl ?_
  refine nd_get dX11_getsRicher_13 gf_X11_7 (sh_60 t) rfl ?_
  refine nd_bipush dX11_getsRicher_16 ib_55 ?_
  refine nd_iload_n dX11_getsRicher_18 1 rfl ?_
  refine nd_iadd dX11_getsRicher_19 ?_
  refine nd_ialoadN dX11_getsRicher_20 (sh_61 t) h (fun h => ?_)
  refine nd_iload_n dX11_getsRicher_21 2 rfl ?_
  refine nd_iadd dX11_getsRicher_22 ?_
  obtain ⟨r1, σ2, hc3, h⟩ := nd_bind_e h
  refine nd_cvi [.int (9999 : Int32), .int ((σ 61 (((55 : Int32) + x1)).toNatClampNeg) + x2)] [.int ((55 : Int32) + x1), .ref 61] dX11_getsRicher_23 cl_X11_332 (sh_60 t) ⟨Nat.le_of_ble_eq_true rfl, Nat.le_of_ble_eq_true rfl⟩ rfl (Nat.le_of_ble_eq_true rfl) hL (t_X11_lesser F t hL _ _ _ hc3) ?_
  refine nd_iastoreN dX11_getsRicher_26 (sh_61 t) h (fun σ4 h => ?_)
  exact nd_vret dX11_getsRicher_27 (Nat.zero_le _) (Nat.zero_le _) trivial (by cases h; exact ⟨rfl, rfl, rfl⟩)
def f_X11_happens_43 (F : Nat) (σ : nd_Mem) : nd_Res := (some ((0 : Int32), σ))
def f_X11_happens (F : Nat) (x1 : Int32) (σ : nd_Mem) : nd_Res := (if (σ 60 5) = 0 then (if x1 ≤ 0 then (f_X11_happens_43 F σ) else (nd_bind (f_X11_draw F (1000 : Int32) σ) fun r1 σ2 => (if x1 ≤ r1 then (f_X11_happens_43 F σ2) else (some ((1 : Int32), σ2))))) else (if ((2 : Int32) * x1) < (1000 : Int32) then (some ((0 : Int32), σ)) else (some ((1 : Int32), σ))))
set_option maxRecDepth 100000 in
set_option maxHeartbeats 4000000 in
theorem b_X11_happens_43 (F : Nat) (t : List nd_S) (hL : (nd_SH ++ t).length < nd_ro) {z : Int32 × nd_Mem} (σ : nd_Mem) (h : f_X11_happens_43 F σ = some z) : nd_V M_X11_happens (nd_rm 1) (nd_Pi (nd_SH ++ t) z) 0 0 43 [(0, .ref 60)] [] (nd_SH ++ t) σ := by
  unfold f_X11_happens_43 at h
  refine nd_iconst dX11_happens_43 ic_0 ?_
  exact nd_iret dX11_happens_44 (Nat.zero_le _) (Nat.zero_le _) rfl (by cases h; exact ⟨rfl, rfl, rfl⟩)
set_option maxRecDepth 100000 in
set_option maxHeartbeats 4000000 in
theorem t_X11_happens (F : Nat) (t : List nd_S) (hL : (nd_SH ++ t).length < nd_ro) {z : Int32 × nd_Mem} (x1 : Int32) (σ : nd_Mem) (h : f_X11_happens F x1 σ = some z) : nd_Fn M_X11_happens (nd_rm 1) [.ref 60, .int x1] (nd_SH ++ t) σ (nd_Pi (nd_SH ++ t) z) := by
  refine nd_Fn.ofV (ls := [(0, .ref 60), (1, .int x1)]) pl_X11_happens rfl (fun _ => Nat.le_of_ble_eq_true rfl) (fun _ => rfl) ?_
  unfold f_X11_happens at h
  refine nd_aload_n dX11_happens_0 0 rfl ?_
  refine nd_get dX11_happens_1 gf_X11_138 (sh_60 t) rfl ?_
  refine nd_if_eqN dX11_happens_4 24 (by decide) h (fun h => ?_) (fun h => ?_)
  · refine nd_iload_n dX11_happens_24 1 rfl ?_
    refine nd_if_leN dX11_happens_25 43 (by decide) h (fun h => ?_) (fun h => ?_)
    · refine nd_sub [0] rfl ?_
      exact b_X11_happens_43 F t hL _ h
    · refine nd_aload_n dX11_happens_28 0 rfl ?_
      refine nd_sipush dX11_happens_29 is_1000 ?_
      obtain ⟨r1, σ2, hc3, h⟩ := nd_bind_e h
      refine nd_cvi [.int (1000 : Int32)] [] dX11_happens_32 cl_X11_357 (sh_60 t) ⟨Nat.le_of_ble_eq_true rfl, Nat.le_of_ble_eq_true rfl⟩ rfl (Nat.le_of_ble_eq_true rfl) hL (t_X11_draw F t hL _ _ hc3) ?_
      refine nd_iload_n dX11_happens_35 1 rfl ?_
      refine nd_icmp_geN dX11_happens_36 43 (by decide) h (fun h => ?_) (fun h => ?_)
      · refine nd_sub [0] rfl ?_
        exact b_X11_happens_43 F t hL _ h
      · refine nd_iconst dX11_happens_39 ic_1 ?_
        refine nd_goto dX11_happens_40 44 (by decide) ?_
        exact nd_iret dX11_happens_44 (Nat.zero_le _) (Nat.zero_le _) rfl (by cases h; exact ⟨rfl, rfl, rfl⟩)
  · refine nd_iconst dX11_happens_7 ic_2 ?_
    refine nd_iload_n dX11_happens_8 1 rfl ?_
    refine nd_imul dX11_happens_9 ?_
    refine nd_sipush dX11_happens_10 is_1000 ?_
    refine nd_icmp_ltN dX11_happens_13 20 (by decide) h (fun h => ?_) (fun h => ?_)
    · refine nd_iconst dX11_happens_20 ic_0 ?_
      refine nd_goto dX11_happens_21 44 (by decide) ?_
      exact nd_iret dX11_happens_44 (Nat.zero_le _) (Nat.zero_le _) rfl (by cases h; exact ⟨rfl, rfl, rfl⟩)
    · refine nd_iconst dX11_happens_16 ic_1 ?_
      refine nd_goto dX11_happens_17 44 (by decide) ?_
      exact nd_iret dX11_happens_44 (Nat.zero_le _) (Nat.zero_le _) rfl (by cases h; exact ⟨rfl, rfl, rfl⟩)
def f_X11_height_37 (F : Nat) (σ : nd_Mem) : nd_Res := (some ((-1 : Int32), σ))
def f_X11_height (F : Nat) (x1 : Int32) (σ : nd_Mem) : nd_Res := (nd_let (nd_up σ 60 0 (0 : Int32)) fun σ1 => (if x1 = (-1 : Int32) then (nd_let (nd_up σ1 60 61 (0 : Int32)) fun σ7 => (some ((0 : Int32), σ7))) else (nd_bind (f_X11_isIn F x1 (1 : Int32) (60 : Int32) σ1) fun r2 σ3 => (if r2 = 0 then (f_X11_height_37 F σ3) else (if (σ3 60 61) = (10 : Int32) then (f_X11_height_37 F σ3) else (if (σ3 60 61) < 0 ∨ 10 ≤ ((σ3 60 61)).toNatClampNeg then none else (nd_let (nd_up σ3 96 ((σ3 60 61)).toNatClampNeg x1) fun σ5 => (nd_let (nd_up σ5 60 61 ((σ5 60 61) + (1 : Int32))) fun σ6 => (some ((σ6 60 61), σ6))))))))))
set_option maxRecDepth 100000 in
set_option maxHeartbeats 4000000 in
theorem b_X11_height_37 (F : Nat) (t : List nd_S) (hL : (nd_SH ++ t).length < nd_ro) {z : Int32 × nd_Mem} (σ : nd_Mem) (h : f_X11_height_37 F σ = some z) : nd_V M_X11_height (nd_rm 1) (nd_Pi (nd_SH ++ t) z) 0 0 37 [(0, .ref 60)] [] (nd_SH ++ t) σ := by
  unfold f_X11_height_37 at h
  refine nd_iconst dX11_height_37 ic_m1 ?_
  exact nd_iret dX11_height_38 (Nat.zero_le _) (Nat.zero_le _) (vp_nar_int _) (by cases h; exact ⟨rfl, rfl, rfl⟩)
set_option maxRecDepth 100000 in
set_option maxHeartbeats 4000000 in
theorem t_X11_height (F : Nat) (t : List nd_S) (hL : (nd_SH ++ t).length < nd_ro) {z : Int32 × nd_Mem} (x1 : Int32) (σ : nd_Mem) (h : f_X11_height F x1 σ = some z) : nd_Fn M_X11_height (nd_rm 1) [.ref 60, .int x1] (nd_SH ++ t) σ (nd_Pi (nd_SH ++ t) z) := by
  refine nd_Fn.ofV (ls := [(0, .ref 60), (1, .int x1)]) pl_X11_height rfl (fun _ => Nat.le_of_ble_eq_true rfl) (fun _ => rfl) ?_
  unfold f_X11_height at h
  refine nd_aload_n dX11_height_0 0 rfl ?_
  refine nd_iconst dX11_height_1 ic_0 ?_
  refine nd_putiN dX11_height_2 pf_X11_132 (sh_60 t) rfl h (fun σ1 h => ?_)
  refine nd_iload_n dX11_height_5 1 rfl ?_
  refine nd_iconst dX11_height_6 ic_m1 ?_
  refine nd_icmp_neN dX11_height_7 17 (by decide) h (fun h => ?_) (fun h => ?_)
  · refine nd_aload_n dX11_height_17 0 rfl ?_
    refine nd_iload_n dX11_height_18 1 rfl ?_
    refine nd_iconst dX11_height_19 ic_1 ?_
    refine nd_bipush dX11_height_20 ib_60 ?_
    obtain ⟨r2, σ3, hc4, h⟩ := nd_bind_e h
    refine nd_cvi [.int x1, .int (1 : Int32), .int (60 : Int32)] [] dX11_height_22 cl_X11_147 (sh_60 t) ⟨Nat.le_of_ble_eq_true rfl, Nat.le_of_ble_eq_true rfl⟩ rfl (Nat.le_of_ble_eq_true rfl) hL (t_X11_isIn F t hL _ _ _ _ hc4) ?_
    refine nd_if_eqN dX11_height_25 37 (by decide) h (fun h => ?_) (fun h => ?_)
    · refine nd_sub [0] rfl ?_
      exact b_X11_height_37 F t hL _ h
    · refine nd_aload_n dX11_height_28 0 rfl ?_
      refine nd_get dX11_height_29 gf_X11_461 (sh_60 t) rfl ?_
      refine nd_bipush dX11_height_32 ib_10 ?_
      refine nd_icmp_neN dX11_height_34 39 (by decide) h (fun h => ?_) (fun h => ?_)
      · refine nd_aload_n dX11_height_39 0 rfl ?_
        refine nd_get dX11_height_40 gf_X11_119 (sh_60 t) rfl ?_
        refine nd_aload_n dX11_height_43 0 rfl ?_
        refine nd_get dX11_height_44 gf_X11_461 (sh_60 t) rfl ?_
        refine nd_iload_n dX11_height_47 1 rfl ?_
        refine nd_iastoreN dX11_height_48 (sh_96 t) h (fun σ5 h => ?_)
        refine nd_aload_n dX11_height_49 0 rfl ?_
        refine nd_aload_n dX11_height_50 0 rfl ?_
        refine nd_get dX11_height_51 gf_X11_461 (sh_60 t) rfl ?_
        refine nd_iconst dX11_height_54 ic_1 ?_
        refine nd_iadd dX11_height_55 ?_
        refine nd_putiN dX11_height_56 pf_X11_461 (sh_60 t) rfl h (fun σ6 h => ?_)
        refine nd_aload_n dX11_height_59 0 rfl ?_
        refine nd_get dX11_height_60 gf_X11_461 (sh_60 t) rfl ?_
        exact nd_iret dX11_height_63 (Nat.zero_le _) (Nat.zero_le _) (vp_nar_int _) (by cases h; exact ⟨rfl, rfl, rfl⟩)
      · refine nd_sub [0] rfl ?_
        exact b_X11_height_37 F t hL _ h
  · refine nd_aload_n dX11_height_10 0 rfl ?_
    refine nd_iconst dX11_height_11 ic_0 ?_
    refine nd_putiN dX11_height_12 pf_X11_461 (sh_60 t) rfl h (fun σ7 h => ?_)
    refine nd_iconst dX11_height_15 ic_0 ?_
    exact nd_iret dX11_height_16 (Nat.zero_le _) (Nat.zero_le _) (vp_nar_int _) (by cases h; exact ⟨rfl, rfl, rfl⟩)
def f_X11_house_48 (F : Nat) (σ : nd_Mem) : nd_Res := (some ((-1 : Int32), σ))
def f_X11_house (F : Nat) (x1 : Int32) (x2 : Int32) (x3 : Int32) (σ : nd_Mem) : nd_Res := (nd_let (nd_up σ 60 0 (0 : Int32)) fun σ1 => (nd_bind (f_X11_isIn F x1 (0 : Int32) (9 : Int32) σ1) fun r2 σ3 => (if r2 = 0 then (f_X11_house_48 F σ3) else (nd_bind (f_X11_isIn F x2 (0 : Int32) (9 : Int32) σ3) fun r5 σ6 => (if r5 = 0 then (f_X11_house_48 F σ6) else (nd_bind (f_X11_isIn F x3 (0 : Int32) (9999 : Int32) σ6) fun r8 σ9 => (if r8 = 0 then (f_X11_house_48 F σ9) else (if (σ9 60 6) = (16 : Int32) then (f_X11_house_48 F σ9) else (if ((7 : Int32) + (σ9 60 6)) < 0 ∨ 103 ≤ (((7 : Int32) + (σ9 60 6))).toNatClampNeg then none else (nd_let (nd_up σ9 61 (((7 : Int32) + (σ9 60 6))).toNatClampNeg x1) fun σ11 => (if ((23 : Int32) + (σ11 60 6)) < 0 ∨ 103 ≤ (((23 : Int32) + (σ11 60 6))).toNatClampNeg then none else (nd_let (nd_up σ11 61 (((23 : Int32) + (σ11 60 6))).toNatClampNeg x2) fun σ12 => (if ((39 : Int32) + (σ12 60 6)) < 0 ∨ 103 ≤ (((39 : Int32) + (σ12 60 6))).toNatClampNeg then none else (nd_let (nd_up σ12 61 (((39 : Int32) + (σ12 60 6))).toNatClampNeg (0 : Int32)) fun σ13 => (if ((55 : Int32) + (σ13 60 6)) < 0 ∨ 103 ≤ (((55 : Int32) + (σ13 60 6))).toNatClampNeg then none else (nd_let (nd_up σ13 61 (((55 : Int32) + (σ13 60 6))).toNatClampNeg x3) fun σ14 => (if ((71 : Int32) + (σ14 60 6)) < 0 ∨ 103 ≤ (((71 : Int32) + (σ14 60 6))).toNatClampNeg then none else (nd_let (nd_up σ14 61 (((71 : Int32) + (σ14 60 6))).toNatClampNeg ((σ14 60 6) + (1 : Int32))) fun σ15 => (if ((87 : Int32) + (σ15 60 6)) < 0 ∨ 103 ≤ (((87 : Int32) + (σ15 60 6))).toNatClampNeg then none else (nd_let (nd_up σ15 61 (((87 : Int32) + (σ15 60 6))).toNatClampNeg (0 : Int32)) fun σ16 => (nd_let (nd_up σ16 60 6 ((σ16 60 6) + (1 : Int32))) fun σ17 => (nd_let (nd_up σ17 60 3 (0 : Int32)) fun σ18 => (some (((σ18 60 6) - (1 : Int32)), σ18))))))))))))))))))))))))
set_option maxRecDepth 100000 in
set_option maxHeartbeats 4000000 in
theorem b_X11_house_48 (F : Nat) (t : List nd_S) (hL : (nd_SH ++ t).length < nd_ro) {z : Int32 × nd_Mem} (σ : nd_Mem) (h : f_X11_house_48 F σ = some z) : nd_V M_X11_house (nd_rm 1) (nd_Pi (nd_SH ++ t) z) 0 0 48 [(0, .ref 60)] [] (nd_SH ++ t) σ := by
  unfold f_X11_house_48 at h
  refine nd_iconst dX11_house_48 ic_m1 ?_
  exact nd_iret dX11_house_49 (Nat.zero_le _) (Nat.zero_le _) (vp_nar_int _) (by cases h; exact ⟨rfl, rfl, rfl⟩)
set_option maxRecDepth 100000 in
set_option maxHeartbeats 4000000 in
theorem t_X11_house (F : Nat) (t : List nd_S) (hL : (nd_SH ++ t).length < nd_ro) {z : Int32 × nd_Mem} (x1 : Int32) (x2 : Int32) (x3 : Int32) (σ : nd_Mem) (h : f_X11_house F x1 x2 x3 σ = some z) : nd_Fn M_X11_house (nd_rm 1) [.ref 60, .int x1, .int x2, .int x3] (nd_SH ++ t) σ (nd_Pi (nd_SH ++ t) z) := by
  refine nd_Fn.ofV (ls := [(0, .ref 60), (1, .int x1), (2, .int x2), (3, .int x3)]) pl_X11_house rfl (fun _ => Nat.le_of_ble_eq_true rfl) (fun _ => rfl) ?_
  unfold f_X11_house at h
  refine nd_aload_n dX11_house_0 0 rfl ?_
  refine nd_iconst dX11_house_1 ic_0 ?_
  refine nd_putiN dX11_house_2 pf_X11_132 (sh_60 t) rfl h (fun σ1 h => ?_)
  refine nd_aload_n dX11_house_5 0 rfl ?_
  refine nd_iload_n dX11_house_6 1 rfl ?_
  refine nd_iconst dX11_house_7 ic_0 ?_
  refine nd_bipush dX11_house_8 ib_9 ?_
  obtain ⟨r2, σ3, hc4, h⟩ := nd_bind_e h
  refine nd_cvi [.int x1, .int (0 : Int32), .int (9 : Int32)] [] dX11_house_10 cl_X11_147 (sh_60 t) ⟨Nat.le_of_ble_eq_true rfl, Nat.le_of_ble_eq_true rfl⟩ rfl (Nat.le_of_ble_eq_true rfl) hL (t_X11_isIn F t hL _ _ _ _ hc4) ?_
  refine nd_if_eqN dX11_house_13 48 (by decide) h (fun h => ?_) (fun h => ?_)
  · refine nd_sub [0] rfl ?_
    exact b_X11_house_48 F t hL _ h
  · refine nd_aload_n dX11_house_16 0 rfl ?_
    refine nd_iload_n dX11_house_17 2 rfl ?_
    refine nd_iconst dX11_house_18 ic_0 ?_
    refine nd_bipush dX11_house_19 ib_9 ?_
    obtain ⟨r5, σ6, hc7, h⟩ := nd_bind_e h
    refine nd_cvi [.int x2, .int (0 : Int32), .int (9 : Int32)] [] dX11_house_21 cl_X11_147 (sh_60 t) ⟨Nat.le_of_ble_eq_true rfl, Nat.le_of_ble_eq_true rfl⟩ rfl (Nat.le_of_ble_eq_true rfl) hL (t_X11_isIn F t hL _ _ _ _ hc7) ?_
    refine nd_if_eqN dX11_house_24 48 (by decide) h (fun h => ?_) (fun h => ?_)
    · refine nd_sub [0] rfl ?_
      exact b_X11_house_48 F t hL _ h
    · refine nd_aload_n dX11_house_27 0 rfl ?_
      refine nd_iload_n dX11_house_28 3 rfl ?_
      refine nd_iconst dX11_house_29 ic_0 ?_
      refine nd_sipush dX11_house_30 is_9999 ?_
      obtain ⟨r8, σ9, hc10, h⟩ := nd_bind_e h
      refine nd_cvi [.int x3, .int (0 : Int32), .int (9999 : Int32)] [] dX11_house_33 cl_X11_147 (sh_60 t) ⟨Nat.le_of_ble_eq_true rfl, Nat.le_of_ble_eq_true rfl⟩ rfl (Nat.le_of_ble_eq_true rfl) hL (t_X11_isIn F t hL _ _ _ _ hc10) ?_
      refine nd_if_eqN dX11_house_36 48 (by decide) h (fun h => ?_) (fun h => ?_)
      · refine nd_sub [0] rfl ?_
        exact b_X11_house_48 F t hL _ h
      · refine nd_aload_n dX11_house_39 0 rfl ?_
        refine nd_get dX11_house_40 gf_X11_144 (sh_60 t) rfl ?_
        refine nd_bipush dX11_house_43 ib_16 ?_
        refine nd_icmp_neN dX11_house_45 50 (by decide) h (fun h => ?_) (fun h => ?_)
        · refine nd_aload_n dX11_house_50 0 rfl ?_
          refine nd_get dX11_house_51 gf_X11_7 (sh_60 t) rfl ?_
          refine nd_bipush dX11_house_54 ib_7 ?_
          refine nd_aload_n dX11_house_56 0 rfl ?_
          refine nd_get dX11_house_57 gf_X11_144 (sh_60 t) rfl ?_
          refine nd_iadd dX11_house_60 ?_
          refine nd_iload_n dX11_house_61 1 rfl ?_
          refine nd_iastoreN dX11_house_62 (sh_61 t) h (fun σ11 h => ?_)
          refine nd_aload_n dX11_house_63 0 rfl ?_
          refine nd_get dX11_house_64 gf_X11_7 (sh_60 t) rfl ?_
          refine nd_bipush dX11_house_67 ib_23 ?_
          refine nd_aload_n dX11_house_69 0 rfl ?_
          refine nd_get dX11_house_70 gf_X11_144 (sh_60 t) rfl ?_
          refine nd_iadd dX11_house_73 ?_
          refine nd_iload_n dX11_house_74 2 rfl ?_
          refine nd_iastoreN dX11_house_75 (sh_61 t) h (fun σ12 h => ?_)
          refine nd_aload_n dX11_house_76 0 rfl ?_
          refine nd_get dX11_house_77 gf_X11_7 (sh_60 t) rfl ?_
          refine nd_bipush dX11_house_80 ib_39 ?_
          refine nd_aload_n dX11_house_82 0 rfl ?_
          refine nd_get dX11_house_83 gf_X11_144 (sh_60 t) rfl ?_
          refine nd_iadd dX11_house_86 ?_
          refine nd_iconst dX11_house_87 ic_0 ?_
          refine nd_iastoreN dX11_house_88 (sh_61 t) h (fun σ13 h => ?_)
          refine nd_aload_n dX11_house_89 0 rfl ?_
          refine nd_get dX11_house_90 gf_X11_7 (sh_60 t) rfl ?_
          refine nd_bipush dX11_house_93 ib_55 ?_
          refine nd_aload_n dX11_house_95 0 rfl ?_
          refine nd_get dX11_house_96 gf_X11_144 (sh_60 t) rfl ?_
          refine nd_iadd dX11_house_99 ?_
          refine nd_iload_n dX11_house_100 3 rfl ?_
          refine nd_iastoreN dX11_house_101 (sh_61 t) h (fun σ14 h => ?_)
          refine nd_aload_n dX11_house_102 0 rfl ?_
          refine nd_get dX11_house_103 gf_X11_7 (sh_60 t) rfl ?_
          refine nd_bipush dX11_house_106 ib_71 ?_
          refine nd_aload_n dX11_house_108 0 rfl ?_
          refine nd_get dX11_house_109 gf_X11_144 (sh_60 t) rfl ?_
          refine nd_iadd dX11_house_112 ?_
          refine nd_aload_n dX11_house_113 0 rfl ?_
          refine nd_get dX11_house_114 gf_X11_144 (sh_60 t) rfl ?_
          refine nd_iconst dX11_house_117 ic_1 ?_
          refine nd_iadd dX11_house_118 ?_
          refine nd_iastoreN dX11_house_119 (sh_61 t) h (fun σ15 h => ?_)
          refine nd_aload_n dX11_house_120 0 rfl ?_
          refine nd_get dX11_house_121 gf_X11_7 (sh_60 t) rfl ?_
          refine nd_bipush dX11_house_124 ib_87 ?_
          refine nd_aload_n dX11_house_126 0 rfl ?_
          refine nd_get dX11_house_127 gf_X11_144 (sh_60 t) rfl ?_
          refine nd_iadd dX11_house_130 ?_
          refine nd_iconst dX11_house_131 ic_0 ?_
          refine nd_iastoreN dX11_house_132 (sh_61 t) h (fun σ16 h => ?_)
          refine nd_aload_n dX11_house_133 0 rfl ?_
          refine nd_aload_n dX11_house_134 0 rfl ?_
          refine nd_get dX11_house_135 gf_X11_144 (sh_60 t) rfl ?_
          refine nd_iconst dX11_house_138 ic_1 ?_
          refine nd_iadd dX11_house_139 ?_
          refine nd_putiN dX11_house_140 pf_X11_144 (sh_60 t) rfl h (fun σ17 h => ?_)
          refine nd_aload_n dX11_house_143 0 rfl ?_
          refine nd_iconst dX11_house_144 ic_0 ?_
          refine nd_putiN dX11_house_145 pf_X11_135 (sh_60 t) rfl h (fun σ18 h => ?_)
          refine nd_aload_n dX11_house_148 0 rfl ?_
          refine nd_get dX11_house_149 gf_X11_144 (sh_60 t) rfl ?_
          refine nd_iconst dX11_house_152 ic_1 ?_
          refine nd_isub dX11_house_153 ?_
          exact nd_iret dX11_house_154 (Nat.zero_le _) (Nat.zero_le _) (vp_nar_int _) (by cases h; exact ⟨rfl, rfl, rfl⟩)
        · refine nd_sub [0] rfl ?_
          exact b_X11_house_48 F t hL _ h
def f_X11_isAbove_32 (F : Nat) (σ : nd_Mem) : nd_Res := (some ((0 : Int32), σ))
def f_X11_isAbove (F : Nat) (x1 : Int32) (x2 : Int32) (σ : nd_Mem) : nd_Res := (if x1 < 0 ∨ 32 ≤ (x1).toNatClampNeg then none else (nd_bind (f_X11_has F (σ 76 (x1).toNatClampNeg) x2 σ) fun r1 σ2 => (if r1 = 0 then (f_X11_isAbove_32 F σ2) else (if x2 < 0 ∨ 32 ≤ (x2).toNatClampNeg then none else (nd_bind (f_X11_has F (σ2 76 (x2).toNatClampNeg) x1 σ2) fun r4 σ5 => (if r4 = 0 then (some ((1 : Int32), σ5)) else (f_X11_isAbove_32 F σ5)))))))
set_option maxRecDepth 100000 in
set_option maxHeartbeats 4000000 in
theorem b_X11_isAbove_32 (F : Nat) (t : List nd_S) (hL : (nd_SH ++ t).length < nd_ro) {z : Int32 × nd_Mem} (σ : nd_Mem) (h : f_X11_isAbove_32 F σ = some z) : nd_V M_X11_isAbove (nd_rm 1) (nd_Pi (nd_SH ++ t) z) 0 0 32 [(0, .ref 60)] [] (nd_SH ++ t) σ := by
  unfold f_X11_isAbove_32 at h
  refine nd_iconst dX11_isAbove_32 ic_0 ?_
  exact nd_iret dX11_isAbove_33 (Nat.zero_le _) (Nat.zero_le _) rfl (by cases h; exact ⟨rfl, rfl, rfl⟩)
set_option maxRecDepth 100000 in
set_option maxHeartbeats 4000000 in
theorem t_X11_isAbove (F : Nat) (t : List nd_S) (hL : (nd_SH ++ t).length < nd_ro) {z : Int32 × nd_Mem} (x1 : Int32) (x2 : Int32) (σ : nd_Mem) (h : f_X11_isAbove F x1 x2 σ = some z) : nd_Fn M_X11_isAbove (nd_rm 1) [.ref 60, .int x1, .int x2] (nd_SH ++ t) σ (nd_Pi (nd_SH ++ t) z) := by
  refine nd_Fn.ofV (ls := [(0, .ref 60), (1, .int x1), (2, .int x2)]) pl_X11_isAbove rfl (fun _ => Nat.le_of_ble_eq_true rfl) (fun _ => rfl) ?_
  unfold f_X11_isAbove at h
  refine nd_aload_n dX11_isAbove_0 0 rfl ?_
  refine nd_aload_n dX11_isAbove_1 0 rfl ?_
  refine nd_get dX11_isAbove_2 gf_X11_59 (sh_60 t) rfl ?_
  refine nd_iload_n dX11_isAbove_5 1 rfl ?_
  refine nd_ialoadN dX11_isAbove_6 (sh_76 t) h (fun h => ?_)
  refine nd_iload_n dX11_isAbove_7 2 rfl ?_
  obtain ⟨r1, σ2, hc3, h⟩ := nd_bind_e h
  refine nd_cvi [.int (σ 76 (x1).toNatClampNeg), .int x2] [] dX11_isAbove_8 cl_X11_328 (sh_60 t) ⟨Nat.le_of_ble_eq_true rfl, Nat.le_of_ble_eq_true rfl⟩ rfl (Nat.le_of_ble_eq_true rfl) hL (t_X11_has F t hL _ _ _ hc3) ?_
  refine nd_if_eqN dX11_isAbove_11 32 (by decide) h (fun h => ?_) (fun h => ?_)
  · refine nd_sub [0] rfl ?_
    exact b_X11_isAbove_32 F t hL _ h
  · refine nd_aload_n dX11_isAbove_14 0 rfl ?_
    refine nd_aload_n dX11_isAbove_15 0 rfl ?_
    refine nd_get dX11_isAbove_16 gf_X11_59 (sh_60 t) rfl ?_
    refine nd_iload_n dX11_isAbove_19 2 rfl ?_
    refine nd_ialoadN dX11_isAbove_20 (sh_76 t) h (fun h => ?_)
    refine nd_iload_n dX11_isAbove_21 1 rfl ?_
    obtain ⟨r4, σ5, hc6, h⟩ := nd_bind_e h
    refine nd_cvi [.int (σ2 76 (x2).toNatClampNeg), .int x1] [] dX11_isAbove_22 cl_X11_328 (sh_60 t) ⟨Nat.le_of_ble_eq_true rfl, Nat.le_of_ble_eq_true rfl⟩ rfl (Nat.le_of_ble_eq_true rfl) hL (t_X11_has F t hL _ _ _ hc6) ?_
    refine nd_if_neN dX11_isAbove_25 32 (by decide) h (fun h => ?_) (fun h => ?_)
    · refine nd_sub [0] rfl ?_
      exact b_X11_isAbove_32 F t hL _ h
    · refine nd_iconst dX11_isAbove_28 ic_1 ?_
      refine nd_goto dX11_isAbove_29 33 (by decide) ?_
      exact nd_iret dX11_isAbove_33 (Nat.zero_le _) (Nat.zero_le _) rfl (by cases h; exact ⟨rfl, rfl, rfl⟩)
def f_X11_isDigit (F : Nat) (x1 : Int32) (σ : nd_Mem) : nd_Res := (nd_bind (f_X11_isIn F x1 (48 : Int32) (57 : Int32) σ) fun r1 σ2 => (if ¬ (r1 = 0 ∨ r1 = 1) then none else (some (r1, σ2))))
set_option maxRecDepth 100000 in
set_option maxHeartbeats 4000000 in
theorem t_X11_isDigit (F : Nat) (t : List nd_S) (hL : (nd_SH ++ t).length < nd_ro) {z : Int32 × nd_Mem} (x1 : Int32) (σ : nd_Mem) (h : f_X11_isDigit F x1 σ = some z) : nd_Fn M_X11_isDigit (nd_rm 1) [.ref 60, .int x1] (nd_SH ++ t) σ (nd_Pi (nd_SH ++ t) z) := by
  refine nd_Fn.ofV (ls := [(0, .ref 60), (1, .int x1)]) pl_X11_isDigit rfl (fun _ => Nat.le_of_ble_eq_true rfl) (fun _ => rfl) ?_
  unfold f_X11_isDigit at h
  refine nd_aload_n dX11_isDigit_0 0 rfl ?_
  refine nd_iload_n dX11_isDigit_1 1 rfl ?_
  refine nd_bipush dX11_isDigit_2 ib_48 ?_
  refine nd_bipush dX11_isDigit_4 ib_57 ?_
  obtain ⟨r1, σ2, hc3, h⟩ := nd_bind_e h
  refine nd_cvi [.int x1, .int (48 : Int32), .int (57 : Int32)] [] dX11_isDigit_6 cl_X11_147 (sh_60 t) ⟨Nat.le_of_ble_eq_true rfl, Nat.le_of_ble_eq_true rfl⟩ rfl (Nat.le_of_ble_eq_true rfl) hL (t_X11_isIn F t hL _ _ _ _ hc3) ?_
  have hz4 := nd_no_e h
  have h := hz4.2
  exact nd_iret dX11_isDigit_9 (Nat.zero_le _) (Nat.zero_le _) (nd_zok rfl (Classical.not_not.mp hz4.1)) (by cases h; exact ⟨rfl, rfl, rfl⟩)
