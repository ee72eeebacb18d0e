def f_X7_comesBack_45 (F : Nat) (rec10 : Int32 → Int32 → Int32 → Int32 → nd_Mem → nd_Res) (rec19 : Int32 → Int32 → Int32 → Int32 → Int32 → nd_Mem → nd_Res) (x1 : Int32) (x2 : Int32) (x3 : Int32) (x4 : Int32) (x5 : Int32) (σ : nd_Mem) : nd_Res := (rec19 x1 x2 x3 x4 (x5 + (1 : Int32)) σ)
def f_X7_comesBack_19_b (F : Nat) (rec10 : Int32 → Int32 → Int32 → Int32 → nd_Mem → nd_Res) (rec19 : Int32 → Int32 → Int32 → Int32 → Int32 → nd_Mem → nd_Res) (x1 : Int32) (x2 : Int32) (x3 : Int32) (x4 : Int32) (x5 : Int32) (σ : nd_Mem) : nd_Res := (if x2 ≤ x5 then (rec10 x1 x2 x3 (x4 + (1 : Int32)) σ) else (if ((x3 >>> (x5 &&& 31)) &&& (1 : Int32)) = (1 : Int32) then (if x5 < 0 ∨ 196 ≤ (x5).toNatClampNeg then none else (f_X7_comesBack_45 F rec10 rec19 x1 x2 (x3 ||| (σ 58 (x5).toNatClampNeg)) x4 x5 σ)) else (f_X7_comesBack_45 F rec10 rec19 x1 x2 x3 x4 x5 σ)))
def f_X7_comesBack_19 (F : Nat) (rec10 : Int32 → Int32 → Int32 → Int32 → nd_Mem → nd_Res) : Nat → Int32 → Int32 → Int32 → Int32 → Int32 → nd_Mem → nd_Res
  | 0, _, _, _, _, _, _ => none
  | m9 + 1, x1, x2, x3, x4, x5, σ => f_X7_comesBack_19_b F rec10 (f_X7_comesBack_19 F rec10 m9) x1 x2 x3 x4 x5 σ
def f_X7_comesBack_10_b (F : Nat) (rec10 : Int32 → Int32 → Int32 → Int32 → nd_Mem → nd_Res) (x1 : Int32) (x2 : Int32) (x3 : Int32) (x4 : Int32) (σ : nd_Mem) : nd_Res := (if x2 ≤ x4 then (if ((x3 >>> (x1 &&& 31)) &&& (1 : Int32)) = (1 : Int32) then (some ((1 : Int32), σ)) else (some ((0 : Int32), σ))) else (f_X7_comesBack_19 F rec10 F x1 x2 x3 x4 (0 : Int32) σ))
def f_X7_comesBack_10 (F : Nat) : Nat → Int32 → Int32 → Int32 → Int32 → nd_Mem → nd_Res
  | 0, _, _, _, _, _ => none
  | m9 + 1, x1, x2, x3, x4, σ => f_X7_comesBack_10_b F (f_X7_comesBack_10 F m9) x1 x2 x3 x4 σ
def f_X7_comesBack (F : Nat) (x1 : Int32) (x2 : Int32) (σ : nd_Mem) : nd_Res := (if x1 < 0 ∨ 196 ≤ (x1).toNatClampNeg then none else (f_X7_comesBack_10 F F x1 x2 (σ 58 (x1).toNatClampNeg) (0 : Int32) σ))
set_option maxRecDepth 100000 in
set_option maxHeartbeats 4000000 in
theorem b_X7_comesBack_45 (F : Nat) (rec10 : Int32 → Int32 → Int32 → Int32 → nd_Mem → nd_Res) (rec19 : Int32 → Int32 → Int32 → Int32 → Int32 → nd_Mem → nd_Res) (t : List nd_S) (hL : (nd_SH ++ t).length < nd_ro) {z : Int32 × nd_Mem} (hrec10 : ∀ (x1 : Int32) (x2 : Int32) (x3 : Int32) (x4 : Int32) (σ : nd_Mem), rec10 x1 x2 x3 x4 σ = some z → nd_V M_X7_comesBack (nd_rm 0) (nd_Pi (nd_SH ++ t) z) 0 0 10 [(0, .ref 57), (1, .int x1), (2, .int x2), (3, .int x3), (4, .int x4)] [] (nd_SH ++ t) σ) (hrec19 : ∀ (x1 : Int32) (x2 : Int32) (x3 : Int32) (x4 : Int32) (x5 : Int32) (σ : nd_Mem), rec19 x1 x2 x3 x4 x5 σ = some z → nd_V M_X7_comesBack (nd_rm 0) (nd_Pi (nd_SH ++ t) z) 0 0 19 [(0, .ref 57), (1, .int x1), (2, .int x2), (3, .int x3), (4, .int x4), (5, .int x5)] [] (nd_SH ++ t) σ) (x1 : Int32) (x2 : Int32) (x3 : Int32) (x4 : Int32) (x5 : Int32) (σ : nd_Mem) (h : f_X7_comesBack_45 F rec10 rec19 x1 x2 x3 x4 x5 σ = some z) : nd_V M_X7_comesBack (nd_rm 0) (nd_Pi (nd_SH ++ t) z) 0 0 45 [(0, .ref 57), (1, .int x1), (2, .int x2), (3, .int x3), (4, .int x4), (5, .int x5)] [] (nd_SH ++ t) σ := by
  unfold f_X7_comesBack_45 at h
  refine nd_iinc (v := (x5 + (1 : Int32))) (ls' := [(5, .int (x5 + (1 : Int32))), (0, .ref 57), (1, .int x1), (2, .int x2), (3, .int x3), (4, .int x4)]) dX7_comesBack_45 5 rfl (congrArg (HAdd.hAdd _) ic_1) (by decide) rfl ?_
  refine nd_goto dX7_comesBack_48 19 (by decide) ?_
  refine nd_sub [1, 2, 3, 4, 5, 0] rfl ?_
  exact hrec19 _ _ _ _ _ _ h
set_option maxRecDepth 100000 in
set_option maxHeartbeats 4000000 in
theorem b_X7_comesBack_19 (F : Nat) (rec10 : Int32 → Int32 → Int32 → Int32 → nd_Mem → nd_Res) (t : List nd_S) (hL : (nd_SH ++ t).length < nd_ro) {z : Int32 × nd_Mem} (hrec10 : ∀ (x1 : Int32) (x2 : Int32) (x3 : Int32) (x4 : Int32) (σ : nd_Mem), rec10 x1 x2 x3 x4 σ = some z → nd_V M_X7_comesBack (nd_rm 0) (nd_Pi (nd_SH ++ t) z) 0 0 10 [(0, .ref 57), (1, .int x1), (2, .int x2), (3, .int x3), (4, .int x4)] [] (nd_SH ++ t) σ) (m9 : Nat) : ∀ (x1 : Int32) (x2 : Int32) (x3 : Int32) (x4 : Int32) (x5 : Int32) (σ : nd_Mem), f_X7_comesBack_19 F rec10 m9 x1 x2 x3 x4 x5 σ = some z → nd_V M_X7_comesBack (nd_rm 0) (nd_Pi (nd_SH ++ t) z) 0 0 19 [(0, .ref 57), (1, .int x1), (2, .int x2), (3, .int x3), (4, .int x4), (5, .int x5)] [] (nd_SH ++ t) σ := by
  induction m9 with
  | zero =>
    intro x1 x2 x3 x4 x5 σ h
    have h : none = some z := h
    cases h
  | succ m9 hrec19 =>
    intro x1 x2 x3 x4 x5 σ h
    have h : f_X7_comesBack_19_b F rec10 (f_X7_comesBack_19 F rec10 m9) x1 x2 x3 x4 x5 σ = some z := h
    unfold f_X7_comesBack_19_b at h
    refine nd_iload dX7_comesBack_19 5 rfl ?_
    refine nd_iload_n dX7_comesBack_21 2 rfl ?_
    refine nd_icmp_geN dX7_comesBack_22 51 (by decide) h (fun h => ?_) (fun h => ?_)
    · refine nd_iinc (v := (x4 + (1 : Int32))) (ls' := [(4, .int (x4 + (1 : Int32))), (0, .ref 57), (1, .int x1), (2, .int x2), (3, .int x3), (5, .int x5)]) dX7_comesBack_51 4 rfl (congrArg (HAdd.hAdd _) ic_1) (by decide) rfl ?_
      refine nd_goto dX7_comesBack_54 10 (by decide) ?_
      refine nd_sub [1, 2, 3, 4, 0] rfl ?_
      exact hrec10 _ _ _ _ _ h
    · refine nd_iload_n dX7_comesBack_25 3 rfl ?_
      refine nd_iload dX7_comesBack_26 5 rfl ?_
      refine nd_ishr dX7_comesBack_28 ?_
      refine nd_iconst dX7_comesBack_29 ic_1 ?_
      refine nd_iand dX7_comesBack_30 ?_
      refine nd_iconst dX7_comesBack_31 ic_1 ?_
      refine nd_icmp_neN dX7_comesBack_32 45 (by decide) h (fun h => ?_) (fun h => ?_)
      · exact b_X7_comesBack_45 F _ _ t hL hrec10 hrec19 _ _ _ _ _ _ h
      · refine nd_iload_n dX7_comesBack_35 3 rfl ?_
        refine nd_aload_n dX7_comesBack_36 0 rfl ?_
        refine nd_get dX7_comesBack_37 gf_X7_15 (sh_57 t) rfl ?_
        refine nd_iload dX7_comesBack_40 5 rfl ?_
        refine nd_ialoadN dX7_comesBack_42 (sh_58 t) h (fun h => ?_)
        refine nd_ior dX7_comesBack_43 ?_
        refine nd_istore_n (ls' := [(3, .int (x3 ||| (σ 58 (x5).toNatClampNeg))), (0, .ref 57), (1, .int x1), (2, .int x2), (4, .int x4), (5, .int x5)]) dX7_comesBack_44 (by decide) rfl ?_
        refine nd_sub [1, 2, 3, 0, 4, 5] rfl ?_
        exact b_X7_comesBack_45 F _ _ t hL hrec10 hrec19 _ _ _ _ _ _ h
set_option maxRecDepth 100000 in
set_option maxHeartbeats 4000000 in
theorem b_X7_comesBack_10 (F : Nat) (t : List nd_S) (hL : (nd_SH ++ t).length < nd_ro) {z : Int32 × nd_Mem} (m9 : Nat) : ∀ (x1 : Int32) (x2 : Int32) (x3 : Int32) (x4 : Int32) (σ : nd_Mem), f_X7_comesBack_10 F m9 x1 x2 x3 x4 σ = some z → nd_V M_X7_comesBack (nd_rm 0) (nd_Pi (nd_SH ++ t) z) 0 0 10 [(0, .ref 57), (1, .int x1), (2, .int x2), (3, .int x3), (4, .int x4)] [] (nd_SH ++ t) σ := by
  induction m9 with
  | zero =>
    intro x1 x2 x3 x4 σ h
    have h : none = some z := h
    cases h
  | succ m9 hrec10 =>
    intro x1 x2 x3 x4 σ h
    have h : f_X7_comesBack_10_b F (f_X7_comesBack_10 F m9) x1 x2 x3 x4 σ = some z := h
    unfold f_X7_comesBack_10_b at h
    refine nd_iload dX7_comesBack_10 4 rfl ?_
    refine nd_iload_n dX7_comesBack_12 2 rfl ?_
    refine nd_icmp_geN dX7_comesBack_13 57 (by decide) h (fun h => ?_) (fun h => ?_)
    · refine nd_iload_n dX7_comesBack_57 3 rfl ?_
      refine nd_iload_n dX7_comesBack_58 1 rfl ?_
      refine nd_ishr dX7_comesBack_59 ?_
      refine nd_iconst dX7_comesBack_60 ic_1 ?_
      refine nd_iand dX7_comesBack_61 ?_
      refine nd_iconst dX7_comesBack_62 ic_1 ?_
      refine nd_icmp_neN dX7_comesBack_63 70 (by decide) h (fun h => ?_) (fun h => ?_)
      · refine nd_iconst dX7_comesBack_70 ic_0 ?_
        exact nd_iret dX7_comesBack_71 (Nat.zero_le _) (Nat.zero_le _) rfl (by cases h; exact ⟨rfl, rfl, rfl⟩)
      · refine nd_iconst dX7_comesBack_66 ic_1 ?_
        refine nd_goto dX7_comesBack_67 71 (by decide) ?_
        exact nd_iret dX7_comesBack_71 (Nat.zero_le _) (Nat.zero_le _) rfl (by cases h; exact ⟨rfl, rfl, rfl⟩)
    · refine nd_iconst dX7_comesBack_16 ic_0 ?_
      refine nd_istore (ls' := [(5, .int (0 : Int32)), (0, .ref 57), (1, .int x1), (2, .int x2), (3, .int x3), (4, .int x4)]) dX7_comesBack_17 (by decide) rfl ?_
      refine nd_sub [1, 2, 3, 4, 5, 0] rfl ?_
      exact b_X7_comesBack_19 F _ t hL hrec10 F _ _ _ _ _ _ h
set_option maxRecDepth 100000 in
set_option maxHeartbeats 4000000 in
theorem t_X7_comesBack (F : Nat) (t : List nd_S) (hL : (nd_SH ++ t).length < nd_ro) {z : Int32 × nd_Mem} (x1 : Int32) (x2 : Int32) (σ : nd_Mem) (h : f_X7_comesBack F x1 x2 σ = some z) : nd_Fn M_X7_comesBack (nd_rm 0) [.ref 57, .int x1, .int x2] (nd_SH ++ t) σ (nd_Pi (nd_SH ++ t) z) := by
  refine nd_Fn.ofV (ls := [(0, .ref 57), (1, .int x1), (2, .int x2)]) pl_X7_comesBack rfl (fun _ => Nat.le_of_ble_eq_true rfl) (fun _ => rfl) ?_
  unfold f_X7_comesBack at h
  refine nd_aload_n dX7_comesBack_0 0 rfl ?_
  refine nd_get dX7_comesBack_1 gf_X7_15 (sh_57 t) rfl ?_
  refine nd_iload_n dX7_comesBack_4 1 rfl ?_
  refine nd_ialoadN dX7_comesBack_5 (sh_58 t) h (fun h => ?_)
  refine nd_istore_n (ls' := [(3, .int (σ 58 (x1).toNatClampNeg)), (0, .ref 57), (1, .int x1), (2, .int x2)]) dX7_comesBack_6 (by decide) rfl ?_
  refine nd_iconst dX7_comesBack_7 ic_0 ?_
  refine nd_istore (ls' := [(4, .int (0 : Int32)), (3, .int (σ 58 (x1).toNatClampNeg)), (0, .ref 57), (1, .int x1), (2, .int x2)]) dX7_comesBack_8 (by decide) rfl ?_
  refine nd_sub [2, 3, 4, 1, 0] rfl ?_
  exact b_X7_comesBack_10 F t hL F _ _ _ _ _ h
def f_X7_factorial_4_b (F : Nat) (rec4 : Int32 → Int32 → Int32 → nd_Mem → nd_Res) (x0 : Int32) (x1 : Int32) (x2 : Int32) (σ : nd_Mem) : nd_Res := (if x0 < x2 then (some (x1, σ)) else (rec4 x0 (x1 * x2) (x2 + (1 : Int32)) σ))
def f_X7_factorial_4 (F : Nat) : Nat → Int32 → Int32 → Int32 → nd_Mem → nd_Res
  | 0, _, _, _, _ => none
  | m9 + 1, x0, x1, x2, σ => f_X7_factorial_4_b F (f_X7_factorial_4 F m9) x0 x1 x2 σ
def f_X7_factorial (F : Nat) (x0 : Int32) (σ : nd_Mem) : nd_Res := (f_X7_factorial_4 F F x0 (1 : Int32) (2 : Int32) σ)
set_option maxRecDepth 100000 in
set_option maxHeartbeats 4000000 in
theorem b_X7_factorial_4 (F : Nat) (sh : List nd_S) (hL : sh.length < nd_ro) {z : Int32 × nd_Mem} (m9 : Nat) : ∀ (x0 : Int32) (x1 : Int32) (x2 : Int32) (σ : nd_Mem), f_X7_factorial_4 F m9 x0 x1 x2 σ = some z → nd_V M_X7_factorial (nd_rm 0) (nd_Pi sh z) 0 0 4 [(0, .int x0), (1, .int x1), (2, .int x2)] [] sh σ := by
  induction m9 with
  | zero =>
    intro x0 x1 x2 σ h
    have h : none = some z := h
    cases h
  | succ m9 hrec4 =>
    intro x0 x1 x2 σ h
    have h : f_X7_factorial_4_b F (f_X7_factorial_4 F m9) x0 x1 x2 σ = some z := h
    unfold f_X7_factorial_4_b at h
    refine nd_iload_n dX7_factorial_4 2 rfl ?_
    refine nd_iload_n dX7_factorial_5 0 rfl ?_
    refine nd_icmp_gtN dX7_factorial_6 19 (by decide) h (fun h => ?_) (fun h => ?_)
    · refine nd_iload_n dX7_factorial_19 1 rfl ?_
      exact nd_iret dX7_factorial_20 (Nat.zero_le _) (Nat.zero_le _) (vp_nar_int _) (by cases h; exact ⟨rfl, rfl, rfl⟩)
    · refine nd_iload_n dX7_factorial_9 1 rfl ?_
      refine nd_iload_n dX7_factorial_10 2 rfl ?_
      refine nd_imul dX7_factorial_11 ?_
      refine nd_istore_n (ls' := [(1, .int (x1 * x2)), (0, .int x0), (2, .int x2)]) dX7_factorial_12 (by decide) rfl ?_
      refine nd_iinc (v := (x2 + (1 : Int32))) (ls' := [(2, .int (x2 + (1 : Int32))), (1, .int (x1 * x2)), (0, .int x0)]) dX7_factorial_13 2 rfl (congrArg (HAdd.hAdd _) ic_1) (by decide) rfl ?_
      refine nd_goto dX7_factorial_16 4 (by decide) ?_
      refine nd_sub [2, 1, 0] rfl ?_
      exact hrec4 _ _ _ _ h
set_option maxRecDepth 100000 in
set_option maxHeartbeats 4000000 in
theorem t_X7_factorial (F : Nat) (sh : List nd_S) (hL : sh.length < nd_ro) {z : Int32 × nd_Mem} (x0 : Int32) (σ : nd_Mem) (h : f_X7_factorial F x0 σ = some z) : nd_Fn M_X7_factorial (nd_rm 0) [.int x0] sh σ (nd_Pi sh z) := by
  refine nd_Fn.ofV (ls := [(0, .int x0)]) pl_X7_factorial rfl (fun _ => Nat.le_of_ble_eq_true rfl) (fun _ => rfl) ?_
  unfold f_X7_factorial at h
  refine nd_iconst dX7_factorial_0 ic_1 ?_
  refine nd_istore_n (ls' := [(1, .int (1 : Int32)), (0, .int x0)]) dX7_factorial_1 (by decide) rfl ?_
  refine nd_iconst dX7_factorial_2 ic_2 ?_
  refine nd_istore_n (ls' := [(2, .int (2 : Int32)), (1, .int (1 : Int32)), (0, .int x0)]) dX7_factorial_3 (by decide) rfl ?_
  refine nd_sub [2, 1, 0] rfl ?_
  exact b_X7_factorial_4 F sh hL F _ _ _ _ h
def f_X7_give (F : Nat) (x1 : Int32) (x2 : Int32) (x3 : Int32) (σ : nd_Mem) : nd_Res := (if x1 < 0 then (some (0, σ)) else (if x3 ≤ x1 then (some (0, σ)) else (if x1 < 0 ∨ 196 ≤ (x1).toNatClampNeg then none else (if x1 < 0 ∨ 196 ≤ (x1).toNatClampNeg then none else (nd_let (nd_up σ 58 (x1).toNatClampNeg ((σ 58 (x1).toNatClampNeg) + x2)) fun σ1 => (some (0, σ1)))))))
set_option maxRecDepth 100000 in
set_option maxHeartbeats 4000000 in
theorem t_X7_give (F : Nat) (t : List nd_S) (hL : (nd_SH ++ t).length < nd_ro) {z : Int32 × nd_Mem} (x1 : Int32) (x2 : Int32) (x3 : Int32) (σ : nd_Mem) (h : f_X7_give F x1 x2 x3 σ = some z) : nd_Fn M_X7_give (nd_rm 0) [.ref 57, .int x1, .int x2, .int x3] (nd_SH ++ t) σ (nd_Pv (nd_SH ++ t) z) := by
  refine nd_Fn.ofV (ls := [(0, .ref 57), (1, .int x1), (2, .int x2), (3, .int x3)]) pl_X7_give rfl (fun _ => Nat.le_of_ble_eq_true rfl) (fun _ => rfl) ?_
  unfold f_X7_give at h
  refine nd_iload_n dX7_give_0 1 rfl ?_
  refine nd_if_ltN dX7_give_1 19 (by decide) h (fun h => ?_) (fun h => ?_)
  · exact nd_vret dX7_give_19 (Nat.zero_le _) (Nat.zero_le _) trivial (by cases h; exact ⟨rfl, rfl, rfl⟩)
  · refine nd_iload_n dX7_give_4 1 rfl ?_
    refine nd_iload_n dX7_give_5 3 rfl ?_
    refine nd_icmp_geN dX7_give_6 19 (by decide) h (fun h => ?_) (fun h => ?_)
    · exact nd_vret dX7_give_19 (Nat.zero_le _) (Nat.zero_le _) trivial (by cases h; exact ⟨rfl, rfl, rfl⟩)
    · refine nd_aload_n dX7_give_9 0 rfl ?_
      refine nd_get dX7_give_10 gf_X7_15 (sh_57 t) rfl ?_
      refine nd_iload_n dX7_give_13 1 rfl ?_
      refine nd_dup2 dX7_give_14 rfl rfl ?_
      refine nd_ialoadN dX7_give_15 (sh_58 t) h (fun h => ?_)
      refine nd_iload_n dX7_give_16 2 rfl ?_
      refine nd_iadd dX7_give_17 ?_
      refine nd_iastoreN dX7_give_18 (sh_58 t) h (fun σ1 h => ?_)
      exact nd_vret dX7_give_19 (Nat.zero_le _) (Nat.zero_le _) trivial (by cases h; exact ⟨rfl, rfl, rfl⟩)
def f_X7_groupOf_42 (F : Nat) (rec7 : Int32 → Int32 → Int32 → nd_Mem → nd_Res) (rec16 : Int32 → Int32 → Int32 → Int32 → nd_Mem → nd_Res) (x2 : Int32) (x3 : Int32) (x4 : Int32) (x5 : Int32) (σ : nd_Mem) : nd_Res := (rec16 x2 x3 x4 (x5 + (1 : Int32)) σ)
def f_X7_groupOf_16_b (F : Nat) (rec7 : Int32 → Int32 → Int32 → nd_Mem → nd_Res) (rec16 : Int32 → Int32 → Int32 → Int32 → nd_Mem → nd_Res) (x2 : Int32) (x3 : Int32) (x4 : Int32) (x5 : Int32) (σ : nd_Mem) : nd_Res := (if x2 ≤ x5 then (rec7 x2 x3 (x4 + (1 : Int32)) σ) else (if ((x3 >>> (x5 &&& 31)) &&& (1 : Int32)) = (1 : Int32) then (if x5 < 0 ∨ 196 ≤ (x5).toNatClampNeg then none else (f_X7_groupOf_42 F rec7 rec16 x2 (x3 ||| (σ 58 (x5).toNatClampNeg)) x4 x5 σ)) else (f_X7_groupOf_42 F rec7 rec16 x2 x3 x4 x5 σ)))
def f_X7_groupOf_16 (F : Nat) (rec7 : Int32 → Int32 → Int32 → nd_Mem → nd_Res) : Nat → Int32 → Int32 → Int32 → Int32 → nd_Mem → nd_Res
  | 0, _, _, _, _, _ => none
  | m9 + 1, x2, x3, x4, x5, σ => f_X7_groupOf_16_b F rec7 (f_X7_groupOf_16 F rec7 m9) x2 x3 x4 x5 σ
def f_X7_groupOf_7_b (F : Nat) (rec7 : Int32 → Int32 → Int32 → nd_Mem → nd_Res) (x2 : Int32) (x3 : Int32) (x4 : Int32) (σ : nd_Mem) : nd_Res := (if x2 ≤ x4 then (some (x3, σ)) else (f_X7_groupOf_16 F rec7 F x2 x3 x4 (0 : Int32) σ))
def f_X7_groupOf_7 (F : Nat) : Nat → Int32 → Int32 → Int32 → nd_Mem → nd_Res
  | 0, _, _, _, _ => none
  | m9 + 1, x2, x3, x4, σ => f_X7_groupOf_7_b F (f_X7_groupOf_7 F m9) x2 x3 x4 σ
def f_X7_groupOf (F : Nat) (x1 : Int32) (x2 : Int32) (σ : nd_Mem) : nd_Res := (f_X7_groupOf_7 F F x2 ((1 : Int32) <<< (x1 &&& 31)) (0 : Int32) σ)
set_option maxRecDepth 100000 in
set_option maxHeartbeats 4000000 in
theorem b_X7_groupOf_42 (F : Nat) (rec7 : Int32 → Int32 → Int32 → nd_Mem → nd_Res) (rec16 : Int32 → Int32 → Int32 → Int32 → nd_Mem → nd_Res) (t : List nd_S) (hL : (nd_SH ++ t).length < nd_ro) {z : Int32 × nd_Mem} (hrec7 : ∀ (x2 : Int32) (x3 : Int32) (x4 : Int32) (σ : nd_Mem), rec7 x2 x3 x4 σ = some z → nd_V M_X7_groupOf (nd_rm 0) (nd_Pi (nd_SH ++ t) z) 0 0 7 [(0, .ref 57), (2, .int x2), (3, .int x3), (4, .int x4)] [] (nd_SH ++ t) σ) (hrec16 : ∀ (x2 : Int32) (x3 : Int32) (x4 : Int32) (x5 : Int32) (σ : nd_Mem), rec16 x2 x3 x4 x5 σ = some z → nd_V M_X7_groupOf (nd_rm 0) (nd_Pi (nd_SH ++ t) z) 0 0 16 [(0, .ref 57), (2, .int x2), (3, .int x3), (4, .int x4), (5, .int x5)] [] (nd_SH ++ t) σ) (x2 : Int32) (x3 : Int32) (x4 : Int32) (x5 : Int32) (σ : nd_Mem) (h : f_X7_groupOf_42 F rec7 rec16 x2 x3 x4 x5 σ = some z) : nd_V M_X7_groupOf (nd_rm 0) (nd_Pi (nd_SH ++ t) z) 0 0 42 [(0, .ref 57), (2, .int x2), (3, .int x3), (4, .int x4), (5, .int x5)] [] (nd_SH ++ t) σ := by
  unfold f_X7_groupOf_42 at h
  refine nd_iinc (v := (x5 + (1 : Int32))) (ls' := [(5, .int (x5 + (1 : Int32))), (0, .ref 57), (2, .int x2), (3, .int x3), (4, .int x4)]) dX7_groupOf_42 4 rfl (congrArg (HAdd.hAdd _) ic_1) (by decide) rfl ?_
  refine nd_goto dX7_groupOf_45 16 (by decide) ?_
  refine nd_sub [1, 2, 3, 4, 0] rfl ?_
  exact hrec16 _ _ _ _ _ h
set_option maxRecDepth 100000 in
set_option maxHeartbeats 4000000 in
theorem b_X7_groupOf_16 (F : Nat) (rec7 : Int32 → Int32 → Int32 → nd_Mem → nd_Res) (t : List nd_S) (hL : (nd_SH ++ t).length < nd_ro) {z : Int32 × nd_Mem} (hrec7 : ∀ (x2 : Int32) (x3 : Int32) (x4 : Int32) (σ : nd_Mem), rec7 x2 x3 x4 σ = some z → nd_V M_X7_groupOf (nd_rm 0) (nd_Pi (nd_SH ++ t) z) 0 0 7 [(0, .ref 57), (2, .int x2), (3, .int x3), (4, .int x4)] [] (nd_SH ++ t) σ) (m9 : Nat) : ∀ (x2 : Int32) (x3 : Int32) (x4 : Int32) (x5 : Int32) (σ : nd_Mem), f_X7_groupOf_16 F rec7 m9 x2 x3 x4 x5 σ = some z → nd_V M_X7_groupOf (nd_rm 0) (nd_Pi (nd_SH ++ t) z) 0 0 16 [(0, .ref 57), (2, .int x2), (3, .int x3), (4, .int x4), (5, .int x5)] [] (nd_SH ++ t) σ := by
  induction m9 with
  | zero =>
    intro x2 x3 x4 x5 σ h
    have h : none = some z := h
    cases h
  | succ m9 hrec16 =>
    intro x2 x3 x4 x5 σ h
    have h : f_X7_groupOf_16_b F rec7 (f_X7_groupOf_16 F rec7 m9) x2 x3 x4 x5 σ = some z := h
    unfold f_X7_groupOf_16_b at h
    refine nd_iload dX7_groupOf_16 4 rfl ?_
    refine nd_iload_n dX7_groupOf_18 1 rfl ?_
    refine nd_icmp_geN dX7_groupOf_19 48 (by decide) h (fun h => ?_) (fun h => ?_)
    · refine nd_iinc (v := (x4 + (1 : Int32))) (ls' := [(4, .int (x4 + (1 : Int32))), (0, .ref 57), (2, .int x2), (3, .int x3), (5, .int x5)]) dX7_groupOf_48 3 rfl (congrArg (HAdd.hAdd _) ic_1) (by decide) rfl ?_
      refine nd_goto dX7_groupOf_51 7 (by decide) ?_
      refine nd_sub [1, 2, 3, 0] rfl ?_
      exact hrec7 _ _ _ _ h
    · refine nd_iload_n dX7_groupOf_22 2 rfl ?_
      refine nd_iload dX7_groupOf_23 4 rfl ?_
      refine nd_ishr dX7_groupOf_25 ?_
      refine nd_iconst dX7_groupOf_26 ic_1 ?_
      refine nd_iand dX7_groupOf_27 ?_
      refine nd_iconst dX7_groupOf_28 ic_1 ?_
      refine nd_icmp_neN dX7_groupOf_29 42 (by decide) h (fun h => ?_) (fun h => ?_)
      · exact b_X7_groupOf_42 F _ _ t hL hrec7 hrec16 _ _ _ _ _ h
      · refine nd_iload_n dX7_groupOf_32 2 rfl ?_
        refine nd_aload_n dX7_groupOf_33 0 rfl ?_
        refine nd_get dX7_groupOf_34 gf_X7_15 (sh_57 t) rfl ?_
        refine nd_iload dX7_groupOf_37 4 rfl ?_
        refine nd_ialoadN dX7_groupOf_39 (sh_58 t) h (fun h => ?_)
        refine nd_ior dX7_groupOf_40 ?_
        refine nd_istore_n (ls' := [(3, .int (x3 ||| (σ 58 (x5).toNatClampNeg))), (0, .ref 57), (2, .int x2), (4, .int x4), (5, .int x5)]) dX7_groupOf_41 (by decide) rfl ?_
        refine nd_sub [1, 2, 0, 3, 4] rfl ?_
        exact b_X7_groupOf_42 F _ _ t hL hrec7 hrec16 _ _ _ _ _ h
set_option maxRecDepth 100000 in
set_option maxHeartbeats 4000000 in
theorem b_X7_groupOf_7 (F : Nat) (t : List nd_S) (hL : (nd_SH ++ t).length < nd_ro) {z : Int32 × nd_Mem} (m9 : Nat) : ∀ (x2 : Int32) (x3 : Int32) (x4 : Int32) (σ : nd_Mem), f_X7_groupOf_7 F m9 x2 x3 x4 σ = some z → nd_V M_X7_groupOf (nd_rm 0) (nd_Pi (nd_SH ++ t) z) 0 0 7 [(0, .ref 57), (2, .int x2), (3, .int x3), (4, .int x4)] [] (nd_SH ++ t) σ := by
  induction m9 with
  | zero =>
    intro x2 x3 x4 σ h
    have h : none = some z := h
    cases h
  | succ m9 hrec7 =>
    intro x2 x3 x4 σ h
    have h : f_X7_groupOf_7_b F (f_X7_groupOf_7 F m9) x2 x3 x4 σ = some z := h
    unfold f_X7_groupOf_7_b at h
    refine nd_iload dX7_groupOf_7 3 rfl ?_
    refine nd_iload_n dX7_groupOf_9 1 rfl ?_
    refine nd_icmp_geN dX7_groupOf_10 54 (by decide) h (fun h => ?_) (fun h => ?_)
    · refine nd_iload_n dX7_groupOf_54 2 rfl ?_
      exact nd_iret dX7_groupOf_55 (Nat.zero_le _) (Nat.zero_le _) (vp_nar_int _) (by cases h; exact ⟨rfl, rfl, rfl⟩)
    · refine nd_iconst dX7_groupOf_13 ic_0 ?_
      refine nd_istore (ls' := [(5, .int (0 : Int32)), (0, .ref 57), (2, .int x2), (3, .int x3), (4, .int x4)]) dX7_groupOf_14 (by decide) rfl ?_
      refine nd_sub [1, 2, 3, 4, 0] rfl ?_
      exact b_X7_groupOf_16 F _ t hL hrec7 F _ _ _ _ _ h
set_option maxRecDepth 100000 in
set_option maxHeartbeats 4000000 in
theorem t_X7_groupOf (F : Nat) (t : List nd_S) (hL : (nd_SH ++ t).length < nd_ro) {z : Int32 × nd_Mem} (x1 : Int32) (x2 : Int32) (σ : nd_Mem) (h : f_X7_groupOf F x1 x2 σ = some z) : nd_Fn M_X7_groupOf (nd_rm 0) [.ref 57, .int x1, .int x2] (nd_SH ++ t) σ (nd_Pi (nd_SH ++ t) z) := by
  refine nd_Fn.ofV (ls := [(0, .ref 57), (1, .int x1), (2, .int x2)]) pl_X7_groupOf rfl (fun _ => Nat.le_of_ble_eq_true rfl) (fun _ => rfl) ?_
  unfold f_X7_groupOf at h
  refine nd_iconst dX7_groupOf_0 ic_1 ?_
  refine nd_iload_n dX7_groupOf_1 1 rfl ?_
  refine nd_ishl dX7_groupOf_2 ?_
  refine nd_istore_n (ls' := [(3, .int ((1 : Int32) <<< (x1 &&& 31))), (0, .ref 57), (1, .int x1), (2, .int x2)]) dX7_groupOf_3 (by decide) rfl ?_
  refine nd_iconst dX7_groupOf_4 ic_0 ?_
  refine nd_istore (ls' := [(4, .int (0 : Int32)), (3, .int ((1 : Int32) <<< (x1 &&& 31))), (0, .ref 57), (1, .int x1), (2, .int x2)]) dX7_groupOf_5 (by decide) rfl ?_
  refine nd_sub [2, 4, 1, 0] rfl ?_
  exact b_X7_groupOf_7 F t hL F _ _ _ _ h
def f_X7_join (F : Nat) (x1 : Int32) (x2 : Int32) (x3 : Int32) (σ : nd_Mem) : nd_Res := (if x1 < 0 then (some (0, σ)) else (if x3 ≤ x1 then (some (0, σ)) else (if x2 < 0 then (some (0, σ)) else (if x3 ≤ x2 then (some (0, σ)) else (if x1 < 0 ∨ 196 ≤ (x1).toNatClampNeg then none else (if x1 < 0 ∨ 196 ≤ (x1).toNatClampNeg then none else (nd_let (nd_up σ 58 (x1).toNatClampNeg ((σ 58 (x1).toNatClampNeg) ||| ((1 : Int32) <<< (x2 &&& 31)))) fun σ1 => (some (0, σ1)))))))))
set_option maxRecDepth 100000 in
set_option maxHeartbeats 4000000 in
theorem t_X7_join (F : Nat) (t : List nd_S) (hL : (nd_SH ++ t).length < nd_ro) {z : Int32 × nd_Mem} (x1 : Int32) (x2 : Int32) (x3 : Int32) (σ : nd_Mem) (h : f_X7_join F x1 x2 x3 σ = some z) : nd_Fn M_X7_join (nd_rm 0) [.ref 57, .int x1, .int x2, .int x3] (nd_SH ++ t) σ (nd_Pv (nd_SH ++ t) z) := by
  refine nd_Fn.ofV (ls := [(0, .ref 57), (1, .int x1), (2, .int x2), (3, .int x3)]) pl_X7_join rfl (fun _ => Nat.le_of_ble_eq_true rfl) (fun _ => rfl) ?_
  unfold f_X7_join at h
  refine nd_iload_n dX7_join_0 1 rfl ?_
  refine nd_if_ltN dX7_join_1 30 (by decide) h (fun h => ?_) (fun h => ?_)
  · exact nd_vret dX7_join_30 (Nat.zero_le _) (Nat.zero_le _) trivial (by cases h; exact ⟨rfl, rfl, rfl⟩)
  · refine nd_iload_n dX7_join_4 1 rfl ?_
    refine nd_iload_n dX7_join_5 3 rfl ?_
    refine nd_icmp_geN dX7_join_6 30 (by decide) h (fun h => ?_) (fun h => ?_)
    · exact nd_vret dX7_join_30 (Nat.zero_le _) (Nat.zero_le _) trivial (by cases h; exact ⟨rfl, rfl, rfl⟩)
    · refine nd_iload_n dX7_join_9 2 rfl ?_
      refine nd_if_ltN dX7_join_10 30 (by decide) h (fun h => ?_) (fun h => ?_)
      · exact nd_vret dX7_join_30 (Nat.zero_le _) (Nat.zero_le _) trivial (by cases h; exact ⟨rfl, rfl, rfl⟩)
      · refine nd_iload_n dX7_join_13 2 rfl ?_
        refine nd_iload_n dX7_join_14 3 rfl ?_
        refine nd_icmp_geN dX7_join_15 30 (by decide) h (fun h => ?_) (fun h => ?_)
        · exact nd_vret dX7_join_30 (Nat.zero_le _) (Nat.zero_le _) trivial (by cases h; exact ⟨rfl, rfl, rfl⟩)
        · refine nd_aload_n dX7_join_18 0 rfl ?_
          refine nd_get dX7_join_19 gf_X7_15 (sh_57 t) rfl ?_
          refine nd_iload_n dX7_join_22 1 rfl ?_
          refine nd_dup2 dX7_join_23 rfl rfl ?_
          refine nd_ialoadN dX7_join_24 (sh_58 t) h (fun h => ?_)
          refine nd_iconst dX7_join_25 ic_1 ?_
          refine nd_iload_n dX7_join_26 2 rfl ?_
          refine nd_ishl dX7_join_27 ?_
          refine nd_ior dX7_join_28 ?_
          refine nd_iastoreN dX7_join_29 (sh_58 t) h (fun σ1 h => ?_)
          exact nd_vret dX7_join_30 (Nat.zero_le _) (Nat.zero_le _) trivial (by cases h; exact ⟨rfl, rfl, rfl⟩)
def f_X7_leftWith_27 (F : Nat) (σ : nd_Mem) : nd_Res := (some ((-1 : Int32), σ))
def f_X7_leftWith (F : Nat) (x1 : Int32) (σ : nd_Mem) : nd_Res := (if x1 < 0 then (f_X7_leftWith_27 F σ) else (if (σ 17 1) ≤ x1 then (f_X7_leftWith_27 F σ) else (if x1 < 0 ∨ 196 ≤ (x1).toNatClampNeg then none else (some ((σ 58 (x1).toNatClampNeg), σ)))))
set_option maxRecDepth 100000 in
set_option maxHeartbeats 4000000 in
theorem b_X7_leftWith_27 (F : Nat) (t : List nd_S) (hL : (nd_SH ++ t).length < nd_ro) {z : Int32 × nd_Mem} (σ : nd_Mem) (h : f_X7_leftWith_27 F σ = some z) : nd_V M_X7_leftWith (nd_rm 0) (nd_Pi (nd_SH ++ t) z) 0 0 27 [(0, .ref 57)] [] (nd_SH ++ t) σ := by
  unfold f_X7_leftWith_27 at h
  refine nd_iconst dX7_leftWith_27 ic_m1 ?_
  exact nd_iret dX7_leftWith_28 (Nat.zero_le _) (Nat.zero_le _) (vp_nar_int _) (by cases h; exact ⟨rfl, rfl, rfl⟩)
set_option maxRecDepth 100000 in
set_option maxHeartbeats 4000000 in
theorem t_X7_leftWith (F : Nat) (t : List nd_S) (hL : (nd_SH ++ t).length < nd_ro) {z : Int32 × nd_Mem} (x1 : Int32) (σ : nd_Mem) (h : f_X7_leftWith F x1 σ = some z) : nd_Fn M_X7_leftWith (nd_rm 0) [.ref 57, .int x1] (nd_SH ++ t) σ (nd_Pi (nd_SH ++ t) z) := by
  refine nd_Fn.ofV (ls := [(0, .ref 57), (1, .int x1)]) pl_X7_leftWith rfl (fun _ => Nat.le_of_ble_eq_true rfl) (fun _ => rfl) ?_
  unfold f_X7_leftWith at h
  refine nd_iload_n dX7_leftWith_0 1 rfl ?_
  refine nd_if_ltN dX7_leftWith_1 27 (by decide) h (fun h => ?_) (fun h => ?_)
  · refine nd_sub [0] rfl ?_
    exact b_X7_leftWith_27 F t hL _ h
  · refine nd_iload_n dX7_leftWith_4 1 rfl ?_
    refine nd_aload_n dX7_leftWith_5 0 rfl ?_
    refine nd_get dX7_leftWith_6 gf_X7_9 (sh_57 t) rfl ?_
    refine nd_get dX7_leftWith_9 gf_X7_75 (sh_12 t) rfl ?_
    refine nd_get dX7_leftWith_12 gf_X7_32 (sh_17 t) rfl ?_
    refine nd_icmp_geN dX7_leftWith_15 27 (by decide) h (fun h => ?_) (fun h => ?_)
    · refine nd_sub [0] rfl ?_
      exact b_X7_leftWith_27 F t hL _ h
    · refine nd_aload_n dX7_leftWith_18 0 rfl ?_
      refine nd_get dX7_leftWith_19 gf_X7_15 (sh_57 t) rfl ?_
      refine nd_iload_n dX7_leftWith_22 1 rfl ?_
      refine nd_ialoadN dX7_leftWith_23 (sh_58 t) h (fun h => ?_)
      refine nd_goto dX7_leftWith_24 28 (by decide) ?_
      exact nd_iret dX7_leftWith_28 (Nat.zero_le _) (Nat.zero_le _) (vp_nar_int _) (by cases h; exact ⟨rfl, rfl, rfl⟩)
def f_X7_stepsTo_32 (F : Nat) (σ : nd_Mem) : nd_Res := (some ((0 : Int32), σ))
def f_X7_stepsTo_5_b (F : Nat) (rec5 : Int32 → Int32 → Int32 → nd_Mem → nd_Res) (x2 : Int32) (x3 : Int32) (x4 : Int32) (σ : nd_Mem) : nd_Res := (if (10 : Int32) < x4 then (some ((0 : Int32), σ)) else (if x3 < 0 ∨ 10 ≤ (x3).toNatClampNeg then none else (if (σ 23 (x3).toNatClampNeg) < 0 then (f_X7_stepsTo_32 F σ) else (if (σ 23 (x3).toNatClampNeg) < (10 : Int32) then (if (σ 23 (x3).toNatClampNeg) = x2 then (some (x4, σ)) else (rec5 x2 (σ 23 (x3).toNatClampNeg) (x4 + (1 : Int32)) σ)) else (f_X7_stepsTo_32 F σ)))))
def f_X7_stepsTo_5 (F : Nat) : Nat → Int32 → Int32 → Int32 → nd_Mem → nd_Res
  | 0, _, _, _, _ => none
  | m9 + 1, x2, x3, x4, σ => f_X7_stepsTo_5_b F (f_X7_stepsTo_5 F m9) x2 x3 x4 σ
def f_X7_stepsTo (F : Nat) (x1 : Int32) (x2 : Int32) (σ : nd_Mem) : nd_Res := (f_X7_stepsTo_5 F F x2 x1 (1 : Int32) σ)
set_option maxRecDepth 100000 in
set_option maxHeartbeats 4000000 in
theorem b_X7_stepsTo_32 (F : Nat) (t : List nd_S) (hL : (nd_SH ++ t).length < nd_ro) {z : Int32 × nd_Mem} (σ : nd_Mem) (h : f_X7_stepsTo_32 F σ = some z) : nd_V M_X7_stepsTo (nd_rm 0) (nd_Pi (nd_SH ++ t) z) 0 0 32 [(0, .ref 57)] [] (nd_SH ++ t) σ := by
  unfold f_X7_stepsTo_32 at h
  refine nd_iconst dX7_stepsTo_32 ic_0 ?_
  exact nd_iret dX7_stepsTo_33 (Nat.zero_le _) (Nat.zero_le _) (vp_nar_int _) (by cases h; exact ⟨rfl, rfl, rfl⟩)
set_option maxRecDepth 100000 in
set_option maxHeartbeats 4000000 in
theorem b_X7_stepsTo_5 (F : Nat) (t : List nd_S) (hL : (nd_SH ++ t).length < nd_ro) {z : Int32 × nd_Mem} (m9 : Nat) : ∀ (x2 : Int32) (x3 : Int32) (x4 : Int32) (σ : nd_Mem), f_X7_stepsTo_5 F m9 x2 x3 x4 σ = some z → nd_V M_X7_stepsTo (nd_rm 0) (nd_Pi (nd_SH ++ t) z) 0 0 5 [(0, .ref 57), (2, .int x2), (3, .int x3), (4, .int x4)] [] (nd_SH ++ t) σ := by
  induction m9 with
  | zero =>
    intro x2 x3 x4 σ h
    have h : none = some z := h
    cases h
  | succ m9 hrec5 =>
    intro x2 x3 x4 σ h
    have h : f_X7_stepsTo_5_b F (f_X7_stepsTo_5 F m9) x2 x3 x4 σ = some z := h
    unfold f_X7_stepsTo_5_b at h
    refine nd_iload dX7_stepsTo_5 3 rfl ?_
    refine nd_bipush dX7_stepsTo_7 ib_10 ?_
    refine nd_icmp_gtN dX7_stepsTo_9 48 (by decide) h (fun h => ?_) (fun h => ?_)
    · refine nd_iconst dX7_stepsTo_48 ic_0 ?_
      exact nd_iret dX7_stepsTo_49 (Nat.zero_le _) (Nat.zero_le _) (vp_nar_int _) (by cases h; exact ⟨rfl, rfl, rfl⟩)
    · refine nd_aload_n dX7_stepsTo_12 0 rfl ?_
      refine nd_get dX7_stepsTo_13 gf_X7_9 (sh_57 t) rfl ?_
      refine nd_get dX7_stepsTo_16 gf_X7_92 (sh_12 t) rfl ?_
      refine nd_iload_n dX7_stepsTo_19 2 rfl ?_
      refine nd_ialoadN dX7_stepsTo_20 (sh_23 t) h (fun h => ?_)
      refine nd_istore_n (ls' := [(3, .int (σ 23 (x3).toNatClampNeg)), (0, .ref 57), (2, .int x2), (4, .int x4)]) dX7_stepsTo_21 (by decide) rfl ?_
      refine nd_iload_n dX7_stepsTo_22 0 rfl ?_
      refine nd_if_ltN dX7_stepsTo_23 32 (by decide) h (fun h => ?_) (fun h => ?_)
      · refine nd_sub [1] rfl ?_
        exact b_X7_stepsTo_32 F t hL _ h
      · refine nd_iload_n dX7_stepsTo_26 0 rfl ?_
        refine nd_bipush dX7_stepsTo_27 ib_10 ?_
        refine nd_icmp_ltN dX7_stepsTo_29 34 (by decide) h (fun h => ?_) (fun h => ?_)
        · refine nd_iload_n dX7_stepsTo_34 0 rfl ?_
          refine nd_iload_n dX7_stepsTo_35 2 rfl ?_
          refine nd_icmp_neN dX7_stepsTo_36 42 (by decide) h (fun h => ?_) (fun h => ?_)
          · refine nd_iinc (v := (x4 + (1 : Int32))) (ls' := [(4, .int (x4 + (1 : Int32))), (3, .int (σ 23 (x3).toNatClampNeg)), (0, .ref 57), (2, .int x2)]) dX7_stepsTo_42 3 rfl (congrArg (HAdd.hAdd _) ic_1) (by decide) rfl ?_
            refine nd_goto dX7_stepsTo_45 5 (by decide) ?_
            refine nd_sub [2, 3, 1, 0] rfl ?_
            exact hrec5 _ _ _ _ h
          · refine nd_iload dX7_stepsTo_39 3 rfl ?_
            exact nd_iret dX7_stepsTo_41 (Nat.zero_le _) (Nat.zero_le _) (vp_nar_int _) (by cases h; exact ⟨rfl, rfl, rfl⟩)
        · refine nd_sub [1] rfl ?_
          exact b_X7_stepsTo_32 F t hL _ h
set_option maxRecDepth 100000 in
set_option maxHeartbeats 4000000 in
theorem t_X7_stepsTo (F : Nat) (t : List nd_S) (hL : (nd_SH ++ t).length < nd_ro) {z : Int32 × nd_Mem} (x1 : Int32) (x2 : Int32) (σ : nd_Mem) (h : f_X7_stepsTo F x1 x2 σ = some z) : nd_Fn M_X7_stepsTo (nd_rm 0) [.ref 57, .int x1, .int x2] (nd_SH ++ t) σ (nd_Pi (nd_SH ++ t) z) := by
  refine nd_Fn.ofV (ls := [(0, .ref 57), (1, .int x1), (2, .int x2)]) pl_X7_stepsTo rfl (fun _ => Nat.le_of_ble_eq_true rfl) (fun _ => rfl) ?_
  unfold f_X7_stepsTo at h
  refine nd_iload_n dX7_stepsTo_0 1 rfl ?_
  refine nd_istore_n (ls' := [(3, .int x1), (0, .ref 57), (1, .int x1), (2, .int x2)]) dX7_stepsTo_1 (by decide) rfl ?_
  refine nd_iconst dX7_stepsTo_2 ic_1 ?_
  refine nd_istore (ls' := [(4, .int (1 : Int32)), (3, .int x1), (0, .ref 57), (1, .int x1), (2, .int x2)]) dX7_stepsTo_3 (by decide) rfl ?_
  refine nd_sub [2, 4, 1, 0] rfl ?_
  exact b_X7_stepsTo_5 F t hL F _ _ _ _ h
def f_X7_threeTogether (F : Nat) (x0 : Int32) (σ : nd_Mem) : nd_Res := (if ((x0 &&& (x0 >>> ((1 : Int32) &&& 31))) &&& (x0 >>> ((2 : Int32) &&& 31))) = 0 then (some ((0 : Int32), σ)) else (some ((1 : Int32), σ)))
set_option maxRecDepth 100000 in
set_option maxHeartbeats 4000000 in
theorem t_X7_threeTogether (F : Nat) (sh : List nd_S) (hL : sh.length < nd_ro) {z : Int32 × nd_Mem} (x0 : Int32) (σ : nd_Mem) (h : f_X7_threeTogether F x0 σ = some z) : nd_Fn M_X7_threeTogether (nd_rm 0) [.int x0] sh σ (nd_Pi sh z) := by
  refine nd_Fn.ofV (ls := [(0, .int x0)]) pl_X7_threeTogether rfl (fun _ => Nat.le_of_ble_eq_true rfl) (fun _ => rfl) ?_
  unfold f_X7_threeTogether at h
  refine nd_iload_n dX7_threeTogether_0 0 rfl ?_
  refine nd_iload_n dX7_threeTogether_1 0 rfl ?_
  refine nd_iconst dX7_threeTogether_2 ic_1 ?_
  refine nd_ishr dX7_threeTogether_3 ?_
  refine nd_iand dX7_threeTogether_4 ?_
  refine nd_iload_n dX7_threeTogether_5 0 rfl ?_
  refine nd_iconst dX7_threeTogether_6 ic_2 ?_
  refine nd_ishr dX7_threeTogether_7 ?_
  refine nd_iand dX7_threeTogether_8 ?_
  refine nd_if_eqN dX7_threeTogether_9 16 (by decide) h (fun h => ?_) (fun h => ?_)
  · refine nd_iconst dX7_threeTogether_16 ic_0 ?_
    exact nd_iret dX7_threeTogether_17 (Nat.zero_le _) (Nat.zero_le _) rfl (by cases h; exact ⟨rfl, rfl, rfl⟩)
  · refine nd_iconst dX7_threeTogether_12 ic_1 ?_
    refine nd_goto dX7_threeTogether_13 17 (by decide) ?_
    exact nd_iret dX7_threeTogether_17 (Nat.zero_le _) (Nat.zero_le _) rfl (by cases h; exact ⟨rfl, rfl, rfl⟩)
def f_X7_worthOfRun_19 (F : Nat) (σ : nd_Mem) : nd_Res := (some ((0 : Int32), σ))
def f_X7_worthOfRun (F : Nat) (x1 : Int32) (σ : nd_Mem) : nd_Res := (if x1 ≤ 0 then (f_X7_worthOfRun_19 F σ) else (if (18 : Int32) < x1 then (f_X7_worthOfRun_19 F σ) else (if x1 < 0 ∨ 19 ≤ (x1).toNatClampNeg then none else (some ((σ 59 (x1).toNatClampNeg), σ)))))
set_option maxRecDepth 100000 in
set_option maxHeartbeats 4000000 in
theorem b_X7_worthOfRun_19 (F : Nat) (t : List nd_S) (hL : (nd_SH ++ t).length < nd_ro) {z : Int32 × nd_Mem} (σ : nd_Mem) (h : f_X7_worthOfRun_19 F σ = some z) : nd_V M_X7_worthOfRun (nd_rm 0) (nd_Pi (nd_SH ++ t) z) 0 0 19 [(0, .ref 57)] [] (nd_SH ++ t) σ := by
  unfold f_X7_worthOfRun_19 at h
  refine nd_iconst dX7_worthOfRun_19 ic_0 ?_
  exact nd_iret dX7_worthOfRun_20 (Nat.zero_le _) (Nat.zero_le _) (vp_nar_int _) (by cases h; exact ⟨rfl, rfl, rfl⟩)
set_option maxRecDepth 100000 in
set_option maxHeartbeats 4000000 in
theorem t_X7_worthOfRun (F : Nat) (t : List nd_S) (hL : (nd_SH ++ t).length < nd_ro) {z : Int32 × nd_Mem} (x1 : Int32) (σ : nd_Mem) (h : f_X7_worthOfRun F x1 σ = some z) : nd_Fn M_X7_worthOfRun (nd_rm 0) [.ref 57, .int x1] (nd_SH ++ t) σ (nd_Pi (nd_SH ++ t) z) := by
  refine nd_Fn.ofV (ls := [(0, .ref 57), (1, .int x1)]) pl_X7_worthOfRun rfl (fun _ => Nat.le_of_ble_eq_true rfl) (fun _ => rfl) ?_
  unfold f_X7_worthOfRun at h
  refine nd_iload_n dX7_worthOfRun_0 1 rfl ?_
  refine nd_if_leN dX7_worthOfRun_1 19 (by decide) h (fun h => ?_) (fun h => ?_)
  · refine nd_sub [0] rfl ?_
    exact b_X7_worthOfRun_19 F t hL _ h
  · refine nd_iload_n dX7_worthOfRun_4 1 rfl ?_
    refine nd_bipush dX7_worthOfRun_5 ib_18 ?_
    refine nd_icmp_gtN dX7_worthOfRun_7 19 (by decide) h (fun h => ?_) (fun h => ?_)
    · refine nd_sub [0] rfl ?_
      exact b_X7_worthOfRun_19 F t hL _ h
    · refine nd_aload_n dX7_worthOfRun_10 0 rfl ?_
      refine nd_get dX7_worthOfRun_11 gf_X7_19 (sh_57 t) rfl ?_
      refine nd_iload_n dX7_worthOfRun_14 1 rfl ?_
      refine nd_ialoadN dX7_worthOfRun_15 (sh_59 t) h (fun h => ?_)
      refine nd_goto dX7_worthOfRun_16 20 (by decide) ?_
      exact nd_iret dX7_worthOfRun_20 (Nat.zero_le _) (Nat.zero_le _) (vp_nar_int _) (by cases h; exact ⟨rfl, rfl, rfl⟩)
def f_X7_between_37 (F : Nat) (σ : nd_Mem) : nd_Res := (some ((0 : Int32), σ))
def f_X7_between (F : Nat) (x1 : Int32) (x2 : Int32) (σ : nd_Mem) : nd_Res := (if (((if x1 < x2 then x2 else x1) * (14 : Int32)) + (if x2 < x1 then x2 else x1)) < 0 then (f_X7_between_37 F σ) else (if (196 : Int32) ≤ (((if x1 < x2 then x2 else x1) * (14 : Int32)) + (if x2 < x1 then x2 else x1)) then (f_X7_between_37 F σ) else (if (((if x1 < x2 then x2 else x1) * (14 : Int32)) + (if x2 < x1 then x2 else x1)) < 0 ∨ 196 ≤ ((((if x1 < x2 then x2 else x1) * (14 : Int32)) + (if x2 < x1 then x2 else x1))).toNatClampNeg then none else (some ((σ 58 ((((if x1 < x2 then x2 else x1) * (14 : Int32)) + (if x2 < x1 then x2 else x1))).toNatClampNeg), σ)))))
set_option maxRecDepth 100000 in
set_option maxHeartbeats 4000000 in
theorem b_X7_between_37 (F : Nat) (t : List nd_S) (hL : (nd_SH ++ t).length < nd_ro) {z : Int32 × nd_Mem} (σ : nd_Mem) (h : f_X7_between_37 F σ = some z) : nd_V M_X7_between (nd_rm 1) (nd_Pi (nd_SH ++ t) z) 0 0 37 [(0, .ref 57)] [] (nd_SH ++ t) σ := by
  unfold f_X7_between_37 at h
  refine nd_iconst dX7_between_37 ic_0 ?_
  exact nd_iret dX7_between_38 (Nat.zero_le _) (Nat.zero_le _) (vp_nar_int _) (by cases h; exact ⟨rfl, rfl, rfl⟩)
set_option maxRecDepth 100000 in
set_option maxHeartbeats 4000000 in
theorem t_X7_between (F : Nat) (t : List nd_S) (hL : (nd_SH ++ t).length < nd_ro) {z : Int32 × nd_Mem} (x1 : Int32) (x2 : Int32) (σ : nd_Mem) (h : f_X7_between F x1 x2 σ = some z) : nd_Fn M_X7_between (nd_rm 1) [.ref 57, .int x1, .int x2] (nd_SH ++ t) σ (nd_Pi (nd_SH ++ t) z) := by
  refine nd_Fn.ofV (ls := [(0, .ref 57), (1, .int x1), (2, .int x2)]) pl_X7_between rfl (fun _ => Nat.le_of_ble_eq_true rfl) (fun _ => rfl) ?_
  unfold f_X7_between at h
  refine nd_iload_n dX7_between_0 1 rfl ?_
  refine nd_iload_n dX7_between_1 2 rfl ?_
  refine nd_max dX7_between_2 lk_X7_89 wmax_s wmax_i wmax_c ⟨by decide, by decide⟩ (Nat.le_refl _) (Nat.le_refl _) (Nat.le_of_ble_eq_true rfl) ?_
  refine nd_bipush dX7_between_5 ib_14 ?_
  refine nd_imul dX7_between_7 ?_
  refine nd_iload_n dX7_between_8 1 rfl ?_
  refine nd_iload_n dX7_between_9 2 rfl ?_
  refine nd_min dX7_between_10 lk_X7_41 wmin_s wmin_i wmin_c ⟨by decide, by decide⟩ (Nat.le_refl _) (Nat.le_refl _) (Nat.le_of_ble_eq_true rfl) ?_
  refine nd_iadd dX7_between_13 ?_
  refine nd_istore_n (ls' := [(3, .int (((if x1 < x2 then x2 else x1) * (14 : Int32)) + (if x2 < x1 then x2 else x1))), (0, .ref 57), (1, .int x1), (2, .int x2)]) dX7_between_14 (by decide) rfl ?_
  refine nd_iload_n dX7_between_15 0 rfl ?_
  refine nd_if_ltN dX7_between_16 37 (by decide) h (fun h => ?_) (fun h => ?_)
  · refine nd_sub [1] rfl ?_
    exact b_X7_between_37 F t hL _ h
  · refine nd_iload_n dX7_between_19 0 rfl ?_
    refine nd_aload_n dX7_between_20 1 rfl ?_
    refine nd_get dX7_between_21 gf_X7_15 (sh_57 t) rfl ?_
    refine nd_alen (v := (196 : Int32)) dX7_between_24 (sh_58 t) rfl ?_
    refine nd_icmp_geN dX7_between_25 37 (by decide) h (fun h => ?_) (fun h => ?_)
    · refine nd_sub [1] rfl ?_
      exact b_X7_between_37 F t hL _ h
    · refine nd_aload_n dX7_between_28 1 rfl ?_
      refine nd_get dX7_between_29 gf_X7_15 (sh_57 t) rfl ?_
      refine nd_iload_n dX7_between_32 0 rfl ?_
      refine nd_ialoadN dX7_between_33 (sh_58 t) h (fun h => ?_)
      refine nd_goto dX7_between_34 38 (by decide) ?_
      exact nd_iret dX7_between_38 (Nat.zero_le _) (Nat.zero_le _) (vp_nar_int _) (by cases h; exact ⟨rfl, rfl, rfl⟩)
def f_X7_changesForNoGirlsTogether_65 (F : Nat) (rec6 : Int32 → Int32 → Int32 → nd_Mem → nd_Res) (x1 : Int32) (x2 : Int32) (x3 : Int32) (σ : nd_Mem) : nd_Res := (rec6 x1 x2 (x3 + (1 : Int32)) σ)
def f_X7_changesForNoGirlsTogether_43 (F : Nat) (rec6 : Int32 → Int32 → Int32 → nd_Mem → nd_Res) (x1 : Int32) (x3 : Int32) (s0 : Int32) (σ : nd_Mem) : nd_Res := (nd_bind (f_X4_at F 13 14 12 x3 σ) fun r1 σ2 => (if r1 = 0 then (if s0 = 0 then (f_X7_changesForNoGirlsTogether_65 F rec6 (x1 + (1 : Int32)) s0 x3 σ2) else (f_X7_changesForNoGirlsTogether_65 F rec6 x1 s0 x3 σ2)) else (f_X7_changesForNoGirlsTogether_65 F rec6 x1 s0 x3 σ2)))
def f_X7_changesForNoGirlsTogether_42 (F : Nat) (rec6 : Int32 → Int32 → Int32 → nd_Mem → nd_Res) (x1 : Int32) (x3 : Int32) (σ : nd_Mem) : nd_Res := (f_X7_changesForNoGirlsTogether_43 F rec6 x1 x3 (0 : Int32) σ)
def f_X7_changesForNoGirlsTogether_6_b (F : Nat) (rec6 : Int32 → Int32 → Int32 → nd_Mem → nd_Res) (x1 : Int32) (x2 : Int32) (x3 : Int32) (σ : nd_Mem) : nd_Res := (if (σ 13 1) ≤ x3 then (some (x1, σ)) else (nd_bind (f_X4_at F 13 14 12 x3 σ) fun r1 σ2 => (if r1 = 0 then (if x2 = 0 then (f_X7_changesForNoGirlsTogether_43 F rec6 x1 x3 (1 : Int32) σ2) else (f_X7_changesForNoGirlsTogether_42 F rec6 x1 x3 σ2)) else (f_X7_changesForNoGirlsTogether_42 F rec6 x1 x3 σ2))))
def f_X7_changesForNoGirlsTogether_6 (F : Nat) : Nat → Int32 → Int32 → Int32 → nd_Mem → nd_Res
  | 0, _, _, _, _ => none
  | m9 + 1, x1, x2, x3, σ => f_X7_changesForNoGirlsTogether_6_b F (f_X7_changesForNoGirlsTogether_6 F m9) x1 x2 x3 σ
def f_X7_changesForNoGirlsTogether (F : Nat) (σ : nd_Mem) : nd_Res := (f_X7_changesForNoGirlsTogether_6 F F (0 : Int32) (0 : Int32) (0 : Int32) σ)
set_option maxRecDepth 100000 in
set_option maxHeartbeats 4000000 in
theorem b_X7_changesForNoGirlsTogether_65 (F : Nat) (rec6 : Int32 → Int32 → Int32 → nd_Mem → nd_Res) (t : List nd_S) (hL : (nd_SH ++ t).length < nd_ro) {z : Int32 × nd_Mem} (hrec6 : ∀ (x1 : Int32) (x2 : Int32) (x3 : Int32) (σ : nd_Mem), rec6 x1 x2 x3 σ = some z → nd_V M_X7_changesForNoGirlsTogether (nd_rm 1) (nd_Pi (nd_SH ++ t) z) 0 0 6 [(0, .ref 57), (1, .int x1), (2, .int x2), (3, .int x3)] [] (nd_SH ++ t) σ) (x1 : Int32) (x2 : Int32) (x3 : Int32) (σ : nd_Mem) (h : f_X7_changesForNoGirlsTogether_65 F rec6 x1 x2 x3 σ = some z) : nd_V M_X7_changesForNoGirlsTogether (nd_rm 1) (nd_Pi (nd_SH ++ t) z) 0 0 65 [(0, .ref 57), (1, .int x1), (2, .int x2), (3, .int x3)] [] (nd_SH ++ t) σ := by
  unfold f_X7_changesForNoGirlsTogether_65 at h
  refine nd_iinc (v := (x3 + (1 : Int32))) (ls' := [(3, .int (x3 + (1 : Int32))), (0, .ref 57), (1, .int x1), (2, .int x2)]) dX7_changesForNoGirlsTogether_65 3 rfl (congrArg (HAdd.hAdd _) ic_1) (by decide) rfl ?_
  refine nd_goto dX7_changesForNoGirlsTogether_68 6 (by decide) ?_
  refine nd_sub [1, 2, 3, 0] rfl ?_
  exact hrec6 _ _ _ _ h
set_option maxRecDepth 100000 in
set_option maxHeartbeats 4000000 in
theorem b_X7_changesForNoGirlsTogether_43 (F : Nat) (rec6 : Int32 → Int32 → Int32 → nd_Mem → nd_Res) (t : List nd_S) (hL : (nd_SH ++ t).length < nd_ro) {z : Int32 × nd_Mem} (hrec6 : ∀ (x1 : Int32) (x2 : Int32) (x3 : Int32) (σ : nd_Mem), rec6 x1 x2 x3 σ = some z → nd_V M_X7_changesForNoGirlsTogether (nd_rm 1) (nd_Pi (nd_SH ++ t) z) 0 0 6 [(0, .ref 57), (1, .int x1), (2, .int x2), (3, .int x3)] [] (nd_SH ++ t) σ) (x1 : Int32) (x3 : Int32) (s0 : Int32) (σ : nd_Mem) (h : f_X7_changesForNoGirlsTogether_43 F rec6 x1 x3 s0 σ = some z) : nd_V M_X7_changesForNoGirlsTogether (nd_rm 1) (nd_Pi (nd_SH ++ t) z) 0 0 43 [(0, .ref 57), (1, .int x1), (3, .int x3)] [.int s0] (nd_SH ++ t) σ := by
  unfold f_X7_changesForNoGirlsTogether_43 at h
  refine nd_istore_n (ls' := [(2, .int s0), (0, .ref 57), (1, .int x1), (3, .int x3)]) dX7_changesForNoGirlsTogether_43 (by decide) rfl ?_
  refine nd_aload_n dX7_changesForNoGirlsTogether_44 1 rfl ?_
  refine nd_get dX7_changesForNoGirlsTogether_45 gf_X7_9 (sh_57 t) rfl ?_
  refine nd_get dX7_changesForNoGirlsTogether_48 gf_X7_26 (sh_12 t) rfl ?_
  refine nd_iload_n dX7_changesForNoGirlsTogether_51 3 rfl ?_
  obtain ⟨r1, σ2, hc3, h⟩ := nd_bind_e h
  refine nd_cvi [.int x3] [] dX7_changesForNoGirlsTogether_52 cl_X7_38 (sh_13 t) ⟨Nat.le_of_ble_eq_true rfl, Nat.le_of_ble_eq_true rfl⟩ rfl (Nat.le_of_ble_eq_true rfl) hL (t_X4_at F 13 14 12 (nd_SH ++ t) hL (is_Row_13 t) _ _ hc3) ?_
  refine nd_if_neN dX7_changesForNoGirlsTogether_55 65 (by decide) h (fun h => ?_) (fun h => ?_)
  · refine nd_sub [1, 2, 0, 3] rfl ?_
    exact b_X7_changesForNoGirlsTogether_65 F _ t hL hrec6 _ _ _ _ h
  · refine nd_iload_n dX7_changesForNoGirlsTogether_58 0 rfl ?_
    refine nd_if_neN dX7_changesForNoGirlsTogether_59 65 (by decide) h (fun h => ?_) (fun h => ?_)
    · refine nd_sub [1, 2, 0, 3] rfl ?_
      exact b_X7_changesForNoGirlsTogether_65 F _ t hL hrec6 _ _ _ _ h
    · refine nd_iinc (v := (x1 + (1 : Int32))) (ls' := [(1, .int (x1 + (1 : Int32))), (2, .int s0), (0, .ref 57), (3, .int x3)]) dX7_changesForNoGirlsTogether_62 2 rfl (congrArg (HAdd.hAdd _) ic_1) (by decide) rfl ?_
      refine nd_sub [2, 0, 1, 3] rfl ?_
      exact b_X7_changesForNoGirlsTogether_65 F _ t hL hrec6 _ _ _ _ h
set_option maxRecDepth 100000 in
set_option maxHeartbeats 4000000 in
theorem b_X7_changesForNoGirlsTogether_42 (F : Nat) (rec6 : Int32 → Int32 → Int32 → nd_Mem → nd_Res) (t : List nd_S) (hL : (nd_SH ++ t).length < nd_ro) {z : Int32 × nd_Mem} (hrec6 : ∀ (x1 : Int32) (x2 : Int32) (x3 : Int32) (σ : nd_Mem), rec6 x1 x2 x3 σ = some z → nd_V M_X7_changesForNoGirlsTogether (nd_rm 1) (nd_Pi (nd_SH ++ t) z) 0 0 6 [(0, .ref 57), (1, .int x1), (2, .int x2), (3, .int x3)] [] (nd_SH ++ t) σ) (x1 : Int32) (x3 : Int32) (σ : nd_Mem) (h : f_X7_changesForNoGirlsTogether_42 F rec6 x1 x3 σ = some z) : nd_V M_X7_changesForNoGirlsTogether (nd_rm 1) (nd_Pi (nd_SH ++ t) z) 0 0 42 [(0, .ref 57), (1, .int x1), (3, .int x3)] [] (nd_SH ++ t) σ := by
  unfold f_X7_changesForNoGirlsTogether_42 at h
  refine nd_iconst dX7_changesForNoGirlsTogether_42 ic_0 ?_
  exact b_X7_changesForNoGirlsTogether_43 F _ t hL hrec6 _ _ _ _ h
set_option maxRecDepth 100000 in
set_option maxHeartbeats 4000000 in
theorem b_X7_changesForNoGirlsTogether_6 (F : Nat) (t : List nd_S) (hL : (nd_SH ++ t).length < nd_ro) {z : Int32 × nd_Mem} (m9 : Nat) : ∀ (x1 : Int32) (x2 : Int32) (x3 : Int32) (σ : nd_Mem), f_X7_changesForNoGirlsTogether_6 F m9 x1 x2 x3 σ = some z → nd_V M_X7_changesForNoGirlsTogether (nd_rm 1) (nd_Pi (nd_SH ++ t) z) 0 0 6 [(0, .ref 57), (1, .int x1), (2, .int x2), (3, .int x3)] [] (nd_SH ++ t) σ := by
  induction m9 with
  | zero =>
    intro x1 x2 x3 σ h
    have h : none = some z := h
    cases h
  | succ m9 hrec6 =>
    intro x1 x2 x3 σ h
    have h : f_X7_changesForNoGirlsTogether_6_b F (f_X7_changesForNoGirlsTogether_6 F m9) x1 x2 x3 σ = some z := h
    unfold f_X7_changesForNoGirlsTogether_6_b at h
    refine nd_iload_n dX7_changesForNoGirlsTogether_6 3 rfl ?_
    refine nd_aload_n dX7_changesForNoGirlsTogether_7 0 rfl ?_
    refine nd_get dX7_changesForNoGirlsTogether_8 gf_X7_9 (sh_57 t) rfl ?_
    refine nd_get dX7_changesForNoGirlsTogether_11 gf_X7_26 (sh_12 t) rfl ?_
    refine nd_get dX7_changesForNoGirlsTogether_14 gf_X7_32 (sh_13 t) rfl ?_
    refine nd_icmp_geN dX7_changesForNoGirlsTogether_17 71 (by decide) h (fun h => ?_) (fun h => ?_)
    · refine nd_iload_n dX7_changesForNoGirlsTogether_71 1 rfl ?_
      exact nd_iret dX7_changesForNoGirlsTogether_72 (Nat.zero_le _) (Nat.zero_le _) (vp_nar_int _) (by cases h; exact ⟨rfl, rfl, rfl⟩)
    · refine nd_aload_n dX7_changesForNoGirlsTogether_20 0 rfl ?_
      refine nd_get dX7_changesForNoGirlsTogether_21 gf_X7_9 (sh_57 t) rfl ?_
      refine nd_get dX7_changesForNoGirlsTogether_24 gf_X7_26 (sh_12 t) rfl ?_
      refine nd_iload_n dX7_changesForNoGirlsTogether_27 3 rfl ?_
      obtain ⟨r1, σ2, hc3, h⟩ := nd_bind_e h
      refine nd_cvi [.int x3] [] dX7_changesForNoGirlsTogether_28 cl_X7_38 (sh_13 t) ⟨Nat.le_of_ble_eq_true rfl, Nat.le_of_ble_eq_true rfl⟩ rfl (Nat.le_of_ble_eq_true rfl) hL (t_X4_at F 13 14 12 (nd_SH ++ t) hL (is_Row_13 t) _ _ hc3) ?_
      refine nd_if_neN dX7_changesForNoGirlsTogether_31 42 (by decide) h (fun h => ?_) (fun h => ?_)
      · refine nd_sub [0, 1, 3] rfl ?_
        exact b_X7_changesForNoGirlsTogether_42 F _ t hL hrec6 _ _ _ h
      · refine nd_iload_n dX7_changesForNoGirlsTogether_34 2 rfl ?_
        refine nd_if_neN dX7_changesForNoGirlsTogether_35 42 (by decide) h (fun h => ?_) (fun h => ?_)
        · refine nd_sub [0, 1, 3] rfl ?_
          exact b_X7_changesForNoGirlsTogether_42 F _ t hL hrec6 _ _ _ h
        · refine nd_iconst dX7_changesForNoGirlsTogether_38 ic_1 ?_
          refine nd_goto dX7_changesForNoGirlsTogether_39 43 (by decide) ?_
          refine nd_sub [0, 1, 3] rfl ?_
          exact b_X7_changesForNoGirlsTogether_43 F _ t hL hrec6 _ _ _ _ h
set_option maxRecDepth 100000 in
set_option maxHeartbeats 4000000 in
theorem t_X7_changesForNoGirlsTogether (F : Nat) (t : List nd_S) (hL : (nd_SH ++ t).length < nd_ro) {z : Int32 × nd_Mem} (σ : nd_Mem) (h : f_X7_changesForNoGirlsTogether F σ = some z) : nd_Fn M_X7_changesForNoGirlsTogether (nd_rm 1) [.ref 57] (nd_SH ++ t) σ (nd_Pi (nd_SH ++ t) z) := by
  refine nd_Fn.ofV (ls := [(0, .ref 57)]) pl_X7_changesForNoGirlsTogether rfl (fun _ => Nat.le_of_ble_eq_true rfl) (fun _ => rfl) ?_
  unfold f_X7_changesForNoGirlsTogether at h
  refine nd_iconst dX7_changesForNoGirlsTogether_0 ic_0 ?_
  refine nd_istore_n (ls' := [(1, .int (0 : Int32)), (0, .ref 57)]) dX7_changesForNoGirlsTogether_1 (by decide) rfl ?_
  refine nd_iconst dX7_changesForNoGirlsTogether_2 ic_0 ?_
  refine nd_istore_n (ls' := [(2, .int (0 : Int32)), (1, .int (0 : Int32)), (0, .ref 57)]) dX7_changesForNoGirlsTogether_3 (by decide) rfl ?_
  refine nd_iconst dX7_changesForNoGirlsTogether_4 ic_0 ?_
  refine nd_istore_n (ls' := [(3, .int (0 : Int32)), (2, .int (0 : Int32)), (1, .int (0 : Int32)), (0, .ref 57)]) dX7_changesForNoGirlsTogether_5 (by decide) rfl ?_
  refine nd_sub [3, 2, 1, 0] rfl ?_
  exact b_X7_changesForNoGirlsTogether_6 F t hL F _ _ _ _ h
def f_X7_changesForTurns_38 (F : Nat) (rec4 : Int32 → Int32 → nd_Mem → nd_Res) (x1 : Int32) (x2 : Int32) (σ : nd_Mem) : nd_Res := (rec4 x1 (x2 + (1 : Int32)) σ)
def f_X7_changesForTurns_4_b (F : Nat) (rec4 : Int32 → Int32 → nd_Mem → nd_Res) (x1 : Int32) (x2 : Int32) (σ : nd_Mem) : nd_Res := (if (σ 13 1) ≤ x2 then (some ((if ((σ 13 1) - x1) < x1 then ((σ 13 1) - x1) else x1), σ)) else (nd_bind (f_X4_at F 13 14 12 x2 σ) fun r1 σ2 => (if r1 = (q_rem x2 (2 : Int32)) then (f_X7_changesForTurns_38 F rec4 x1 x2 σ2) else (f_X7_changesForTurns_38 F rec4 (x1 + (1 : Int32)) x2 σ2))))
def f_X7_changesForTurns_4 (F : Nat) : Nat → Int32 → Int32 → nd_Mem → nd_Res
  | 0, _, _, _ => none
  | m9 + 1, x1, x2, σ => f_X7_changesForTurns_4_b F (f_X7_changesForTurns_4 F m9) x1 x2 σ
def f_X7_changesForTurns (F : Nat) (σ : nd_Mem) : nd_Res := (f_X7_changesForTurns_4 F F (0 : Int32) (0 : Int32) σ)
set_option maxRecDepth 100000 in
set_option maxHeartbeats 4000000 in
theorem b_X7_changesForTurns_38 (F : Nat) (rec4 : Int32 → Int32 → nd_Mem → nd_Res) (t : List nd_S) (hL : (nd_SH ++ t).length < nd_ro) {z : Int32 × nd_Mem} (hrec4 : ∀ (x1 : Int32) (x2 : Int32) (σ : nd_Mem), rec4 x1 x2 σ = some z → nd_V M_X7_changesForTurns (nd_rm 1) (nd_Pi (nd_SH ++ t) z) 0 0 4 [(0, .ref 57), (1, .int x1), (2, .int x2)] [] (nd_SH ++ t) σ) (x1 : Int32) (x2 : Int32) (σ : nd_Mem) (h : f_X7_changesForTurns_38 F rec4 x1 x2 σ = some z) : nd_V M_X7_changesForTurns (nd_rm 1) (nd_Pi (nd_SH ++ t) z) 0 0 38 [(0, .ref 57), (1, .int x1), (2, .int x2)] [] (nd_SH ++ t) σ := by
  unfold f_X7_changesForTurns_38 at h
  refine nd_iinc (v := (x2 + (1 : Int32))) (ls' := [(2, .int (x2 + (1 : Int32))), (0, .ref 57), (1, .int x1)]) dX7_changesForTurns_38 2 rfl (congrArg (HAdd.hAdd _) ic_1) (by decide) rfl ?_
  refine nd_goto dX7_changesForTurns_41 4 (by decide) ?_
  refine nd_sub [1, 2, 0] rfl ?_
  exact hrec4 _ _ _ h
set_option maxRecDepth 100000 in
set_option maxHeartbeats 4000000 in
theorem b_X7_changesForTurns_4 (F : Nat) (t : List nd_S) (hL : (nd_SH ++ t).length < nd_ro) {z : Int32 × nd_Mem} (m9 : Nat) : ∀ (x1 : Int32) (x2 : Int32) (σ : nd_Mem), f_X7_changesForTurns_4 F m9 x1 x2 σ = some z → nd_V M_X7_changesForTurns (nd_rm 1) (nd_Pi (nd_SH ++ t) z) 0 0 4 [(0, .ref 57), (1, .int x1), (2, .int x2)] [] (nd_SH ++ t) σ := by
  induction m9 with
  | zero =>
    intro x1 x2 σ h
    have h : none = some z := h
    cases h
  | succ m9 hrec4 =>
    intro x1 x2 σ h
    have h : f_X7_changesForTurns_4_b F (f_X7_changesForTurns_4 F m9) x1 x2 σ = some z := h
    unfold f_X7_changesForTurns_4_b at h
    refine nd_iload_n dX7_changesForTurns_4 2 rfl ?_
    refine nd_aload_n dX7_changesForTurns_5 0 rfl ?_
    refine nd_get dX7_changesForTurns_6 gf_X7_9 (sh_57 t) rfl ?_
    refine nd_get dX7_changesForTurns_9 gf_X7_26 (sh_12 t) rfl ?_
    refine nd_get dX7_changesForTurns_12 gf_X7_32 (sh_13 t) rfl ?_
    refine nd_icmp_geN dX7_changesForTurns_15 44 (by decide) h (fun h => ?_) (fun h => ?_)
    · refine nd_iload_n dX7_changesForTurns_44 1 rfl ?_
      refine nd_aload_n dX7_changesForTurns_45 0 rfl ?_
      refine nd_get dX7_changesForTurns_46 gf_X7_9 (sh_57 t) rfl ?_
      refine nd_get dX7_changesForTurns_49 gf_X7_26 (sh_12 t) rfl ?_
      refine nd_get dX7_changesForTurns_52 gf_X7_32 (sh_13 t) rfl ?_
      refine nd_iload_n dX7_changesForTurns_55 1 rfl ?_
      refine nd_isub dX7_changesForTurns_56 ?_
      refine nd_min dX7_changesForTurns_57 lk_X7_41 wmin_s wmin_i wmin_c ⟨by decide, by decide⟩ (Nat.le_refl _) (Nat.le_refl _) (Nat.le_of_ble_eq_true rfl) ?_
      exact nd_iret dX7_changesForTurns_60 (Nat.zero_le _) (Nat.zero_le _) (vp_nar_int _) (by cases h; exact ⟨rfl, rfl, rfl⟩)
    · refine nd_aload_n dX7_changesForTurns_18 0 rfl ?_
      refine nd_get dX7_changesForTurns_19 gf_X7_9 (sh_57 t) rfl ?_
      refine nd_get dX7_changesForTurns_22 gf_X7_26 (sh_12 t) rfl ?_
      refine nd_iload_n dX7_changesForTurns_25 2 rfl ?_
      obtain ⟨r1, σ2, hc3, h⟩ := nd_bind_e h
      refine nd_cvi [.int x2] [] dX7_changesForTurns_26 cl_X7_38 (sh_13 t) ⟨Nat.le_of_ble_eq_true rfl, Nat.le_of_ble_eq_true rfl⟩ rfl (Nat.le_of_ble_eq_true rfl) hL (t_X4_at F 13 14 12 (nd_SH ++ t) hL (is_Row_13 t) _ _ hc3) ?_
      refine nd_iload_n dX7_changesForTurns_29 2 rfl ?_
      refine nd_iconst dX7_changesForTurns_30 ic_2 ?_
      refine nd_irem dX7_changesForTurns_31 (by decide) ?_
      refine nd_icmp_eqN dX7_changesForTurns_32 38 (by decide) h (fun h => ?_) (fun h => ?_)
      · exact b_X7_changesForTurns_38 F _ t hL hrec4 _ _ _ h
      · refine nd_iinc (v := (x1 + (1 : Int32))) (ls' := [(1, .int (x1 + (1 : Int32))), (0, .ref 57), (2, .int x2)]) dX7_changesForTurns_35 1 rfl (congrArg (HAdd.hAdd _) ic_1) (by decide) rfl ?_
        refine nd_sub [1, 0, 2] rfl ?_
        exact b_X7_changesForTurns_38 F _ t hL hrec4 _ _ _ h
set_option maxRecDepth 100000 in
set_option maxHeartbeats 4000000 in
theorem t_X7_changesForTurns (F : Nat) (t : List nd_S) (hL : (nd_SH ++ t).length < nd_ro) {z : Int32 × nd_Mem} (σ : nd_Mem) (h : f_X7_changesForTurns F σ = some z) : nd_Fn M_X7_changesForTurns (nd_rm 1) [.ref 57] (nd_SH ++ t) σ (nd_Pi (nd_SH ++ t) z) := by
  refine nd_Fn.ofV (ls := [(0, .ref 57)]) pl_X7_changesForTurns rfl (fun _ => Nat.le_of_ble_eq_true rfl) (fun _ => rfl) ?_
  unfold f_X7_changesForTurns at h
  refine nd_iconst dX7_changesForTurns_0 ic_0 ?_
  refine nd_istore_n (ls' := [(1, .int (0 : Int32)), (0, .ref 57)]) dX7_changesForTurns_1 (by decide) rfl ?_
  refine nd_iconst dX7_changesForTurns_2 ic_0 ?_
  refine nd_istore_n (ls' := [(2, .int (0 : Int32)), (1, .int (0 : Int32)), (0, .ref 57)]) dX7_changesForTurns_3 (by decide) rfl ?_
  refine nd_sub [2, 1, 0] rfl ?_
  exact b_X7_changesForTurns_4 F t hL F _ _ _ h
def f_X7_mostThatMove_73 (F : Nat) (rec4 : Int32 → Int32 → nd_Mem → nd_Res) (x1 : Int32) (x2 : Int32) (σ : nd_Mem) : nd_Res := (rec4 x1 (x2 + (1 : Int32)) σ)
def f_X7_mostThatMove_29_b (F : Nat) (rec4 : Int32 → Int32 → nd_Mem → nd_Res) (rec29 : Int32 → Int32 → Int32 → Int32 → nd_Mem → nd_Res) (x1 : Int32) (x2 : Int32) (x3 : Int32) (x4 : Int32) (σ : nd_Mem) : nd_Res := (if (10 : Int32) ≤ x4 then (f_X7_mostThatMove_73 F rec4 (x1 + x3) x2 σ) else (nd_bind (f_X7_stepsTo F x4 x2 σ) fun r1 σ2 => (rec29 x1 x2 (if x3 < r1 then r1 else x3) (x4 + (1 : Int32)) σ2)))
def f_X7_mostThatMove_29 (F : Nat) (rec4 : Int32 → Int32 → nd_Mem → nd_Res) : Nat → Int32 → Int32 → Int32 → Int32 → nd_Mem → nd_Res
  | 0, _, _, _, _, _ => none
  | m9 + 1, x1, x2, x3, x4, σ => f_X7_mostThatMove_29_b F rec4 (f_X7_mostThatMove_29 F rec4 m9) x1 x2 x3 x4 σ
def f_X7_mostThatMove_4_b (F : Nat) (rec4 : Int32 → Int32 → nd_Mem → nd_Res) (x1 : Int32) (x2 : Int32) (σ : nd_Mem) : nd_Res := (if (10 : Int32) ≤ x2 then (some (x1, σ)) else (if x2 < 0 ∨ 10 ≤ (x2).toNatClampNeg then none else (if (σ 23 (x2).toNatClampNeg) = (-2 : Int32) then (f_X7_mostThatMove_29 F rec4 F x1 x2 (0 : Int32) (0 : Int32) σ) else (nd_bind (f_X7_stepsTo F x2 x2 σ) fun r1 σ2 => (if r1 ≤ 0 then (f_X7_mostThatMove_73 F rec4 x1 x2 σ2) else (f_X7_mostThatMove_73 F rec4 (x1 + (1 : Int32)) x2 σ2))))))
def f_X7_mostThatMove_4 (F : Nat) : Nat → Int32 → Int32 → nd_Mem → nd_Res
  | 0, _, _, _ => none
  | m9 + 1, x1, x2, σ => f_X7_mostThatMove_4_b F (f_X7_mostThatMove_4 F m9) x1 x2 σ
def f_X7_mostThatMove (F : Nat) (σ : nd_Mem) : nd_Res := (f_X7_mostThatMove_4 F F (0 : Int32) (0 : Int32) σ)
set_option maxRecDepth 100000 in
set_option maxHeartbeats 4000000 in
theorem b_X7_mostThatMove_73 (F : Nat) (rec4 : Int32 → Int32 → nd_Mem → nd_Res) (t : List nd_S) (hL : (nd_SH ++ t).length < nd_ro) {z : Int32 × nd_Mem} (hrec4 : ∀ (x1 : Int32) (x2 : Int32) (σ : nd_Mem), rec4 x1 x2 σ = some z → nd_V M_X7_mostThatMove (nd_rm 1) (nd_Pi (nd_SH ++ t) z) 0 0 4 [(0, .ref 57), (1, .int x1), (2, .int x2)] [] (nd_SH ++ t) σ) (x1 : Int32) (x2 : Int32) (σ : nd_Mem) (h : f_X7_mostThatMove_73 F rec4 x1 x2 σ = some z) : nd_V M_X7_mostThatMove (nd_rm 1) (nd_Pi (nd_SH ++ t) z) 0 0 73 [(0, .ref 57), (1, .int x1), (2, .int x2)] [] (nd_SH ++ t) σ := by
  unfold f_X7_mostThatMove_73 at h
  refine nd_iinc (v := (x2 + (1 : Int32))) (ls' := [(2, .int (x2 + (1 : Int32))), (0, .ref 57), (1, .int x1)]) dX7_mostThatMove_73 2 rfl (congrArg (HAdd.hAdd _) ic_1) (by decide) rfl ?_
  refine nd_goto dX7_mostThatMove_76 4 (by decide) ?_
  refine nd_sub [1, 2, 0] rfl ?_
  exact hrec4 _ _ _ h
set_option maxRecDepth 100000 in
set_option maxHeartbeats 4000000 in
theorem b_X7_mostThatMove_29 (F : Nat) (rec4 : Int32 → Int32 → nd_Mem → nd_Res) (t : List nd_S) (hL : (nd_SH ++ t).length < nd_ro) {z : Int32 × nd_Mem} (hrec4 : ∀ (x1 : Int32) (x2 : Int32) (σ : nd_Mem), rec4 x1 x2 σ = some z → nd_V M_X7_mostThatMove (nd_rm 1) (nd_Pi (nd_SH ++ t) z) 0 0 4 [(0, .ref 57), (1, .int x1), (2, .int x2)] [] (nd_SH ++ t) σ) (m9 : Nat) : ∀ (x1 : Int32) (x2 : Int32) (x3 : Int32) (x4 : Int32) (σ : nd_Mem), f_X7_mostThatMove_29 F rec4 m9 x1 x2 x3 x4 σ = some z → nd_V M_X7_mostThatMove (nd_rm 1) (nd_Pi (nd_SH ++ t) z) 0 0 29 [(0, .ref 57), (1, .int x1), (2, .int x2), (3, .int x3), (4, .int x4)] [] (nd_SH ++ t) σ := by
  induction m9 with
  | zero =>
    intro x1 x2 x3 x4 σ h
    have h : none = some z := h
    cases h
  | succ m9 hrec29 =>
    intro x1 x2 x3 x4 σ h
    have h : f_X7_mostThatMove_29_b F rec4 (f_X7_mostThatMove_29 F rec4 m9) x1 x2 x3 x4 σ = some z := h
    unfold f_X7_mostThatMove_29_b at h
    refine nd_iload dX7_mostThatMove_29 4 rfl ?_
    refine nd_bipush dX7_mostThatMove_31 ib_10 ?_
    refine nd_icmp_geN dX7_mostThatMove_33 54 (by decide) h (fun h => ?_) (fun h => ?_)
    · refine nd_iload_n dX7_mostThatMove_54 1 rfl ?_
      refine nd_iload_n dX7_mostThatMove_55 3 rfl ?_
      refine nd_iadd dX7_mostThatMove_56 ?_
      refine nd_istore_n (ls' := [(1, .int (x1 + x3)), (0, .ref 57), (2, .int x2), (3, .int x3), (4, .int x4)]) dX7_mostThatMove_57 (by decide) rfl ?_
      refine nd_goto dX7_mostThatMove_58 73 (by decide) ?_
      refine nd_sub [1, 0, 2] rfl ?_
      exact b_X7_mostThatMove_73 F _ t hL hrec4 _ _ _ h
    · refine nd_iload_n dX7_mostThatMove_36 3 rfl ?_
      refine nd_aload_n dX7_mostThatMove_37 0 rfl ?_
      refine nd_iload dX7_mostThatMove_38 4 rfl ?_
      refine nd_iload_n dX7_mostThatMove_40 2 rfl ?_
      obtain ⟨r1, σ2, hc3, h⟩ := nd_bind_e h
      refine nd_cvi [.int x4, .int x2] [.int x3] dX7_mostThatMove_41 cl_X7_95 (sh_57 t) ⟨Nat.le_of_ble_eq_true rfl, Nat.le_of_ble_eq_true rfl⟩ rfl (Nat.le_of_ble_eq_true rfl) hL (t_X7_stepsTo F t hL _ _ _ hc3) ?_
      refine nd_max dX7_mostThatMove_44 lk_X7_89 wmax_s wmax_i wmax_c ⟨by decide, by decide⟩ (Nat.le_refl _) (Nat.le_refl _) (Nat.le_of_ble_eq_true rfl) ?_
      refine nd_istore_n (ls' := [(3, .int (if x3 < r1 then r1 else x3)), (0, .ref 57), (1, .int x1), (2, .int x2), (4, .int x4)]) dX7_mostThatMove_47 (by decide) rfl ?_
      refine nd_iinc (v := (x4 + (1 : Int32))) (ls' := [(4, .int (x4 + (1 : Int32))), (3, .int (if x3 < r1 then r1 else x3)), (0, .ref 57), (1, .int x1), (2, .int x2)]) dX7_mostThatMove_48 4 rfl (congrArg (HAdd.hAdd _) ic_1) (by decide) rfl ?_
      refine nd_goto dX7_mostThatMove_51 29 (by decide) ?_
      refine nd_sub [2, 3, 4, 1, 0] rfl ?_
      exact hrec29 _ _ _ _ _ h
set_option maxRecDepth 100000 in
set_option maxHeartbeats 4000000 in
theorem b_X7_mostThatMove_4 (F : Nat) (t : List nd_S) (hL : (nd_SH ++ t).length < nd_ro) {z : Int32 × nd_Mem} (m9 : Nat) : ∀ (x1 : Int32) (x2 : Int32) (σ : nd_Mem), f_X7_mostThatMove_4 F m9 x1 x2 σ = some z → nd_V M_X7_mostThatMove (nd_rm 1) (nd_Pi (nd_SH ++ t) z) 0 0 4 [(0, .ref 57), (1, .int x1), (2, .int x2)] [] (nd_SH ++ t) σ := by
  induction m9 with
  | zero =>
    intro x1 x2 σ h
    have h : none = some z := h
    cases h
  | succ m9 hrec4 =>
    intro x1 x2 σ h
    have h : f_X7_mostThatMove_4_b F (f_X7_mostThatMove_4 F m9) x1 x2 σ = some z := h
    unfold f_X7_mostThatMove_4_b at h
    refine nd_iload_n dX7_mostThatMove_4 2 rfl ?_
    refine nd_bipush dX7_mostThatMove_5 ib_10 ?_
    refine nd_icmp_geN dX7_mostThatMove_7 79 (by decide) h (fun h => ?_) (fun h => ?_)
    · refine nd_iload_n dX7_mostThatMove_79 1 rfl ?_
      exact nd_iret dX7_mostThatMove_80 (Nat.zero_le _) (Nat.zero_le _) (vp_nar_int _) (by cases h; exact ⟨rfl, rfl, rfl⟩)
    · refine nd_aload_n dX7_mostThatMove_10 0 rfl ?_
      refine nd_get dX7_mostThatMove_11 gf_X7_9 (sh_57 t) rfl ?_
      refine nd_get dX7_mostThatMove_14 gf_X7_92 (sh_12 t) rfl ?_
      refine nd_iload_n dX7_mostThatMove_17 2 rfl ?_
      refine nd_ialoadN dX7_mostThatMove_18 (sh_23 t) h (fun h => ?_)
      refine nd_bipush dX7_mostThatMove_19 ib_m2 ?_
      refine nd_icmp_neN dX7_mostThatMove_21 61 (by decide) h (fun h => ?_) (fun h => ?_)
      · refine nd_aload_n dX7_mostThatMove_61 0 rfl ?_
        refine nd_iload_n dX7_mostThatMove_62 2 rfl ?_
        refine nd_iload_n dX7_mostThatMove_63 2 rfl ?_
        obtain ⟨r1, σ2, hc3, h⟩ := nd_bind_e h
        refine nd_cvi [.int x2, .int x2] [] dX7_mostThatMove_64 cl_X7_95 (sh_57 t) ⟨Nat.le_of_ble_eq_true rfl, Nat.le_of_ble_eq_true rfl⟩ rfl (Nat.le_of_ble_eq_true rfl) hL (t_X7_stepsTo F t hL _ _ _ hc3) ?_
        refine nd_if_leN dX7_mostThatMove_67 73 (by decide) h (fun h => ?_) (fun h => ?_)
        · exact b_X7_mostThatMove_73 F _ t hL hrec4 _ _ _ h
        · refine nd_iinc (v := (x1 + (1 : Int32))) (ls' := [(1, .int (x1 + (1 : Int32))), (0, .ref 57), (2, .int x2)]) dX7_mostThatMove_70 1 rfl (congrArg (HAdd.hAdd _) ic_1) (by decide) rfl ?_
          refine nd_sub [1, 0, 2] rfl ?_
          exact b_X7_mostThatMove_73 F _ t hL hrec4 _ _ _ h
      · refine nd_iconst dX7_mostThatMove_24 ic_0 ?_
        refine nd_istore_n (ls' := [(3, .int (0 : Int32)), (0, .ref 57), (1, .int x1), (2, .int x2)]) dX7_mostThatMove_25 (by decide) rfl ?_
        refine nd_iconst dX7_mostThatMove_26 ic_0 ?_
        refine nd_istore (ls' := [(4, .int (0 : Int32)), (3, .int (0 : Int32)), (0, .ref 57), (1, .int x1), (2, .int x2)]) dX7_mostThatMove_27 (by decide) rfl ?_
        refine nd_sub [2, 3, 4, 1, 0] rfl ?_
        exact b_X7_mostThatMove_29 F _ t hL hrec4 F _ _ _ _ _ h
set_option maxRecDepth 100000 in
set_option maxHeartbeats 4000000 in
theorem t_X7_mostThatMove (F : Nat) (t : List nd_S) (hL : (nd_SH ++ t).length < nd_ro) {z : Int32 × nd_Mem} (σ : nd_Mem) (h : f_X7_mostThatMove F σ = some z) : nd_Fn M_X7_mostThatMove (nd_rm 1) [.ref 57] (nd_SH ++ t) σ (nd_Pi (nd_SH ++ t) z) := by
  refine nd_Fn.ofV (ls := [(0, .ref 57)]) pl_X7_mostThatMove rfl (fun _ => Nat.le_of_ble_eq_true rfl) (fun _ => rfl) ?_
  unfold f_X7_mostThatMove at h
  refine nd_iconst dX7_mostThatMove_0 ic_0 ?_
  refine nd_istore_n (ls' := [(1, .int (0 : Int32)), (0, .ref 57)]) dX7_mostThatMove_1 (by decide) rfl ?_
  refine nd_iconst dX7_mostThatMove_2 ic_0 ?_
  refine nd_istore_n (ls' := [(2, .int (0 : Int32)), (1, .int (0 : Int32)), (0, .ref 57)]) dX7_mostThatMove_3 (by decide) rfl ?_
  refine nd_sub [2, 1, 0] rfl ?_
  exact b_X7_mostThatMove_4 F t hL F _ _ _ h
def f_X7_nextCanWin_110 (F : Nat) (rec8 : Int32 → Int32 → Int32 → Int32 → Int32 → nd_Mem → nd_Res) (x1 : Int32) (x2 : Int32) (x3 : Int32) (x4 : Int32) (x5 : Int32) (σ : nd_Mem) : nd_Res := (rec8 x1 x2 x3 x4 (x5 + (1 : Int32)) σ)
def f_X7_nextCanWin_89 (F : Nat) (rec8 : Int32 → Int32 → Int32 → Int32 → Int32 → nd_Mem → nd_Res) (x1 : Int32) (x2 : Int32) (x3 : Int32) (x4 : Int32) (x5 : Int32) (x6 : Int32) (s0 : Int32) (σ : nd_Mem) : nd_Res := (if x6 = 0 then (f_X7_nextCanWin_110 F rec8 x1 x2 x3 x4 x5 σ) else (if s0 = 0 then (f_X7_nextCanWin_110 F rec8 x1 x2 x3 x4 x5 σ) else (nd_bind (f_X7_worthOfRun F x4 σ) fun r1 σ2 => (f_X7_nextCanWin_110 F rec8 x1 x2 (x3 ^^^ r1) x4 x5 σ2))))
def f_X7_nextCanWin_84 (F : Nat) (rec8 : Int32 → Int32 → Int32 → Int32 → Int32 → nd_Mem → nd_Res) (x1 : Int32) (x2 : Int32) (x3 : Int32) (x4 : Int32) (x5 : Int32) (x6 : Int32) (σ : nd_Mem) : nd_Res := (f_X7_nextCanWin_89 F rec8 x1 x2 x3 x4 x5 x6 (1 : Int32) σ)
def f_X7_nextCanWin_60 (F : Nat) (rec8 : Int32 → Int32 → Int32 → Int32 → Int32 → nd_Mem → nd_Res) (x1 : Int32) (x2 : Int32) (x3 : Int32) (x5 : Int32) (x6 : Int32) (s0 : Int32) (σ : nd_Mem) : nd_Res := (if x5 = (x1 - (1 : Int32)) then (f_X7_nextCanWin_84 F rec8 x1 x2 x3 s0 x5 x6 σ) else (if (((x2 <<< ((2 : Int32) &&& 31)) >>> ((x5 + (1 : Int32)) &&& 31)) &&& (31 : Int32)) = 0 then (f_X7_nextCanWin_89 F rec8 x1 x2 x3 s0 x5 x6 (0 : Int32) σ) else (f_X7_nextCanWin_84 F rec8 x1 x2 x3 s0 x5 x6 σ)))
def f_X7_nextCanWin_45 (F : Nat) (rec8 : Int32 → Int32 → Int32 → Int32 → Int32 → nd_Mem → nd_Res) (x1 : Int32) (x2 : Int32) (x3 : Int32) (x4 : Int32) (x5 : Int32) (s0 : Int32) (σ : nd_Mem) : nd_Res := (if s0 = 0 then (f_X7_nextCanWin_60 F rec8 x1 x2 x3 x5 s0 (0 : Int32) σ) else (f_X7_nextCanWin_60 F rec8 x1 x2 x3 x5 s0 (x4 + (1 : Int32)) σ))
def f_X7_nextCanWin_8_b (F : Nat) (rec8 : Int32 → Int32 → Int32 → Int32 → Int32 → nd_Mem → nd_Res) (x1 : Int32) (x2 : Int32) (x3 : Int32) (x4 : Int32) (x5 : Int32) (σ : nd_Mem) : nd_Res := (if x1 ≤ x5 then (if x3 = 0 then (some ((0 : Int32), σ)) else (some ((1 : Int32), σ))) else (nd_bind (f_X7_threeTogether F (x2 ||| ((1 : Int32) <<< (x5 &&& 31))) σ) fun r1 σ2 => (if r1 = 0 then (if (((x2 <<< ((2 : Int32) &&& 31)) >>> (x5 &&& 31)) &&& (31 : Int32)) = 0 then (f_X7_nextCanWin_45 F rec8 x1 x2 x3 x4 x5 (1 : Int32) σ2) else (f_X7_nextCanWin_45 F rec8 x1 x2 x3 x4 x5 (0 : Int32) σ2)) else (some ((1 : Int32), σ2)))))
def f_X7_nextCanWin_8 (F : Nat) : Nat → Int32 → Int32 → Int32 → Int32 → Int32 → nd_Mem → nd_Res
  | 0, _, _, _, _, _, _ => none
  | m9 + 1, x1, x2, x3, x4, x5, σ => f_X7_nextCanWin_8_b F (f_X7_nextCanWin_8 F m9) x1 x2 x3 x4 x5 σ
def f_X7_nextCanWin (F : Nat) (x1 : Int32) (x2 : Int32) (σ : nd_Mem) : nd_Res := (f_X7_nextCanWin_8 F F x1 x2 (0 : Int32) (0 : Int32) (0 : Int32) σ)
set_option maxRecDepth 100000 in
set_option maxHeartbeats 4000000 in
theorem b_X7_nextCanWin_110 (F : Nat) (rec8 : Int32 → Int32 → Int32 → Int32 → Int32 → nd_Mem → nd_Res) (t : List nd_S) (hL : (nd_SH ++ t).length < nd_ro) {z : Int32 × nd_Mem} (hrec8 : ∀ (x1 : Int32) (x2 : Int32) (x3 : Int32) (x4 : Int32) (x5 : Int32) (σ : nd_Mem), rec8 x1 x2 x3 x4 x5 σ = some z → nd_V M_X7_nextCanWin (nd_rm 1) (nd_Pi (nd_SH ++ t) z) 0 0 8 [(0, .ref 57), (1, .int x1), (2, .int x2), (3, .int x3), (4, .int x4), (5, .int x5)] [] (nd_SH ++ t) σ) (x1 : Int32) (x2 : Int32) (x3 : Int32) (x4 : Int32) (x5 : Int32) (σ : nd_Mem) (h : f_X7_nextCanWin_110 F rec8 x1 x2 x3 x4 x5 σ = some z) : nd_V M_X7_nextCanWin (nd_rm 1) (nd_Pi (nd_SH ++ t) z) 0 0 110 [(0, .ref 57), (1, .int x1), (2, .int x2), (3, .int x3), (4, .int x4), (5, .int x5)] [] (nd_SH ++ t) σ := by
  unfold f_X7_nextCanWin_110 at h
  refine nd_iinc (v := (x5 + (1 : Int32))) (ls' := [(5, .int (x5 + (1 : Int32))), (0, .ref 57), (1, .int x1), (2, .int x2), (3, .int x3), (4, .int x4)]) dX7_nextCanWin_110 5 rfl (congrArg (HAdd.hAdd _) ic_1) (by decide) rfl ?_
  refine nd_goto dX7_nextCanWin_113 8 (by decide) ?_
  refine nd_sub [1, 2, 3, 4, 5, 0] rfl ?_
  exact hrec8 _ _ _ _ _ _ h
set_option maxRecDepth 100000 in
set_option maxHeartbeats 4000000 in
theorem b_X7_nextCanWin_89 (F : Nat) (rec8 : Int32 → Int32 → Int32 → Int32 → Int32 → nd_Mem → nd_Res) (t : List nd_S) (hL : (nd_SH ++ t).length < nd_ro) {z : Int32 × nd_Mem} (hrec8 : ∀ (x1 : Int32) (x2 : Int32) (x3 : Int32) (x4 : Int32) (x5 : Int32) (σ : nd_Mem), rec8 x1 x2 x3 x4 x5 σ = some z → nd_V M_X7_nextCanWin (nd_rm 1) (nd_Pi (nd_SH ++ t) z) 0 0 8 [(0, .ref 57), (1, .int x1), (2, .int x2), (3, .int x3), (4, .int x4), (5, .int x5)] [] (nd_SH ++ t) σ) (x1 : Int32) (x2 : Int32) (x3 : Int32) (x4 : Int32) (x5 : Int32) (x6 : Int32) (s0 : Int32) (σ : nd_Mem) (h : f_X7_nextCanWin_89 F rec8 x1 x2 x3 x4 x5 x6 s0 σ = some z) : nd_V M_X7_nextCanWin (nd_rm 1) (nd_Pi (nd_SH ++ t) z) 0 0 89 [(0, .ref 57), (1, .int x1), (2, .int x2), (3, .int x3), (4, .int x4), (5, .int x5), (6, .int x6)] [.int s0] (nd_SH ++ t) σ := by
  unfold f_X7_nextCanWin_89 at h
  refine nd_istore (ls' := [(7, .int s0), (0, .ref 57), (1, .int x1), (2, .int x2), (3, .int x3), (4, .int x4), (5, .int x5), (6, .int x6)]) dX7_nextCanWin_89 (by decide) rfl ?_
  refine nd_iload dX7_nextCanWin_91 7 rfl ?_
  refine nd_if_eqN dX7_nextCanWin_93 110 (by decide) h (fun h => ?_) (fun h => ?_)
  · refine nd_sub [1, 2, 3, 4, 5, 6] rfl ?_
    exact b_X7_nextCanWin_110 F _ t hL hrec8 _ _ _ _ _ _ h
  · refine nd_iload dX7_nextCanWin_96 0 rfl ?_
    refine nd_if_eqN dX7_nextCanWin_98 110 (by decide) h (fun h => ?_) (fun h => ?_)
    · refine nd_sub [1, 2, 3, 4, 5, 6] rfl ?_
      exact b_X7_nextCanWin_110 F _ t hL hrec8 _ _ _ _ _ _ h
    · refine nd_iload_n dX7_nextCanWin_101 4 rfl ?_
      refine nd_aload_n dX7_nextCanWin_102 1 rfl ?_
      refine nd_iload dX7_nextCanWin_103 5 rfl ?_
      obtain ⟨r1, σ2, hc3, h⟩ := nd_bind_e h
      refine nd_cvi [.int x4] [.int x3] dX7_nextCanWin_105 cl_X7_114 (sh_57 t) ⟨Nat.le_of_ble_eq_true rfl, Nat.le_of_ble_eq_true rfl⟩ rfl (Nat.le_of_ble_eq_true rfl) hL (t_X7_worthOfRun F t hL _ _ hc3) ?_
      refine nd_ixor dX7_nextCanWin_108 ?_
      refine nd_istore_n (ls' := [(3, .int (x3 ^^^ r1)), (7, .int s0), (0, .ref 57), (1, .int x1), (2, .int x2), (4, .int x4), (5, .int x5), (6, .int x6)]) dX7_nextCanWin_109 (by decide) rfl ?_
      refine nd_sub [2, 3, 4, 0, 5, 6] rfl ?_
      exact b_X7_nextCanWin_110 F _ t hL hrec8 _ _ _ _ _ _ h
set_option maxRecDepth 100000 in
set_option maxHeartbeats 4000000 in
theorem b_X7_nextCanWin_84 (F : Nat) (rec8 : Int32 → Int32 → Int32 → Int32 → Int32 → nd_Mem → nd_Res) (t : List nd_S) (hL : (nd_SH ++ t).length < nd_ro) {z : Int32 × nd_Mem} (hrec8 : ∀ (x1 : Int32) (x2 : Int32) (x3 : Int32) (x4 : Int32) (x5 : Int32) (σ : nd_Mem), rec8 x1 x2 x3 x4 x5 σ = some z → nd_V M_X7_nextCanWin (nd_rm 1) (nd_Pi (nd_SH ++ t) z) 0 0 8 [(0, .ref 57), (1, .int x1), (2, .int x2), (3, .int x3), (4, .int x4), (5, .int x5)] [] (nd_SH ++ t) σ) (x1 : Int32) (x2 : Int32) (x3 : Int32) (x4 : Int32) (x5 : Int32) (x6 : Int32) (σ : nd_Mem) (h : f_X7_nextCanWin_84 F rec8 x1 x2 x3 x4 x5 x6 σ = some z) : nd_V M_X7_nextCanWin (nd_rm 1) (nd_Pi (nd_SH ++ t) z) 0 0 84 [(0, .ref 57), (1, .int x1), (2, .int x2), (3, .int x3), (4, .int x4), (5, .int x5), (6, .int x6)] [] (nd_SH ++ t) σ := by
  unfold f_X7_nextCanWin_84 at h
  refine nd_iconst dX7_nextCanWin_84 ic_1 ?_
  refine nd_goto dX7_nextCanWin_85 89 (by decide) ?_
  exact b_X7_nextCanWin_89 F _ t hL hrec8 _ _ _ _ _ _ _ _ h
set_option maxRecDepth 100000 in
set_option maxHeartbeats 4000000 in
theorem b_X7_nextCanWin_60 (F : Nat) (rec8 : Int32 → Int32 → Int32 → Int32 → Int32 → nd_Mem → nd_Res) (t : List nd_S) (hL : (nd_SH ++ t).length < nd_ro) {z : Int32 × nd_Mem} (hrec8 : ∀ (x1 : Int32) (x2 : Int32) (x3 : Int32) (x4 : Int32) (x5 : Int32) (σ : nd_Mem), rec8 x1 x2 x3 x4 x5 σ = some z → nd_V M_X7_nextCanWin (nd_rm 1) (nd_Pi (nd_SH ++ t) z) 0 0 8 [(0, .ref 57), (1, .int x1), (2, .int x2), (3, .int x3), (4, .int x4), (5, .int x5)] [] (nd_SH ++ t) σ) (x1 : Int32) (x2 : Int32) (x3 : Int32) (x5 : Int32) (x6 : Int32) (s0 : Int32) (σ : nd_Mem) (h : f_X7_nextCanWin_60 F rec8 x1 x2 x3 x5 x6 s0 σ = some z) : nd_V M_X7_nextCanWin (nd_rm 1) (nd_Pi (nd_SH ++ t) z) 0 0 60 [(0, .ref 57), (1, .int x1), (2, .int x2), (3, .int x3), (5, .int x5), (6, .int x6)] [.int s0] (nd_SH ++ t) σ := by
  unfold f_X7_nextCanWin_60 at h
  refine nd_istore (ls' := [(4, .int s0), (0, .ref 57), (1, .int x1), (2, .int x2), (3, .int x3), (5, .int x5), (6, .int x6)]) dX7_nextCanWin_60 (by decide) rfl ?_
  refine nd_iload dX7_nextCanWin_62 5 rfl ?_
  refine nd_iload_n dX7_nextCanWin_64 2 rfl ?_
  refine nd_iconst dX7_nextCanWin_65 ic_1 ?_
  refine nd_isub dX7_nextCanWin_66 ?_
  refine nd_icmp_eqN dX7_nextCanWin_67 84 (by decide) h (fun h => ?_) (fun h => ?_)
  · refine nd_sub [1, 2, 3, 4, 0, 5, 6] rfl ?_
    exact b_X7_nextCanWin_84 F _ t hL hrec8 _ _ _ _ _ _ _ h
  · refine nd_iload_n dX7_nextCanWin_70 3 rfl ?_
    refine nd_iconst dX7_nextCanWin_71 ic_2 ?_
    refine nd_ishl dX7_nextCanWin_72 ?_
    refine nd_iload dX7_nextCanWin_73 5 rfl ?_
    refine nd_iconst dX7_nextCanWin_75 ic_1 ?_
    refine nd_iadd dX7_nextCanWin_76 ?_
    refine nd_ishr dX7_nextCanWin_77 ?_
    refine nd_bipush dX7_nextCanWin_78 ib_31 ?_
    refine nd_iand dX7_nextCanWin_80 ?_
    refine nd_if_eqN dX7_nextCanWin_81 88 (by decide) h (fun h => ?_) (fun h => ?_)
    · refine nd_iconst dX7_nextCanWin_88 ic_0 ?_
      refine nd_sub [1, 2, 3, 4, 0, 5, 6] rfl ?_
      exact b_X7_nextCanWin_89 F _ t hL hrec8 _ _ _ _ _ _ _ _ h
    · refine nd_sub [1, 2, 3, 4, 0, 5, 6] rfl ?_
      exact b_X7_nextCanWin_84 F _ t hL hrec8 _ _ _ _ _ _ _ h
set_option maxRecDepth 100000 in
set_option maxHeartbeats 4000000 in
theorem b_X7_nextCanWin_45 (F : Nat) (rec8 : Int32 → Int32 → Int32 → Int32 → Int32 → nd_Mem → nd_Res) (t : List nd_S) (hL : (nd_SH ++ t).length < nd_ro) {z : Int32 × nd_Mem} (hrec8 : ∀ (x1 : Int32) (x2 : Int32) (x3 : Int32) (x4 : Int32) (x5 : Int32) (σ : nd_Mem), rec8 x1 x2 x3 x4 x5 σ = some z → nd_V M_X7_nextCanWin (nd_rm 1) (nd_Pi (nd_SH ++ t) z) 0 0 8 [(0, .ref 57), (1, .int x1), (2, .int x2), (3, .int x3), (4, .int x4), (5, .int x5)] [] (nd_SH ++ t) σ) (x1 : Int32) (x2 : Int32) (x3 : Int32) (x4 : Int32) (x5 : Int32) (s0 : Int32) (σ : nd_Mem) (h : f_X7_nextCanWin_45 F rec8 x1 x2 x3 x4 x5 s0 σ = some z) : nd_V M_X7_nextCanWin (nd_rm 1) (nd_Pi (nd_SH ++ t) z) 0 0 45 [(0, .ref 57), (1, .int x1), (2, .int x2), (3, .int x3), (4, .int x4), (5, .int x5)] [.int s0] (nd_SH ++ t) σ := by
  unfold f_X7_nextCanWin_45 at h
  refine nd_istore (ls' := [(6, .int s0), (0, .ref 57), (1, .int x1), (2, .int x2), (3, .int x3), (4, .int x4), (5, .int x5)]) dX7_nextCanWin_45 (by decide) rfl ?_
  refine nd_iload dX7_nextCanWin_47 0 rfl ?_
  refine nd_if_eqN dX7_nextCanWin_49 59 (by decide) h (fun h => ?_) (fun h => ?_)
  · refine nd_iconst dX7_nextCanWin_59 ic_0 ?_
    refine nd_sub [1, 2, 3, 4, 6, 0] rfl ?_
    exact b_X7_nextCanWin_60 F _ t hL hrec8 _ _ _ _ _ _ _ h
  · refine nd_iload dX7_nextCanWin_52 5 rfl ?_
    refine nd_iconst dX7_nextCanWin_54 ic_1 ?_
    refine nd_iadd dX7_nextCanWin_55 ?_
    refine nd_goto dX7_nextCanWin_56 60 (by decide) ?_
    refine nd_sub [1, 2, 3, 4, 6, 0] rfl ?_
    exact b_X7_nextCanWin_60 F _ t hL hrec8 _ _ _ _ _ _ _ h
set_option maxRecDepth 100000 in
set_option maxHeartbeats 4000000 in
theorem b_X7_nextCanWin_8 (F : Nat) (t : List nd_S) (hL : (nd_SH ++ t).length < nd_ro) {z : Int32 × nd_Mem} (m9 : Nat) : ∀ (x1 : Int32) (x2 : Int32) (x3 : Int32) (x4 : Int32) (x5 : Int32) (σ : nd_Mem), f_X7_nextCanWin_8 F m9 x1 x2 x3 x4 x5 σ = some z → nd_V M_X7_nextCanWin (nd_rm 1) (nd_Pi (nd_SH ++ t) z) 0 0 8 [(0, .ref 57), (1, .int x1), (2, .int x2), (3, .int x3), (4, .int x4), (5, .int x5)] [] (nd_SH ++ t) σ := by
  induction m9 with
  | zero =>
    intro x1 x2 x3 x4 x5 σ h
    have h : none = some z := h
    cases h
  | succ m9 hrec8 =>
    intro x1 x2 x3 x4 x5 σ h
    have h : f_X7_nextCanWin_8_b F (f_X7_nextCanWin_8 F m9) x1 x2 x3 x4 x5 σ = some z := h
    unfold f_X7_nextCanWin_8_b at h
    refine nd_iload dX7_nextCanWin_8 5 rfl ?_
    refine nd_iload_n dX7_nextCanWin_10 1 rfl ?_
    refine nd_icmp_geN dX7_nextCanWin_11 116 (by decide) h (fun h => ?_) (fun h => ?_)
    · refine nd_iload_n dX7_nextCanWin_116 3 rfl ?_
      refine nd_if_eqN dX7_nextCanWin_117 124 (by decide) h (fun h => ?_) (fun h => ?_)
      · refine nd_iconst dX7_nextCanWin_124 ic_0 ?_
        exact nd_iret dX7_nextCanWin_125 (Nat.zero_le _) (Nat.zero_le _) rfl (by cases h; exact ⟨rfl, rfl, rfl⟩)
      · refine nd_iconst dX7_nextCanWin_120 ic_1 ?_
        refine nd_goto dX7_nextCanWin_121 125 (by decide) ?_
        exact nd_iret dX7_nextCanWin_125 (Nat.zero_le _) (Nat.zero_le _) rfl (by cases h; exact ⟨rfl, rfl, rfl⟩)
    · refine nd_iload_n dX7_nextCanWin_14 2 rfl ?_
      refine nd_iconst dX7_nextCanWin_15 ic_1 ?_
      refine nd_iload dX7_nextCanWin_16 5 rfl ?_
      refine nd_ishl dX7_nextCanWin_18 ?_
      refine nd_ior dX7_nextCanWin_19 ?_
      obtain ⟨r1, σ2, hc3, h⟩ := nd_bind_e h
      refine nd_csi [.int (x2 ||| ((1 : Int32) <<< (x5 &&& 31)))] [] dX7_nextCanWin_20 cl_X7_107 ⟨Nat.le_of_ble_eq_true rfl, Nat.le_of_ble_eq_true rfl⟩ rfl (Nat.le_of_ble_eq_true rfl) hL (t_X7_threeTogether F (nd_SH ++ t) hL _ _ hc3) ?_
      refine nd_if_eqN dX7_nextCanWin_23 28 (by decide) h (fun h => ?_) (fun h => ?_)
      · refine nd_iload_n dX7_nextCanWin_28 2 rfl ?_
        refine nd_iconst dX7_nextCanWin_29 ic_2 ?_
        refine nd_ishl dX7_nextCanWin_30 ?_
        refine nd_iload dX7_nextCanWin_31 5 rfl ?_
        refine nd_ishr dX7_nextCanWin_33 ?_
        refine nd_bipush dX7_nextCanWin_34 ib_31 ?_
        refine nd_iand dX7_nextCanWin_36 ?_
        refine nd_if_neN dX7_nextCanWin_37 44 (by decide) h (fun h => ?_) (fun h => ?_)
        · refine nd_iconst dX7_nextCanWin_44 ic_0 ?_
          exact b_X7_nextCanWin_45 F _ t hL hrec8 _ _ _ _ _ _ _ h
        · refine nd_iconst dX7_nextCanWin_40 ic_1 ?_
          refine nd_goto dX7_nextCanWin_41 45 (by decide) ?_
          exact b_X7_nextCanWin_45 F _ t hL hrec8 _ _ _ _ _ _ _ h
      · refine nd_iconst dX7_nextCanWin_26 ic_1 ?_
        exact nd_iret dX7_nextCanWin_27 (Nat.zero_le _) (Nat.zero_le _) rfl (by cases h; exact ⟨rfl, rfl, rfl⟩)
set_option maxRecDepth 100000 in
set_option maxHeartbeats 4000000 in
theorem t_X7_nextCanWin (F : Nat) (t : List nd_S) (hL : (nd_SH ++ t).length < nd_ro) {z : Int32 × nd_Mem} (x1 : Int32) (x2 : Int32) (σ : nd_Mem) (h : f_X7_nextCanWin F x1 x2 σ = some z) : nd_Fn M_X7_nextCanWin (nd_rm 1) [.ref 57, .int x1, .int x2] (nd_SH ++ t) σ (nd_Pi (nd_SH ++ t) z) := by
  refine nd_Fn.ofV (ls := [(0, .ref 57), (1, .int x1), (2, .int x2)]) pl_X7_nextCanWin rfl (fun _ => Nat.le_of_ble_eq_true rfl) (fun _ => rfl) ?_
  unfold f_X7_nextCanWin at h
  refine nd_iconst dX7_nextCanWin_0 ic_0 ?_
  refine nd_istore_n (ls' := [(3, .int (0 : Int32)), (0, .ref 57), (1, .int x1), (2, .int x2)]) dX7_nextCanWin_1 (by decide) rfl ?_
  refine nd_iconst dX7_nextCanWin_2 ic_0 ?_
  refine nd_istore (ls' := [(4, .int (0 : Int32)), (3, .int (0 : Int32)), (0, .ref 57), (1, .int x1), (2, .int x2)]) dX7_nextCanWin_3 (by decide) rfl ?_
  refine nd_iconst dX7_nextCanWin_5 ic_0 ?_
  refine nd_istore (ls' := [(5, .int (0 : Int32)), (4, .int (0 : Int32)), (3, .int (0 : Int32)), (0, .ref 57), (1, .int x1), (2, .int x2)]) dX7_nextCanWin_6 (by decide) rfl ?_
  refine nd_sub [3, 4, 5, 2, 1, 0] rfl ?_
  exact b_X7_nextCanWin_8 F t hL F _ _ _ _ _ _ h
def f_X7_pushAll_95 (F : Nat) (rec48 : Int32 → Int32 → Int32 → Int32 → nd_Mem → nd_Res) (rec64 : Int32 → Int32 → Int32 → Int32 → Int32 → nd_Mem → nd_Res) (x1 : Int32) (x2 : Int32) (x4 : Int32) (x5 : Int32) (x6 : Int32) (s0 : Int32) (σ : nd_Mem) : nd_Res := (nd_bind (f_X7_give F x5 ((-2 : Int32) * x6) x1 σ) fun r1 σ2 => (nd_bind (f_X7_give F (x5 - (1 : Int32)) x6 x1 σ2) fun r4 σ5 => (nd_bind (f_X7_give F (x5 + (1 : Int32)) x6 x1 σ5) fun r7 σ8 => (rec64 x1 (x2 + x6) s0 x4 (x5 + (1 : Int32)) σ8))))
def f_X7_pushAll_90 (F : Nat) (rec48 : Int32 → Int32 → Int32 → Int32 → nd_Mem → nd_Res) (rec64 : Int32 → Int32 → Int32 → Int32 → Int32 → nd_Mem → nd_Res) (x1 : Int32) (x2 : Int32) (x4 : Int32) (x5 : Int32) (x6 : Int32) (σ : nd_Mem) : nd_Res := (f_X7_pushAll_95 F rec48 rec64 x1 x2 x4 x5 x6 (1 : Int32) σ)
def f_X7_pushAll_64_b (F : Nat) (rec48 : Int32 → Int32 → Int32 → Int32 → nd_Mem → nd_Res) (rec64 : Int32 → Int32 → Int32 → Int32 → Int32 → nd_Mem → nd_Res) (x1 : Int32) (x2 : Int32) (x3 : Int32) (x4 : Int32) (x5 : Int32) (σ : nd_Mem) : nd_Res := (if x1 ≤ x5 then (rec48 x1 x2 x3 (x4 + (1 : Int32)) σ) else (if x5 < 0 ∨ 196 ≤ (x5).toNatClampNeg then none else (if x3 = 0 then (if ((σ 58 (x5).toNatClampNeg) / (2 : Int32)) ≤ 0 then (f_X7_pushAll_95 F rec48 rec64 x1 x2 x4 x5 ((σ 58 (x5).toNatClampNeg) / (2 : Int32)) (0 : Int32) σ) else (f_X7_pushAll_90 F rec48 rec64 x1 x2 x4 x5 ((σ 58 (x5).toNatClampNeg) / (2 : Int32)) σ)) else (f_X7_pushAll_90 F rec48 rec64 x1 x2 x4 x5 ((σ 58 (x5).toNatClampNeg) / (2 : Int32)) σ))))
def f_X7_pushAll_64 (F : Nat) (rec48 : Int32 → Int32 → Int32 → Int32 → nd_Mem → nd_Res) : Nat → Int32 → Int32 → Int32 → Int32 → Int32 → nd_Mem → nd_Res
  | 0, _, _, _, _, _, _ => none
  | m9 + 1, x1, x2, x3, x4, x5, σ => f_X7_pushAll_64_b F rec48 (f_X7_pushAll_64 F rec48 m9) x1 x2 x3 x4 x5 σ
def f_X7_pushAll_147 (F : Nat) (x2 : Int32) (σ : nd_Mem) : nd_Res := (some (x2, σ))
def f_X7_pushAll_48_b (F : Nat) (rec48 : Int32 → Int32 → Int32 → Int32 → nd_Mem → nd_Res) (x1 : Int32) (x2 : Int32) (x3 : Int32) (x4 : Int32) (σ : nd_Mem) : nd_Res := (if (1000000 : Int32) ≤ x4 then (f_X7_pushAll_147 F x2 σ) else (if x3 = 0 then (f_X7_pushAll_147 F x2 σ) else (f_X7_pushAll_64 F rec48 F x1 x2 (0 : Int32) x4 (0 : Int32) σ)))
def f_X7_pushAll_48 (F : Nat) : Nat → Int32 → Int32 → Int32 → Int32 → nd_Mem → nd_Res
  | 0, _, _, _, _, _ => none
  | m9 + 1, x1, x2, x3, x4, σ => f_X7_pushAll_48_b F (f_X7_pushAll_48 F m9) x1 x2 x3 x4 σ
def f_X7_pushAll_13_b (F : Nat) (rec13 : Int32 → Int32 → nd_Mem → nd_Res) (x1 : Int32) (x2 : Int32) (σ : nd_Mem) : nd_Res := (if x1 ≤ x2 then (f_X7_pushAll_48 F F x1 (0 : Int32) (1 : Int32) (0 : Int32) σ) else (nd_bind (f_X4_at F 17 18 10 x2 σ) fun r1 σ2 => (if x2 < 0 ∨ 196 ≤ (x2).toNatClampNeg then none else (nd_let (nd_up σ2 58 (x2).toNatClampNeg r1) fun σ4 => (rec13 x1 (x2 + (1 : Int32)) σ4)))))
def f_X7_pushAll_13 (F : Nat) : Nat → Int32 → Int32 → nd_Mem → nd_Res
  | 0, _, _, _ => none
  | m9 + 1, x1, x2, σ => f_X7_pushAll_13_b F (f_X7_pushAll_13 F m9) x1 x2 σ
def f_X7_pushAll (F : Nat) (σ : nd_Mem) : nd_Res := (f_X7_pushAll_13 F F (σ 17 1) (0 : Int32) σ)
set_option maxRecDepth 100000 in
set_option maxHeartbeats 4000000 in
theorem b_X7_pushAll_95 (F : Nat) (rec48 : Int32 → Int32 → Int32 → Int32 → nd_Mem → nd_Res) (rec64 : Int32 → Int32 → Int32 → Int32 → Int32 → nd_Mem → nd_Res) (t : List nd_S) (hL : (nd_SH ++ t).length < nd_ro) {z : Int32 × nd_Mem} (hrec48 : ∀ (x1 : Int32) (x2 : Int32) (x3 : Int32) (x4 : Int32) (σ : nd_Mem), rec48 x1 x2 x3 x4 σ = some z → nd_V M_X7_pushAll (nd_rm 1) (nd_Pi (nd_SH ++ t) z) 0 0 48 [(0, .ref 57), (1, .int x1), (2, .int x2), (3, .int x3), (4, .int x4)] [] (nd_SH ++ t) σ) (hrec64 : ∀ (x1 : Int32) (x2 : Int32) (x3 : Int32) (x4 : Int32) (x5 : Int32) (σ : nd_Mem), rec64 x1 x2 x3 x4 x5 σ = some z → nd_V M_X7_pushAll (nd_rm 1) (nd_Pi (nd_SH ++ t) z) 0 0 64 [(0, .ref 57), (1, .int x1), (2, .int x2), (3, .int x3), (4, .int x4), (5, .int x5)] [] (nd_SH ++ t) σ) (x1 : Int32) (x2 : Int32) (x4 : Int32) (x5 : Int32) (x6 : Int32) (s0 : Int32) (σ : nd_Mem) (h : f_X7_pushAll_95 F rec48 rec64 x1 x2 x4 x5 x6 s0 σ = some z) : nd_V M_X7_pushAll (nd_rm 1) (nd_Pi (nd_SH ++ t) z) 0 0 95 [(0, .ref 57), (1, .int x1), (2, .int x2), (4, .int x4), (5, .int x5), (6, .int x6)] [.int s0] (nd_SH ++ t) σ := by
  unfold f_X7_pushAll_95 at h
  refine nd_istore_n (ls' := [(3, .int s0), (0, .ref 57), (1, .int x1), (2, .int x2), (4, .int x4), (5, .int x5), (6, .int x6)]) dX7_pushAll_95 (by decide) rfl ?_
  refine nd_iload_n dX7_pushAll_96 3 rfl ?_
  refine nd_iload dX7_pushAll_97 6 rfl ?_
  refine nd_iadd dX7_pushAll_99 ?_
  refine nd_istore_n (ls' := [(2, .int (x2 + x6)), (3, .int s0), (0, .ref 57), (1, .int x1), (4, .int x4), (5, .int x5), (6, .int x6)]) dX7_pushAll_100 (by decide) rfl ?_
  refine nd_aload_n dX7_pushAll_101 2 rfl ?_
  refine nd_iload dX7_pushAll_102 5 rfl ?_
  refine nd_bipush dX7_pushAll_104 ib_m2 ?_
  refine nd_iload dX7_pushAll_106 6 rfl ?_
  refine nd_imul dX7_pushAll_108 ?_
  refine nd_iload_n dX7_pushAll_109 3 rfl ?_
  obtain ⟨r1, σ2, hc3, h⟩ := nd_bind_e h
  refine nd_cvv [.int x5, .int ((-2 : Int32) * x6), .int x1] [] dX7_pushAll_110 cl_X7_79 (sh_57 t) ⟨Nat.le_of_ble_eq_true rfl, Nat.le_of_ble_eq_true rfl⟩ rfl (Nat.le_of_ble_eq_true rfl) hL (t_X7_give F t hL _ _ _ _ hc3) ?_
  refine nd_aload_n dX7_pushAll_113 2 rfl ?_
  refine nd_iload dX7_pushAll_114 5 rfl ?_
  refine nd_iconst dX7_pushAll_116 ic_1 ?_
  refine nd_isub dX7_pushAll_117 ?_
  refine nd_iload dX7_pushAll_118 6 rfl ?_
  refine nd_iload_n dX7_pushAll_120 3 rfl ?_
  obtain ⟨r4, σ5, hc6, h⟩ := nd_bind_e h
  refine nd_cvv [.int (x5 - (1 : Int32)), .int x6, .int x1] [] dX7_pushAll_121 cl_X7_79 (sh_57 t) ⟨Nat.le_of_ble_eq_true rfl, Nat.le_of_ble_eq_true rfl⟩ rfl (Nat.le_of_ble_eq_true rfl) hL (t_X7_give F t hL _ _ _ _ hc6) ?_
  refine nd_aload_n dX7_pushAll_124 2 rfl ?_
  refine nd_iload dX7_pushAll_125 5 rfl ?_
  refine nd_iconst dX7_pushAll_127 ic_1 ?_
  refine nd_iadd dX7_pushAll_128 ?_
  refine nd_iload dX7_pushAll_129 6 rfl ?_
  refine nd_iload_n dX7_pushAll_131 3 rfl ?_
  obtain ⟨r7, σ8, hc9, h⟩ := nd_bind_e h
  refine nd_cvv [.int (x5 + (1 : Int32)), .int x6, .int x1] [] dX7_pushAll_132 cl_X7_79 (sh_57 t) ⟨Nat.le_of_ble_eq_true rfl, Nat.le_of_ble_eq_true rfl⟩ rfl (Nat.le_of_ble_eq_true rfl) hL (t_X7_give F t hL _ _ _ _ hc9) ?_
  refine nd_iinc (v := (x5 + (1 : Int32))) (ls' := [(5, .int (x5 + (1 : Int32))), (2, .int (x2 + x6)), (3, .int s0), (0, .ref 57), (1, .int x1), (4, .int x4), (6, .int x6)]) dX7_pushAll_135 5 rfl (congrArg (HAdd.hAdd _) ic_1) (by decide) rfl ?_
  refine nd_goto dX7_pushAll_138 64 (by decide) ?_
  refine nd_sub [3, 4, 1, 2, 5, 0] rfl ?_
  exact hrec64 _ _ _ _ _ _ h
set_option maxRecDepth 100000 in
set_option maxHeartbeats 4000000 in
theorem b_X7_pushAll_90 (F : Nat) (rec48 : Int32 → Int32 → Int32 → Int32 → nd_Mem → nd_Res) (rec64 : Int32 → Int32 → Int32 → Int32 → Int32 → nd_Mem → nd_Res) (t : List nd_S) (hL : (nd_SH ++ t).length < nd_ro) {z : Int32 × nd_Mem} (hrec48 : ∀ (x1 : Int32) (x2 : Int32) (x3 : Int32) (x4 : Int32) (σ : nd_Mem), rec48 x1 x2 x3 x4 σ = some z → nd_V M_X7_pushAll (nd_rm 1) (nd_Pi (nd_SH ++ t) z) 0 0 48 [(0, .ref 57), (1, .int x1), (2, .int x2), (3, .int x3), (4, .int x4)] [] (nd_SH ++ t) σ) (hrec64 : ∀ (x1 : Int32) (x2 : Int32) (x3 : Int32) (x4 : Int32) (x5 : Int32) (σ : nd_Mem), rec64 x1 x2 x3 x4 x5 σ = some z → nd_V M_X7_pushAll (nd_rm 1) (nd_Pi (nd_SH ++ t) z) 0 0 64 [(0, .ref 57), (1, .int x1), (2, .int x2), (3, .int x3), (4, .int x4), (5, .int x5)] [] (nd_SH ++ t) σ) (x1 : Int32) (x2 : Int32) (x4 : Int32) (x5 : Int32) (x6 : Int32) (σ : nd_Mem) (h : f_X7_pushAll_90 F rec48 rec64 x1 x2 x4 x5 x6 σ = some z) : nd_V M_X7_pushAll (nd_rm 1) (nd_Pi (nd_SH ++ t) z) 0 0 90 [(0, .ref 57), (1, .int x1), (2, .int x2), (4, .int x4), (5, .int x5), (6, .int x6)] [] (nd_SH ++ t) σ := by
  unfold f_X7_pushAll_90 at h
  refine nd_iconst dX7_pushAll_90 ic_1 ?_
  refine nd_goto dX7_pushAll_91 95 (by decide) ?_
  exact b_X7_pushAll_95 F _ _ t hL hrec48 hrec64 _ _ _ _ _ _ _ h
set_option maxRecDepth 100000 in
set_option maxHeartbeats 4000000 in
theorem b_X7_pushAll_64 (F : Nat) (rec48 : Int32 → Int32 → Int32 → Int32 → nd_Mem → nd_Res) (t : List nd_S) (hL : (nd_SH ++ t).length < nd_ro) {z : Int32 × nd_Mem} (hrec48 : ∀ (x1 : Int32) (x2 : Int32) (x3 : Int32) (x4 : Int32) (σ : nd_Mem), rec48 x1 x2 x3 x4 σ = some z → nd_V M_X7_pushAll (nd_rm 1) (nd_Pi (nd_SH ++ t) z) 0 0 48 [(0, .ref 57), (1, .int x1), (2, .int x2), (3, .int x3), (4, .int x4)] [] (nd_SH ++ t) σ) (m9 : Nat) : ∀ (x1 : Int32) (x2 : Int32) (x3 : Int32) (x4 : Int32) (x5 : Int32) (σ : nd_Mem), f_X7_pushAll_64 F rec48 m9 x1 x2 x3 x4 x5 σ = some z → nd_V M_X7_pushAll (nd_rm 1) (nd_Pi (nd_SH ++ t) z) 0 0 64 [(0, .ref 57), (1, .int x1), (2, .int x2), (3, .int x3), (4, .int x4), (5, .int x5)] [] (nd_SH ++ t) σ := by
  induction m9 with
  | zero =>
    intro x1 x2 x3 x4 x5 σ h
    have h : none = some z := h
    cases h
  | succ m9 hrec64 =>
    intro x1 x2 x3 x4 x5 σ h
    have h : f_X7_pushAll_64_b F rec48 (f_X7_pushAll_64 F rec48 m9) x1 x2 x3 x4 x5 σ = some z := h
    unfold f_X7_pushAll_64_b at h
    refine nd_iload dX7_pushAll_64 5 rfl ?_
    refine nd_iload_n dX7_pushAll_66 1 rfl ?_
    refine nd_icmp_geN dX7_pushAll_67 141 (by decide) h (fun h => ?_) (fun h => ?_)
    · refine nd_iinc (v := (x4 + (1 : Int32))) (ls' := [(4, .int (x4 + (1 : Int32))), (0, .ref 57), (1, .int x1), (2, .int x2), (3, .int x3), (5, .int x5)]) dX7_pushAll_141 4 rfl (congrArg (HAdd.hAdd _) ic_1) (by decide) rfl ?_
      refine nd_goto dX7_pushAll_144 48 (by decide) ?_
      refine nd_sub [1, 2, 3, 4, 0] rfl ?_
      exact hrec48 _ _ _ _ _ h
    · refine nd_aload_n dX7_pushAll_70 0 rfl ?_
      refine nd_get dX7_pushAll_71 gf_X7_15 (sh_57 t) rfl ?_
      refine nd_iload dX7_pushAll_74 5 rfl ?_
      refine nd_ialoadN dX7_pushAll_76 (sh_58 t) h (fun h => ?_)
      refine nd_iconst dX7_pushAll_77 ic_2 ?_
      refine nd_idiv dX7_pushAll_78 (by decide) ?_
      refine nd_istore (ls' := [(6, .int ((σ 58 (x5).toNatClampNeg) / (2 : Int32))), (0, .ref 57), (1, .int x1), (2, .int x2), (3, .int x3), (4, .int x4), (5, .int x5)]) dX7_pushAll_79 (by decide) rfl ?_
      refine nd_iload_n dX7_pushAll_81 4 rfl ?_
      refine nd_if_neN dX7_pushAll_82 90 (by decide) h (fun h => ?_) (fun h => ?_)
      · refine nd_sub [1, 2, 3, 5, 6, 0] rfl ?_
        exact b_X7_pushAll_90 F _ _ t hL hrec48 hrec64 _ _ _ _ _ _ h
      · refine nd_iload dX7_pushAll_85 0 rfl ?_
        refine nd_if_leN dX7_pushAll_87 94 (by decide) h (fun h => ?_) (fun h => ?_)
        · refine nd_iconst dX7_pushAll_94 ic_0 ?_
          refine nd_sub [1, 2, 3, 5, 6, 0] rfl ?_
          exact b_X7_pushAll_95 F _ _ t hL hrec48 hrec64 _ _ _ _ _ _ _ h
        · refine nd_sub [1, 2, 3, 5, 6, 0] rfl ?_
          exact b_X7_pushAll_90 F _ _ t hL hrec48 hrec64 _ _ _ _ _ _ h
set_option maxRecDepth 100000 in
set_option maxHeartbeats 4000000 in
theorem b_X7_pushAll_147 (F : Nat) (t : List nd_S) (hL : (nd_SH ++ t).length < nd_ro) {z : Int32 × nd_Mem} (x2 : Int32) (σ : nd_Mem) (h : f_X7_pushAll_147 F x2 σ = some z) : nd_V M_X7_pushAll (nd_rm 1) (nd_Pi (nd_SH ++ t) z) 0 0 147 [(0, .ref 57), (2, .int x2)] [] (nd_SH ++ t) σ := by
  unfold f_X7_pushAll_147 at h
  refine nd_iload_n dX7_pushAll_147 1 rfl ?_
  exact nd_iret dX7_pushAll_148 (Nat.zero_le _) (Nat.zero_le _) (vp_nar_int _) (by cases h; exact ⟨rfl, rfl, rfl⟩)
set_option maxRecDepth 100000 in
set_option maxHeartbeats 4000000 in
theorem b_X7_pushAll_48 (F : Nat) (t : List nd_S) (hL : (nd_SH ++ t).length < nd_ro) {z : Int32 × nd_Mem} (m9 : Nat) : ∀ (x1 : Int32) (x2 : Int32) (x3 : Int32) (x4 : Int32) (σ : nd_Mem), f_X7_pushAll_48 F m9 x1 x2 x3 x4 σ = some z → nd_V M_X7_pushAll (nd_rm 1) (nd_Pi (nd_SH ++ t) z) 0 0 48 [(0, .ref 57), (1, .int x1), (2, .int x2), (3, .int x3), (4, .int x4)] [] (nd_SH ++ t) σ := by
  induction m9 with
  | zero =>
    intro x1 x2 x3 x4 σ h
    have h : none = some z := h
    cases h
  | succ m9 hrec48 =>
    intro x1 x2 x3 x4 σ h
    have h : f_X7_pushAll_48_b F (f_X7_pushAll_48 F m9) x1 x2 x3 x4 σ = some z := h
    unfold f_X7_pushAll_48_b at h
    refine nd_iload dX7_pushAll_48 4 rfl ?_
    refine nd_ldc dX7_pushAll_50 kc_X7_78 ?_
    refine nd_icmp_geN dX7_pushAll_52 147 (by decide) h (fun h => ?_) (fun h => ?_)
    · refine nd_sub [0, 2] rfl ?_
      exact b_X7_pushAll_147 F t hL _ _ h
    · refine nd_iload_n dX7_pushAll_55 3 rfl ?_
      refine nd_if_eqN dX7_pushAll_56 147 (by decide) h (fun h => ?_) (fun h => ?_)
      · refine nd_sub [0, 2] rfl ?_
        exact b_X7_pushAll_147 F t hL _ _ h
      · refine nd_iconst dX7_pushAll_59 ic_0 ?_
        refine nd_istore_n (ls' := [(3, .int (0 : Int32)), (0, .ref 57), (1, .int x1), (2, .int x2), (4, .int x4)]) dX7_pushAll_60 (by decide) rfl ?_
        refine nd_iconst dX7_pushAll_61 ic_0 ?_
        refine nd_istore (ls' := [(5, .int (0 : Int32)), (3, .int (0 : Int32)), (0, .ref 57), (1, .int x1), (2, .int x2), (4, .int x4)]) dX7_pushAll_62 (by decide) rfl ?_
        refine nd_sub [2, 3, 4, 1, 5, 0] rfl ?_
        exact b_X7_pushAll_64 F _ t hL hrec48 F _ _ _ _ _ _ h
set_option maxRecDepth 100000 in
set_option maxHeartbeats 4000000 in
theorem b_X7_pushAll_13 (F : Nat) (t : List nd_S) (hL : (nd_SH ++ t).length < nd_ro) {z : Int32 × nd_Mem} (m9 : Nat) : ∀ (x1 : Int32) (x2 : Int32) (σ : nd_Mem), f_X7_pushAll_13 F m9 x1 x2 σ = some z → nd_V M_X7_pushAll (nd_rm 1) (nd_Pi (nd_SH ++ t) z) 0 0 13 [(0, .ref 57), (1, .int x1), (2, .int x2)] [] (nd_SH ++ t) σ := by
  induction m9 with
  | zero =>
    intro x1 x2 σ h
    have h : none = some z := h
    cases h
  | succ m9 hrec13 =>
    intro x1 x2 σ h
    have h : f_X7_pushAll_13_b F (f_X7_pushAll_13 F m9) x1 x2 σ = some z := h
    unfold f_X7_pushAll_13_b at h
    refine nd_iload_n dX7_pushAll_13 2 rfl ?_
    refine nd_iload_n dX7_pushAll_14 1 rfl ?_
    refine nd_icmp_geN dX7_pushAll_15 41 (by decide) h (fun h => ?_) (fun h => ?_)
    · refine nd_iconst dX7_pushAll_41 ic_0 ?_
      refine nd_istore_n (ls' := [(2, .int (0 : Int32)), (0, .ref 57), (1, .int x1)]) dX7_pushAll_42 (by decide) rfl ?_
      refine nd_iconst dX7_pushAll_43 ic_1 ?_
      refine nd_istore_n (ls' := [(3, .int (1 : Int32)), (2, .int (0 : Int32)), (0, .ref 57), (1, .int x1)]) dX7_pushAll_44 (by decide) rfl ?_
      refine nd_iconst dX7_pushAll_45 ic_0 ?_
      refine nd_istore (ls' := [(4, .int (0 : Int32)), (3, .int (1 : Int32)), (2, .int (0 : Int32)), (0, .ref 57), (1, .int x1)]) dX7_pushAll_46 (by decide) rfl ?_
      refine nd_sub [3, 4, 2, 1, 0] rfl ?_
      exact b_X7_pushAll_48 F t hL F _ _ _ _ _ h
    · refine nd_aload_n dX7_pushAll_18 0 rfl ?_
      refine nd_get dX7_pushAll_19 gf_X7_15 (sh_57 t) rfl ?_
      refine nd_iload_n dX7_pushAll_22 2 rfl ?_
      refine nd_aload_n dX7_pushAll_23 0 rfl ?_
      refine nd_get dX7_pushAll_24 gf_X7_9 (sh_57 t) rfl ?_
      refine nd_get dX7_pushAll_27 gf_X7_75 (sh_12 t) rfl ?_
      refine nd_iload_n dX7_pushAll_30 2 rfl ?_
      obtain ⟨r1, σ2, hc3, h⟩ := nd_bind_e h
      refine nd_cvi [.int x2] [.int x2, .ref 58] dX7_pushAll_31 cl_X7_38 (sh_17 t) ⟨Nat.le_of_ble_eq_true rfl, Nat.le_of_ble_eq_true rfl⟩ rfl (Nat.le_of_ble_eq_true rfl) hL (t_X4_at F 17 18 10 (nd_SH ++ t) hL (is_Row_17 t) _ _ hc3) ?_
      refine nd_iastoreN dX7_pushAll_34 (sh_58 t) h (fun σ4 h => ?_)
      refine nd_iinc (v := (x2 + (1 : Int32))) (ls' := [(2, .int (x2 + (1 : Int32))), (0, .ref 57), (1, .int x1)]) dX7_pushAll_35 2 rfl (congrArg (HAdd.hAdd _) ic_1) (by decide) rfl ?_
      refine nd_goto dX7_pushAll_38 13 (by decide) ?_
      refine nd_sub [1, 2, 0] rfl ?_
      exact hrec13 _ _ _ h
set_option maxRecDepth 100000 in
set_option maxHeartbeats 4000000 in
theorem t_X7_pushAll (F : Nat) (t : List nd_S) (hL : (nd_SH ++ t).length < nd_ro) {z : Int32 × nd_Mem} (σ : nd_Mem) (h : f_X7_pushAll F σ = some z) : nd_Fn M_X7_pushAll (nd_rm 1) [.ref 57] (nd_SH ++ t) σ (nd_Pi (nd_SH ++ t) z) := by
  refine nd_Fn.ofV (ls := [(0, .ref 57)]) pl_X7_pushAll rfl (fun _ => Nat.le_of_ble_eq_true rfl) (fun _ => rfl) ?_
  unfold f_X7_pushAll at h
  refine nd_aload_n dX7_pushAll_0 0 rfl ?_
  refine nd_get dX7_pushAll_1 gf_X7_9 (sh_57 t) rfl ?_
  refine nd_get dX7_pushAll_4 gf_X7_75 (sh_12 t) rfl ?_
  refine nd_get dX7_pushAll_7 gf_X7_32 (sh_17 t) rfl ?_
  refine nd_istore_n (ls' := [(1, .int (σ 17 1)), (0, .ref 57)]) dX7_pushAll_10 (by decide) rfl ?_
  refine nd_iconst dX7_pushAll_11 ic_0 ?_
  refine nd_istore_n (ls' := [(2, .int (0 : Int32)), (1, .int (σ 17 1)), (0, .ref 57)]) dX7_pushAll_12 (by decide) rfl ?_
  refine nd_sub [2, 1, 0] rfl ?_
  exact b_X7_pushAll_13 F t hL F _ _ _ h
def f_X7_rising_72 (F : Nat) (rec4 : Int32 → Int32 → nd_Mem → nd_Res) (rec27 : Int32 → Int32 → Int32 → nd_Mem → nd_Res) (x1 : Int32) (x2 : Int32) (x3 : Int32) (σ : nd_Mem) : nd_Res := (rec27 x1 x2 (x3 + (1 : Int32)) σ)
def f_X7_rising_27_b (F : Nat) (rec4 : Int32 → Int32 → nd_Mem → nd_Res) (rec27 : Int32 → Int32 → Int32 → nd_Mem → nd_Res) (x1 : Int32) (x2 : Int32) (x3 : Int32) (σ : nd_Mem) : nd_Res := (if x2 ≤ x3 then (if x2 < 0 ∨ 196 ≤ (x2).toNatClampNeg then none else (rec4 (x1 + (σ 58 (x2).toNatClampNeg)) (x2 + (1 : Int32)) σ)) else (nd_bind (f_X4_at F 21 22 10 x3 σ) fun r1 σ2 => (nd_bind (f_X4_at F 21 22 10 x2 σ2) fun r4 σ5 => (if r4 ≤ r1 then (f_X7_rising_72 F rec4 rec27 x1 x2 x3 σ5) else (if x2 < 0 ∨ 196 ≤ (x2).toNatClampNeg then none else (if x3 < 0 ∨ 196 ≤ (x3).toNatClampNeg then none else (if x2 < 0 ∨ 196 ≤ (x2).toNatClampNeg then none else (nd_let (nd_up σ5 58 (x2).toNatClampNeg ((σ5 58 (x2).toNatClampNeg) + (σ5 58 (x3).toNatClampNeg))) fun σ7 => (f_X7_rising_72 F rec4 rec27 x1 x2 x3 σ7)))))))))
def f_X7_rising_27 (F : Nat) (rec4 : Int32 → Int32 → nd_Mem → nd_Res) : Nat → Int32 → Int32 → Int32 → nd_Mem → nd_Res
  | 0, _, _, _, _ => none
  | m9 + 1, x1, x2, x3, σ => f_X7_rising_27_b F rec4 (f_X7_rising_27 F rec4 m9) x1 x2 x3 σ
def f_X7_rising_4_b (F : Nat) (rec4 : Int32 → Int32 → nd_Mem → nd_Res) (x1 : Int32) (x2 : Int32) (σ : nd_Mem) : nd_Res := (if (σ 21 1) ≤ x2 then (some (x1, σ)) else (if x2 < 0 ∨ 196 ≤ (x2).toNatClampNeg then none else (nd_let (nd_up σ 58 (x2).toNatClampNeg (1 : Int32)) fun σ1 => (f_X7_rising_27 F rec4 F x1 x2 (0 : Int32) σ1))))
def f_X7_rising_4 (F : Nat) : Nat → Int32 → Int32 → nd_Mem → nd_Res
  | 0, _, _, _ => none
  | m9 + 1, x1, x2, σ => f_X7_rising_4_b F (f_X7_rising_4 F m9) x1 x2 σ
def f_X7_rising (F : Nat) (σ : nd_Mem) : nd_Res := (f_X7_rising_4 F F (0 : Int32) (0 : Int32) σ)
set_option maxRecDepth 100000 in
set_option maxHeartbeats 4000000 in
theorem b_X7_rising_72 (F : Nat) (rec4 : Int32 → Int32 → nd_Mem → nd_Res) (rec27 : Int32 → Int32 → Int32 → nd_Mem → nd_Res) (t : List nd_S) (hL : (nd_SH ++ t).length < nd_ro) {z : Int32 × nd_Mem} (hrec4 : ∀ (x1 : Int32) (x2 : Int32) (σ : nd_Mem), rec4 x1 x2 σ = some z → nd_V M_X7_rising (nd_rm 1) (nd_Pi (nd_SH ++ t) z) 0 0 4 [(0, .ref 57), (1, .int x1), (2, .int x2)] [] (nd_SH ++ t) σ) (hrec27 : ∀ (x1 : Int32) (x2 : Int32) (x3 : Int32) (σ : nd_Mem), rec27 x1 x2 x3 σ = some z → nd_V M_X7_rising (nd_rm 1) (nd_Pi (nd_SH ++ t) z) 0 0 27 [(0, .ref 57), (1, .int x1), (2, .int x2), (3, .int x3)] [] (nd_SH ++ t) σ) (x1 : Int32) (x2 : Int32) (x3 : Int32) (σ : nd_Mem) (h : f_X7_rising_72 F rec4 rec27 x1 x2 x3 σ = some z) : nd_V M_X7_rising (nd_rm 1) (nd_Pi (nd_SH ++ t) z) 0 0 72 [(0, .ref 57), (1, .int x1), (2, .int x2), (3, .int x3)] [] (nd_SH ++ t) σ := by
  unfold f_X7_rising_72 at h
  refine nd_iinc (v := (x3 + (1 : Int32))) (ls' := [(3, .int (x3 + (1 : Int32))), (0, .ref 57), (1, .int x1), (2, .int x2)]) dX7_rising_72 3 rfl (congrArg (HAdd.hAdd _) ic_1) (by decide) rfl ?_
  refine nd_goto dX7_rising_75 27 (by decide) ?_
  refine nd_sub [1, 2, 3, 0] rfl ?_
  exact hrec27 _ _ _ _ h
set_option maxRecDepth 100000 in
set_option maxHeartbeats 4000000 in
theorem b_X7_rising_27 (F : Nat) (rec4 : Int32 → Int32 → nd_Mem → nd_Res) (t : List nd_S) (hL : (nd_SH ++ t).length < nd_ro) {z : Int32 × nd_Mem} (hrec4 : ∀ (x1 : Int32) (x2 : Int32) (σ : nd_Mem), rec4 x1 x2 σ = some z → nd_V M_X7_rising (nd_rm 1) (nd_Pi (nd_SH ++ t) z) 0 0 4 [(0, .ref 57), (1, .int x1), (2, .int x2)] [] (nd_SH ++ t) σ) (m9 : Nat) : ∀ (x1 : Int32) (x2 : Int32) (x3 : Int32) (σ : nd_Mem), f_X7_rising_27 F rec4 m9 x1 x2 x3 σ = some z → nd_V M_X7_rising (nd_rm 1) (nd_Pi (nd_SH ++ t) z) 0 0 27 [(0, .ref 57), (1, .int x1), (2, .int x2), (3, .int x3)] [] (nd_SH ++ t) σ := by
  induction m9 with
  | zero =>
    intro x1 x2 x3 σ h
    have h : none = some z := h
    cases h
  | succ m9 hrec27 =>
    intro x1 x2 x3 σ h
    have h : f_X7_rising_27_b F rec4 (f_X7_rising_27 F rec4 m9) x1 x2 x3 σ = some z := h
    unfold f_X7_rising_27_b at h
    refine nd_iload_n dX7_rising_27 3 rfl ?_
    refine nd_iload_n dX7_rising_28 2 rfl ?_
    refine nd_icmp_geN dX7_rising_29 78 (by decide) h (fun h => ?_) (fun h => ?_)
    · refine nd_iload_n dX7_rising_78 1 rfl ?_
      refine nd_aload_n dX7_rising_79 0 rfl ?_
      refine nd_get dX7_rising_80 gf_X7_15 (sh_57 t) rfl ?_
      refine nd_iload_n dX7_rising_83 2 rfl ?_
      refine nd_ialoadN dX7_rising_84 (sh_58 t) h (fun h => ?_)
      refine nd_iadd dX7_rising_85 ?_
      refine nd_istore_n (ls' := [(1, .int (x1 + (σ 58 (x2).toNatClampNeg))), (0, .ref 57), (2, .int x2), (3, .int x3)]) dX7_rising_86 (by decide) rfl ?_
      refine nd_iinc (v := (x2 + (1 : Int32))) (ls' := [(2, .int (x2 + (1 : Int32))), (1, .int (x1 + (σ 58 (x2).toNatClampNeg))), (0, .ref 57), (3, .int x3)]) dX7_rising_87 2 rfl (congrArg (HAdd.hAdd _) ic_1) (by decide) rfl ?_
      refine nd_goto dX7_rising_90 4 (by decide) ?_
      refine nd_sub [2, 1, 0] rfl ?_
      exact hrec4 _ _ _ h
    · refine nd_aload_n dX7_rising_32 0 rfl ?_
      refine nd_get dX7_rising_33 gf_X7_9 (sh_57 t) rfl ?_
      refine nd_get dX7_rising_36 gf_X7_98 (sh_12 t) rfl ?_
      refine nd_iload_n dX7_rising_39 3 rfl ?_
      obtain ⟨r1, σ2, hc3, h⟩ := nd_bind_e h
      refine nd_cvi [.int x3] [] dX7_rising_40 cl_X7_38 (sh_21 t) ⟨Nat.le_of_ble_eq_true rfl, Nat.le_of_ble_eq_true rfl⟩ rfl (Nat.le_of_ble_eq_true rfl) hL (t_X4_at F 21 22 10 (nd_SH ++ t) hL (is_Row_21 t) _ _ hc3) ?_
      refine nd_aload_n dX7_rising_43 0 rfl ?_
      refine nd_get dX7_rising_44 gf_X7_9 (sh_57 t) rfl ?_
      refine nd_get dX7_rising_47 gf_X7_98 (sh_12 t) rfl ?_
      refine nd_iload_n dX7_rising_50 2 rfl ?_
      obtain ⟨r4, σ5, hc6, h⟩ := nd_bind_e h
      refine nd_cvi [.int x2] [.int r1] dX7_rising_51 cl_X7_38 (sh_21 t) ⟨Nat.le_of_ble_eq_true rfl, Nat.le_of_ble_eq_true rfl⟩ rfl (Nat.le_of_ble_eq_true rfl) hL (t_X4_at F 21 22 10 (nd_SH ++ t) hL (is_Row_21 t) _ _ hc6) ?_
      refine nd_icmp_geN dX7_rising_54 72 (by decide) h (fun h => ?_) (fun h => ?_)
      · exact b_X7_rising_72 F _ _ t hL hrec4 hrec27 _ _ _ _ h
      · refine nd_aload_n dX7_rising_57 0 rfl ?_
        refine nd_get dX7_rising_58 gf_X7_15 (sh_57 t) rfl ?_
        refine nd_iload_n dX7_rising_61 2 rfl ?_
        refine nd_dup2 dX7_rising_62 rfl rfl ?_
        refine nd_ialoadN dX7_rising_63 (sh_58 t) h (fun h => ?_)
        refine nd_aload_n dX7_rising_64 0 rfl ?_
        refine nd_get dX7_rising_65 gf_X7_15 (sh_57 t) rfl ?_
        refine nd_iload_n dX7_rising_68 3 rfl ?_
        refine nd_ialoadN dX7_rising_69 (sh_58 t) h (fun h => ?_)
        refine nd_iadd dX7_rising_70 ?_
        refine nd_iastoreN dX7_rising_71 (sh_58 t) h (fun σ7 h => ?_)
        exact b_X7_rising_72 F _ _ t hL hrec4 hrec27 _ _ _ _ h
set_option maxRecDepth 100000 in
set_option maxHeartbeats 4000000 in
theorem b_X7_rising_4 (F : Nat) (t : List nd_S) (hL : (nd_SH ++ t).length < nd_ro) {z : Int32 × nd_Mem} (m9 : Nat) : ∀ (x1 : Int32) (x2 : Int32) (σ : nd_Mem), f_X7_rising_4 F m9 x1 x2 σ = some z → nd_V M_X7_rising (nd_rm 1) (nd_Pi (nd_SH ++ t) z) 0 0 4 [(0, .ref 57), (1, .int x1), (2, .int x2)] [] (nd_SH ++ t) σ := by
  induction m9 with
  | zero =>
    intro x1 x2 σ h
    have h : none = some z := h
    cases h
  | succ m9 hrec4 =>
    intro x1 x2 σ h
    have h : f_X7_rising_4_b F (f_X7_rising_4 F m9) x1 x2 σ = some z := h
    unfold f_X7_rising_4_b at h
    refine nd_iload_n dX7_rising_4 2 rfl ?_
    refine nd_aload_n dX7_rising_5 0 rfl ?_
    refine nd_get dX7_rising_6 gf_X7_9 (sh_57 t) rfl ?_
    refine nd_get dX7_rising_9 gf_X7_98 (sh_12 t) rfl ?_
    refine nd_get dX7_rising_12 gf_X7_32 (sh_21 t) rfl ?_
    refine nd_icmp_geN dX7_rising_15 93 (by decide) h (fun h => ?_) (fun h => ?_)
    · refine nd_iload_n dX7_rising_93 1 rfl ?_
      exact nd_iret dX7_rising_94 (Nat.zero_le _) (Nat.zero_le _) (vp_nar_int _) (by cases h; exact ⟨rfl, rfl, rfl⟩)
    · refine nd_aload_n dX7_rising_18 0 rfl ?_
      refine nd_get dX7_rising_19 gf_X7_15 (sh_57 t) rfl ?_
      refine nd_iload_n dX7_rising_22 2 rfl ?_
      refine nd_iconst dX7_rising_23 ic_1 ?_
      refine nd_iastoreN dX7_rising_24 (sh_58 t) h (fun σ1 h => ?_)
      refine nd_iconst dX7_rising_25 ic_0 ?_
      refine nd_istore_n (ls' := [(3, .int (0 : Int32)), (0, .ref 57), (1, .int x1), (2, .int x2)]) dX7_rising_26 (by decide) rfl ?_
      refine nd_sub [1, 2, 3, 0] rfl ?_
      exact b_X7_rising_27 F _ t hL hrec4 F _ _ _ _ h
set_option maxRecDepth 100000 in
set_option maxHeartbeats 4000000 in
theorem t_X7_rising (F : Nat) (t : List nd_S) (hL : (nd_SH ++ t).length < nd_ro) {z : Int32 × nd_Mem} (σ : nd_Mem) (h : f_X7_rising F σ = some z) : nd_Fn M_X7_rising (nd_rm 1) [.ref 57] (nd_SH ++ t) σ (nd_Pi (nd_SH ++ t) z) := by
  refine nd_Fn.ofV (ls := [(0, .ref 57)]) pl_X7_rising rfl (fun _ => Nat.le_of_ble_eq_true rfl) (fun _ => rfl) ?_
  unfold f_X7_rising at h
  refine nd_iconst dX7_rising_0 ic_0 ?_
  refine nd_istore_n (ls' := [(1, .int (0 : Int32)), (0, .ref 57)]) dX7_rising_1 (by decide) rfl ?_
  refine nd_iconst dX7_rising_2 ic_0 ?_
  refine nd_istore_n (ls' := [(2, .int (0 : Int32)), (1, .int (0 : Int32)), (0, .ref 57)]) dX7_rising_3 (by decide) rfl ?_
  refine nd_sub [2, 1, 0] rfl ?_
  exact b_X7_rising_4 F t hL F _ _ _ h
def f_X7_rowsBehind_111 (F : Nat) (σ : nd_Mem) : nd_Res := (some ((0 : Int32), σ))
def f_X7_rowsBehind_70_b (F : Nat) (rec70 : Int32 → Int32 → Int32 → Int32 → nd_Mem → nd_Res) (x1 : Int32) (x2 : Int32) (x3 : Int32) (x4 : Int32) (σ : nd_Mem) : nd_Res := (if x1 ≤ x4 then (nd_bind (f_X7_factorial F (x1 - x2) σ) fun r1 σ2 => (some (r1, σ2))) else (if x4 < 0 ∨ 196 ≤ (x4).toNatClampNeg then none else (nd_bind (f_J6_bitCount_0f7a4 F (σ 58 (x4).toNatClampNeg) σ) fun r4 σ5 => (if (1 : Int32) < r4 then (f_X7_rowsBehind_111 F σ5) else (if (x3 &&& (σ 58 (x4).toNatClampNeg)) = 0 then (nd_bind (f_X7_comesBack F x4 x1 σ5) fun r7 σ8 => (if r7 = 0 then (nd_bind (f_J6_bitCount_0f7a4 F (σ 58 (x4).toNatClampNeg) σ8) fun r10 σ11 => (rec70 x1 (x2 + r10) (x3 ||| (σ 58 (x4).toNatClampNeg)) (x4 + (1 : Int32)) σ11)) else (f_X7_rowsBehind_111 F σ8))) else (f_X7_rowsBehind_111 F σ5))))))
def f_X7_rowsBehind_70 (F : Nat) : Nat → Int32 → Int32 → Int32 → Int32 → nd_Mem → nd_Res
  | 0, _, _, _, _, _ => none
  | m9 + 1, x1, x2, x3, x4, σ => f_X7_rowsBehind_70_b F (f_X7_rowsBehind_70 F m9) x1 x2 x3 x4 σ
def f_X7_rowsBehind_10_b (F : Nat) (rec10 : Int32 → Int32 → nd_Mem → nd_Res) (x1 : Int32) (x2 : Int32) (σ : nd_Mem) : nd_Res := (if (σ 15 1) ≤ x2 then (f_X7_rowsBehind_70 F F x1 (0 : Int32) (0 : Int32) (0 : Int32) σ) else (nd_bind (f_X4_at F 15 16 6 x2 σ) fun r1 σ2 => (nd_bind (f_X4_at F 15 16 6 x2 σ2) fun r4 σ5 => (nd_bind (f_X7_join F (q_rem r1 (16 : Int32)) (r4 / (16 : Int32)) x1 σ5) fun r7 σ8 => (rec10 x1 (x2 + (1 : Int32)) σ8)))))
def f_X7_rowsBehind_10 (F : Nat) : Nat → Int32 → Int32 → nd_Mem → nd_Res
  | 0, _, _, _ => none
  | m9 + 1, x1, x2, σ => f_X7_rowsBehind_10_b F (f_X7_rowsBehind_10 F m9) x1 x2 σ
def f_X7_rowsBehind (F : Nat) (x1 : Int32) (σ : nd_Mem) : nd_Res := (nd_bind (f_J7_fill_53178 F 58 196 (0 : Int32) σ) fun r1 σ2 => (f_X7_rowsBehind_10 F F x1 (0 : Int32) σ2))
set_option maxRecDepth 100000 in
set_option maxHeartbeats 4000000 in
theorem b_X7_rowsBehind_111 (F : Nat) (t : List nd_S) (hL : (nd_SH ++ t).length < nd_ro) {z : Int32 × nd_Mem} (σ : nd_Mem) (h : f_X7_rowsBehind_111 F σ = some z) : nd_V M_X7_rowsBehind (nd_rm 1) (nd_Pi (nd_SH ++ t) z) 0 0 111 [(0, .ref 57)] [] (nd_SH ++ t) σ := by
  unfold f_X7_rowsBehind_111 at h
  refine nd_iconst dX7_rowsBehind_111 ic_0 ?_
  exact nd_iret dX7_rowsBehind_112 (Nat.zero_le _) (Nat.zero_le _) (vp_nar_int _) (by cases h; exact ⟨rfl, rfl, rfl⟩)
set_option maxRecDepth 100000 in
set_option maxHeartbeats 4000000 in
theorem b_X7_rowsBehind_70 (F : Nat) (t : List nd_S) (hL : (nd_SH ++ t).length < nd_ro) {z : Int32 × nd_Mem} (m9 : Nat) : ∀ (x1 : Int32) (x2 : Int32) (x3 : Int32) (x4 : Int32) (σ : nd_Mem), f_X7_rowsBehind_70 F m9 x1 x2 x3 x4 σ = some z → nd_V M_X7_rowsBehind (nd_rm 1) (nd_Pi (nd_SH ++ t) z) 0 0 70 [(0, .ref 57), (1, .int x1), (2, .int x2), (3, .int x3), (4, .int x4)] [] (nd_SH ++ t) σ := by
  induction m9 with
  | zero =>
    intro x1 x2 x3 x4 σ h
    have h : none = some z := h
    cases h
  | succ m9 hrec70 =>
    intro x1 x2 x3 x4 σ h
    have h : f_X7_rowsBehind_70_b F (f_X7_rowsBehind_70 F m9) x1 x2 x3 x4 σ = some z := h
    unfold f_X7_rowsBehind_70_b at h
    refine nd_iload dX7_rowsBehind_70 4 rfl ?_
    refine nd_iload_n dX7_rowsBehind_72 1 rfl ?_
    refine nd_icmp_geN dX7_rowsBehind_73 132 (by decide) h (fun h => ?_) (fun h => ?_)
    · refine nd_iload_n dX7_rowsBehind_132 1 rfl ?_
      refine nd_iload_n dX7_rowsBehind_133 2 rfl ?_
      refine nd_isub dX7_rowsBehind_134 ?_
      obtain ⟨r1, σ2, hc3, h⟩ := nd_bind_e h
      refine nd_csi [.int (x1 - x2)] [] dX7_rowsBehind_135 cl_X7_68 ⟨Nat.le_of_ble_eq_true rfl, Nat.le_of_ble_eq_true rfl⟩ rfl (Nat.le_of_ble_eq_true rfl) hL (t_X7_factorial F (nd_SH ++ t) hL _ _ hc3) ?_
      exact nd_iret dX7_rowsBehind_138 (Nat.zero_le _) (Nat.zero_le _) (vp_nar_int _) (by cases h; exact ⟨rfl, rfl, rfl⟩)
    · refine nd_aload_n dX7_rowsBehind_76 0 rfl ?_
      refine nd_get dX7_rowsBehind_77 gf_X7_15 (sh_57 t) rfl ?_
      refine nd_iload dX7_rowsBehind_80 4 rfl ?_
      refine nd_ialoadN dX7_rowsBehind_82 (sh_58 t) h (fun h => ?_)
      refine nd_istore (ls' := [(5, .int (σ 58 (x4).toNatClampNeg)), (0, .ref 57), (1, .int x1), (2, .int x2), (3, .int x3), (4, .int x4)]) dX7_rowsBehind_83 (by decide) rfl ?_
      refine nd_iload dX7_rowsBehind_85 0 rfl ?_
      obtain ⟨r4, σ5, hc6, h⟩ := nd_bind_e h
      refine nd_csi [.int (σ 58 (x4).toNatClampNeg)] [] dX7_rowsBehind_87 cl_X7_60 ⟨Nat.le_of_ble_eq_true rfl, Nat.le_of_ble_eq_true rfl⟩ rfl (Nat.le_of_ble_eq_true rfl) hL (t_J6_bitCount_0f7a4 F (nd_SH ++ t) hL _ _ hc6) ?_
      refine nd_iconst dX7_rowsBehind_90 ic_1 ?_
      refine nd_icmp_gtN dX7_rowsBehind_91 111 (by decide) h (fun h => ?_) (fun h => ?_)
      · refine nd_sub [1] rfl ?_
        exact b_X7_rowsBehind_111 F t hL _ h
      · refine nd_iload_n dX7_rowsBehind_94 4 rfl ?_
        refine nd_iload dX7_rowsBehind_95 0 rfl ?_
        refine nd_iand dX7_rowsBehind_97 ?_
        refine nd_if_neN dX7_rowsBehind_98 111 (by decide) h (fun h => ?_) (fun h => ?_)
        · refine nd_sub [1] rfl ?_
          exact b_X7_rowsBehind_111 F t hL _ h
        · refine nd_aload_n dX7_rowsBehind_101 1 rfl ?_
          refine nd_iload dX7_rowsBehind_102 5 rfl ?_
          refine nd_iload_n dX7_rowsBehind_104 2 rfl ?_
          obtain ⟨r7, σ8, hc9, h⟩ := nd_bind_e h
          refine nd_cvi [.int x4, .int x1] [] dX7_rowsBehind_105 cl_X7_71 (sh_57 t) ⟨Nat.le_of_ble_eq_true rfl, Nat.le_of_ble_eq_true rfl⟩ rfl (Nat.le_of_ble_eq_true rfl) hL (t_X7_comesBack F t hL _ _ _ hc9) ?_
          refine nd_if_eqN dX7_rowsBehind_108 113 (by decide) h (fun h => ?_) (fun h => ?_)
          · refine nd_iload_n dX7_rowsBehind_113 4 rfl ?_
            refine nd_iload dX7_rowsBehind_114 0 rfl ?_
            refine nd_ior dX7_rowsBehind_116 ?_
            refine nd_istore_n (ls' := [(3, .int (x3 ||| (σ 58 (x4).toNatClampNeg))), (5, .int (σ 58 (x4).toNatClampNeg)), (0, .ref 57), (1, .int x1), (2, .int x2), (4, .int x4)]) dX7_rowsBehind_117 (by decide) rfl ?_
            refine nd_iload_n dX7_rowsBehind_118 4 rfl ?_
            refine nd_iload dX7_rowsBehind_119 1 rfl ?_
            obtain ⟨r10, σ11, hc12, h⟩ := nd_bind_e h
            refine nd_csi [.int (σ 58 (x4).toNatClampNeg)] [.int x2] dX7_rowsBehind_121 cl_X7_60 ⟨Nat.le_of_ble_eq_true rfl, Nat.le_of_ble_eq_true rfl⟩ rfl (Nat.le_of_ble_eq_true rfl) hL (t_J6_bitCount_0f7a4 F (nd_SH ++ t) hL _ _ hc12) ?_
            refine nd_iadd dX7_rowsBehind_124 ?_
            refine nd_istore_n (ls' := [(2, .int (x2 + r10)), (3, .int (x3 ||| (σ 58 (x4).toNatClampNeg))), (5, .int (σ 58 (x4).toNatClampNeg)), (0, .ref 57), (1, .int x1), (4, .int x4)]) dX7_rowsBehind_125 (by decide) rfl ?_
            refine nd_iinc (v := (x4 + (1 : Int32))) (ls' := [(4, .int (x4 + (1 : Int32))), (2, .int (x2 + r10)), (3, .int (x3 ||| (σ 58 (x4).toNatClampNeg))), (5, .int (σ 58 (x4).toNatClampNeg)), (0, .ref 57), (1, .int x1)]) dX7_rowsBehind_126 5 rfl (congrArg (HAdd.hAdd _) ic_1) (by decide) rfl ?_
            refine nd_goto dX7_rowsBehind_129 70 (by decide) ?_
            refine nd_sub [4, 5, 1, 2, 0] rfl ?_
            exact hrec70 _ _ _ _ _ h
          · refine nd_sub [1] rfl ?_
            exact b_X7_rowsBehind_111 F t hL _ h
set_option maxRecDepth 100000 in
set_option maxHeartbeats 4000000 in
theorem b_X7_rowsBehind_10 (F : Nat) (t : List nd_S) (hL : (nd_SH ++ t).length < nd_ro) {z : Int32 × nd_Mem} (m9 : Nat) : ∀ (x1 : Int32) (x2 : Int32) (σ : nd_Mem), f_X7_rowsBehind_10 F m9 x1 x2 σ = some z → nd_V M_X7_rowsBehind (nd_rm 1) (nd_Pi (nd_SH ++ t) z) 0 0 10 [(0, .ref 57), (1, .int x1), (2, .int x2)] [] (nd_SH ++ t) σ := by
  induction m9 with
  | zero =>
    intro x1 x2 σ h
    have h : none = some z := h
    cases h
  | succ m9 hrec10 =>
    intro x1 x2 σ h
    have h : f_X7_rowsBehind_10_b F (f_X7_rowsBehind_10 F m9) x1 x2 σ = some z := h
    unfold f_X7_rowsBehind_10_b at h
    refine nd_iload_n dX7_rowsBehind_10 2 rfl ?_
    refine nd_aload_n dX7_rowsBehind_11 0 rfl ?_
    refine nd_get dX7_rowsBehind_12 gf_X7_9 (sh_57 t) rfl ?_
    refine nd_get dX7_rowsBehind_15 gf_X7_53 (sh_12 t) rfl ?_
    refine nd_get dX7_rowsBehind_18 gf_X7_32 (sh_15 t) rfl ?_
    refine nd_icmp_geN dX7_rowsBehind_21 63 (by decide) h (fun h => ?_) (fun h => ?_)
    · refine nd_iconst dX7_rowsBehind_63 ic_0 ?_
      refine nd_istore_n (ls' := [(2, .int (0 : Int32)), (0, .ref 57), (1, .int x1)]) dX7_rowsBehind_64 (by decide) rfl ?_
      refine nd_iconst dX7_rowsBehind_65 ic_0 ?_
      refine nd_istore_n (ls' := [(3, .int (0 : Int32)), (2, .int (0 : Int32)), (0, .ref 57), (1, .int x1)]) dX7_rowsBehind_66 (by decide) rfl ?_
      refine nd_iconst dX7_rowsBehind_67 ic_0 ?_
      refine nd_istore (ls' := [(4, .int (0 : Int32)), (3, .int (0 : Int32)), (2, .int (0 : Int32)), (0, .ref 57), (1, .int x1)]) dX7_rowsBehind_68 (by decide) rfl ?_
      refine nd_sub [3, 4, 2, 1, 0] rfl ?_
      exact b_X7_rowsBehind_70 F t hL F _ _ _ _ _ h
    · refine nd_aload_n dX7_rowsBehind_24 0 rfl ?_
      refine nd_aload_n dX7_rowsBehind_25 0 rfl ?_
      refine nd_get dX7_rowsBehind_26 gf_X7_9 (sh_57 t) rfl ?_
      refine nd_get dX7_rowsBehind_29 gf_X7_53 (sh_12 t) rfl ?_
      refine nd_iload_n dX7_rowsBehind_32 2 rfl ?_
      obtain ⟨r1, σ2, hc3, h⟩ := nd_bind_e h
      refine nd_cvi [.int x2] [.ref 57] dX7_rowsBehind_33 cl_X7_38 (sh_15 t) ⟨Nat.le_of_ble_eq_true rfl, Nat.le_of_ble_eq_true rfl⟩ rfl (Nat.le_of_ble_eq_true rfl) hL (t_X4_at F 15 16 6 (nd_SH ++ t) hL (is_Row_15 t) _ _ hc3) ?_
      refine nd_bipush dX7_rowsBehind_36 ib_16 ?_
      refine nd_irem dX7_rowsBehind_38 (by decide) ?_
      refine nd_aload_n dX7_rowsBehind_39 0 rfl ?_
      refine nd_get dX7_rowsBehind_40 gf_X7_9 (sh_57 t) rfl ?_
      refine nd_get dX7_rowsBehind_43 gf_X7_53 (sh_12 t) rfl ?_
      refine nd_iload_n dX7_rowsBehind_46 2 rfl ?_
      obtain ⟨r4, σ5, hc6, h⟩ := nd_bind_e h
      refine nd_cvi [.int x2] [.int (q_rem r1 (16 : Int32)), .ref 57] dX7_rowsBehind_47 cl_X7_38 (sh_15 t) ⟨Nat.le_of_ble_eq_true rfl, Nat.le_of_ble_eq_true rfl⟩ rfl (Nat.le_of_ble_eq_true rfl) hL (t_X4_at F 15 16 6 (nd_SH ++ t) hL (is_Row_15 t) _ _ hc6) ?_
      refine nd_bipush dX7_rowsBehind_50 ib_16 ?_
      refine nd_idiv dX7_rowsBehind_52 (by decide) ?_
      refine nd_iload_n dX7_rowsBehind_53 1 rfl ?_
      obtain ⟨r7, σ8, hc9, h⟩ := nd_bind_e h
      refine nd_cvv [.int (q_rem r1 (16 : Int32)), .int (r4 / (16 : Int32)), .int x1] [] dX7_rowsBehind_54 cl_X7_56 (sh_57 t) ⟨Nat.le_of_ble_eq_true rfl, Nat.le_of_ble_eq_true rfl⟩ rfl (Nat.le_of_ble_eq_true rfl) hL (t_X7_join F t hL _ _ _ _ hc9) ?_
      refine nd_iinc (v := (x2 + (1 : Int32))) (ls' := [(2, .int (x2 + (1 : Int32))), (0, .ref 57), (1, .int x1)]) dX7_rowsBehind_57 2 rfl (congrArg (HAdd.hAdd _) ic_1) (by decide) rfl ?_
      refine nd_goto dX7_rowsBehind_60 10 (by decide) ?_
      refine nd_sub [1, 2, 0] rfl ?_
      exact hrec10 _ _ _ h
set_option maxRecDepth 100000 in
set_option maxHeartbeats 4000000 in
theorem t_X7_rowsBehind (F : Nat) (t : List nd_S) (hL : (nd_SH ++ t).length < nd_ro) {z : Int32 × nd_Mem} (x1 : Int32) (σ : nd_Mem) (h : f_X7_rowsBehind F x1 σ = some z) : nd_Fn M_X7_rowsBehind (nd_rm 1) [.ref 57, .int x1] (nd_SH ++ t) σ (nd_Pi (nd_SH ++ t) z) := by
  refine nd_Fn.ofV (ls := [(0, .ref 57), (1, .int x1)]) pl_X7_rowsBehind rfl (fun _ => Nat.le_of_ble_eq_true rfl) (fun _ => rfl) ?_
  unfold f_X7_rowsBehind at h
  refine nd_aload_n dX7_rowsBehind_0 0 rfl ?_
  refine nd_get dX7_rowsBehind_1 gf_X7_15 (sh_57 t) rfl ?_
  refine nd_iconst dX7_rowsBehind_4 ic_0 ?_
  obtain ⟨r1, σ2, hc3, h⟩ := nd_bind_e h
  refine nd_csv [.ref 58, .int (0 : Int32)] [] dX7_rowsBehind_5 cl_X7_47 ⟨Nat.le_of_ble_eq_true rfl, Nat.le_of_ble_eq_true rfl⟩ rfl (Nat.le_of_ble_eq_true rfl) hL (t_J7_fill_53178 F 58 196 (nd_SH ++ t) hL (sh_58 t) _ _ hc3) ?_
  refine nd_iconst dX7_rowsBehind_8 ic_0 ?_
  refine nd_istore_n (ls' := [(2, .int (0 : Int32)), (0, .ref 57), (1, .int x1)]) dX7_rowsBehind_9 (by decide) rfl ?_
  refine nd_sub [1, 2, 0] rfl ?_
  exact b_X7_rowsBehind_10 F t hL F _ _ _ h
def f_X7_rowsSideBySide_180 (F : Nat) (rec109 : Int32 → Int32 → Int32 → Int32 → Int32 → Int32 → nd_Mem → nd_Res) (x1 : Int32) (x2 : Int32) (x3 : Int32) (x4 : Int32) (x5 : Int32) (x6 : Int32) (σ : nd_Mem) : nd_Res := (rec109 x1 x2 x3 x4 x5 (x6 + (1 : Int32)) σ)
def f_X7_rowsSideBySide_178 (F : Nat) (rec109 : Int32 → Int32 → Int32 → Int32 → Int32 → Int32 → nd_Mem → nd_Res) (x1 : Int32) (x2 : Int32) (x4 : Int32) (x5 : Int32) (x6 : Int32) (s0 : Int32) (s1 : Int32) (σ : nd_Mem) : nd_Res := (f_X7_rowsSideBySide_180 F rec109 x1 x2 (s1 + s0) x4 x5 x6 σ)
def f_X7_rowsSideBySide_109_b (F : Nat) (rec109 : Int32 → Int32 → Int32 → Int32 → Int32 → Int32 → nd_Mem → nd_Res) (x1 : Int32) (x2 : Int32) (x3 : Int32) (x4 : Int32) (x5 : Int32) (x6 : Int32) (σ : nd_Mem) : nd_Res := (if x1 ≤ x6 then (if (x5 / (2 : Int32)) = (x1 - x2) then (nd_bind (f_X7_factorial F x2 σ) fun r1 σ2 => (some ((r1 <<< (x3 &&& 31)), σ2))) else (some ((0 : Int32), σ))) else (if x6 < 0 ∨ 196 ≤ (x6).toNatClampNeg then none else (nd_bind (f_J6_bitCount_0f7a4 F (σ 58 (x6).toNatClampNeg) σ) fun r4 σ5 => (if r4 ≤ (2 : Int32) then (if ((x4 >>> (x6 &&& 31)) &&& (1 : Int32)) = 0 then (nd_bind (f_X7_groupOf F x6 x1 σ5) fun r7 σ8 => (if r4 ≤ 0 then (f_X7_rowsSideBySide_178 F rec109 x1 (x2 + (1 : Int32)) (x4 ||| r7) (x5 + r4) x6 (0 : Int32) x3 σ8) else (f_X7_rowsSideBySide_178 F rec109 x1 (x2 + (1 : Int32)) (x4 ||| r7) (x5 + r4) x6 (1 : Int32) x3 σ8))) else (f_X7_rowsSideBySide_180 F rec109 x1 x2 x3 x4 (x5 + r4) x6 σ5)) else (some ((0 : Int32), σ5))))))
def f_X7_rowsSideBySide_109 (F : Nat) : Nat → Int32 → Int32 → Int32 → Int32 → Int32 → Int32 → nd_Mem → nd_Res
  | 0, _, _, _, _, _, _, _ => none
  | m9 + 1, x1, x2, x3, x4, x5, x6, σ => f_X7_rowsSideBySide_109_b F (f_X7_rowsSideBySide_109 F m9) x1 x2 x3 x4 x5 x6 σ
def f_X7_rowsSideBySide_10_b (F : Nat) (rec10 : Int32 → Int32 → nd_Mem → nd_Res) (x1 : Int32) (x2 : Int32) (σ : nd_Mem) : nd_Res := (if (σ 15 1) ≤ x2 then (f_X7_rowsSideBySide_109 F F x1 (0 : Int32) (0 : Int32) (0 : Int32) (0 : Int32) (0 : Int32) σ) else (nd_bind (f_X4_at F 15 16 6 x2 σ) fun r1 σ2 => (nd_bind (f_X4_at F 15 16 6 x2 σ2) fun r4 σ5 => (nd_bind (f_X7_join F (r1 / (16 : Int32)) (q_rem r4 (16 : Int32)) x1 σ5) fun r7 σ8 => (nd_bind (f_X4_at F 15 16 6 x2 σ8) fun r10 σ11 => (nd_bind (f_X4_at F 15 16 6 x2 σ11) fun r13 σ14 => (nd_bind (f_X7_join F (q_rem r10 (16 : Int32)) (r13 / (16 : Int32)) x1 σ14) fun r16 σ17 => (rec10 x1 (x2 + (1 : Int32)) σ17))))))))
def f_X7_rowsSideBySide_10 (F : Nat) : Nat → Int32 → Int32 → nd_Mem → nd_Res
  | 0, _, _, _ => none
  | m9 + 1, x1, x2, σ => f_X7_rowsSideBySide_10_b F (f_X7_rowsSideBySide_10 F m9) x1 x2 σ
def f_X7_rowsSideBySide (F : Nat) (x1 : Int32) (σ : nd_Mem) : nd_Res := (nd_bind (f_J7_fill_53178 F 58 196 (0 : Int32) σ) fun r1 σ2 => (f_X7_rowsSideBySide_10 F F x1 (0 : Int32) σ2))
set_option maxRecDepth 100000 in
set_option maxHeartbeats 4000000 in
theorem b_X7_rowsSideBySide_180 (F : Nat) (rec109 : Int32 → Int32 → Int32 → Int32 → Int32 → Int32 → nd_Mem → nd_Res) (t : List nd_S) (hL : (nd_SH ++ t).length < nd_ro) {z : Int32 × nd_Mem} (hrec109 : ∀ (x1 : Int32) (x2 : Int32) (x3 : Int32) (x4 : Int32) (x5 : Int32) (x6 : Int32) (σ : nd_Mem), rec109 x1 x2 x3 x4 x5 x6 σ = some z → nd_V M_X7_rowsSideBySide (nd_rm 1) (nd_Pi (nd_SH ++ t) z) 0 0 109 [(0, .ref 57), (1, .int x1), (2, .int x2), (3, .int x3), (4, .int x4), (5, .int x5), (6, .int x6)] [] (nd_SH ++ t) σ) (x1 : Int32) (x2 : Int32) (x3 : Int32) (x4 : Int32) (x5 : Int32) (x6 : Int32) (σ : nd_Mem) (h : f_X7_rowsSideBySide_180 F rec109 x1 x2 x3 x4 x5 x6 σ = some z) : nd_V M_X7_rowsSideBySide (nd_rm 1) (nd_Pi (nd_SH ++ t) z) 0 0 180 [(0, .ref 57), (1, .int x1), (2, .int x2), (3, .int x3), (4, .int x4), (5, .int x5), (6, .int x6)] [] (nd_SH ++ t) σ := by
  unfold f_X7_rowsSideBySide_180 at h
  refine nd_iinc (v := (x6 + (1 : Int32))) (ls' := [(6, .int (x6 + (1 : Int32))), (0, .ref 57), (1, .int x1), (2, .int x2), (3, .int x3), (4, .int x4), (5, .int x5)]) dX7_rowsSideBySide_180 6 rfl (congrArg (HAdd.hAdd _) ic_1) (by decide) rfl ?_
  refine nd_goto dX7_rowsSideBySide_183 109 (by decide) ?_
  refine nd_sub [1, 2, 3, 4, 5, 6, 0] rfl ?_
  exact hrec109 _ _ _ _ _ _ _ h
set_option maxRecDepth 100000 in
set_option maxHeartbeats 4000000 in
theorem b_X7_rowsSideBySide_178 (F : Nat) (rec109 : Int32 → Int32 → Int32 → Int32 → Int32 → Int32 → nd_Mem → nd_Res) (t : List nd_S) (hL : (nd_SH ++ t).length < nd_ro) {z : Int32 × nd_Mem} (hrec109 : ∀ (x1 : Int32) (x2 : Int32) (x3 : Int32) (x4 : Int32) (x5 : Int32) (x6 : Int32) (σ : nd_Mem), rec109 x1 x2 x3 x4 x5 x6 σ = some z → nd_V M_X7_rowsSideBySide (nd_rm 1) (nd_Pi (nd_SH ++ t) z) 0 0 109 [(0, .ref 57), (1, .int x1), (2, .int x2), (3, .int x3), (4, .int x4), (5, .int x5), (6, .int x6)] [] (nd_SH ++ t) σ) (x1 : Int32) (x2 : Int32) (x4 : Int32) (x5 : Int32) (x6 : Int32) (s0 : Int32) (s1 : Int32) (σ : nd_Mem) (h : f_X7_rowsSideBySide_178 F rec109 x1 x2 x4 x5 x6 s0 s1 σ = some z) : nd_V M_X7_rowsSideBySide (nd_rm 1) (nd_Pi (nd_SH ++ t) z) 0 0 178 [(0, .ref 57), (1, .int x1), (2, .int x2), (4, .int x4), (5, .int x5), (6, .int x6)] [.int s0, .int s1] (nd_SH ++ t) σ := by
  unfold f_X7_rowsSideBySide_178 at h
  refine nd_iadd dX7_rowsSideBySide_178 ?_
  refine nd_istore_n (ls' := [(3, .int (s1 + s0)), (0, .ref 57), (1, .int x1), (2, .int x2), (4, .int x4), (5, .int x5), (6, .int x6)]) dX7_rowsSideBySide_179 (by decide) rfl ?_
  refine nd_sub [1, 2, 3, 0, 4, 5, 6] rfl ?_
  exact b_X7_rowsSideBySide_180 F _ t hL hrec109 _ _ _ _ _ _ _ h
set_option maxRecDepth 100000 in
set_option maxHeartbeats 4000000 in
theorem b_X7_rowsSideBySide_109 (F : Nat) (t : List nd_S) (hL : (nd_SH ++ t).length < nd_ro) {z : Int32 × nd_Mem} (m9 : Nat) : ∀ (x1 : Int32) (x2 : Int32) (x3 : Int32) (x4 : Int32) (x5 : Int32) (x6 : Int32) (σ : nd_Mem), f_X7_rowsSideBySide_109 F m9 x1 x2 x3 x4 x5 x6 σ = some z → nd_V M_X7_rowsSideBySide (nd_rm 1) (nd_Pi (nd_SH ++ t) z) 0 0 109 [(0, .ref 57), (1, .int x1), (2, .int x2), (3, .int x3), (4, .int x4), (5, .int x5), (6, .int x6)] [] (nd_SH ++ t) σ := by
  induction m9 with
  | zero =>
    intro x1 x2 x3 x4 x5 x6 σ h
    have h : none = some z := h
    cases h
  | succ m9 hrec109 =>
    intro x1 x2 x3 x4 x5 x6 σ h
    have h : f_X7_rowsSideBySide_109_b F (f_X7_rowsSideBySide_109 F m9) x1 x2 x3 x4 x5 x6 σ = some z := h
    unfold f_X7_rowsSideBySide_109_b at h
    refine nd_iload dX7_rowsSideBySide_109 6 rfl ?_
    refine nd_iload_n dX7_rowsSideBySide_111 1 rfl ?_
    refine nd_icmp_geN dX7_rowsSideBySide_112 186 (by decide) h (fun h => ?_) (fun h => ?_)
    · refine nd_iload dX7_rowsSideBySide_186 5 rfl ?_
      refine nd_iconst dX7_rowsSideBySide_188 ic_2 ?_
      refine nd_idiv dX7_rowsSideBySide_189 (by decide) ?_
      refine nd_iload_n dX7_rowsSideBySide_190 1 rfl ?_
      refine nd_iload_n dX7_rowsSideBySide_191 2 rfl ?_
      refine nd_isub dX7_rowsSideBySide_192 ?_
      refine nd_icmp_neN dX7_rowsSideBySide_193 205 (by decide) h (fun h => ?_) (fun h => ?_)
      · refine nd_iconst dX7_rowsSideBySide_205 ic_0 ?_
        exact nd_iret dX7_rowsSideBySide_206 (Nat.zero_le _) (Nat.zero_le _) (vp_nar_int _) (by cases h; exact ⟨rfl, rfl, rfl⟩)
      · refine nd_iload_n dX7_rowsSideBySide_196 2 rfl ?_
        obtain ⟨r1, σ2, hc3, h⟩ := nd_bind_e h
        refine nd_csi [.int x2] [] dX7_rowsSideBySide_197 cl_X7_68 ⟨Nat.le_of_ble_eq_true rfl, Nat.le_of_ble_eq_true rfl⟩ rfl (Nat.le_of_ble_eq_true rfl) hL (t_X7_factorial F (nd_SH ++ t) hL _ _ hc3) ?_
        refine nd_iload_n dX7_rowsSideBySide_200 3 rfl ?_
        refine nd_ishl dX7_rowsSideBySide_201 ?_
        refine nd_goto dX7_rowsSideBySide_202 206 (by decide) ?_
        exact nd_iret dX7_rowsSideBySide_206 (Nat.zero_le _) (Nat.zero_le _) (vp_nar_int _) (by cases h; exact ⟨rfl, rfl, rfl⟩)
    · refine nd_aload_n dX7_rowsSideBySide_115 0 rfl ?_
      refine nd_get dX7_rowsSideBySide_116 gf_X7_15 (sh_57 t) rfl ?_
      refine nd_iload dX7_rowsSideBySide_119 6 rfl ?_
      refine nd_ialoadN dX7_rowsSideBySide_121 (sh_58 t) h (fun h => ?_)
      obtain ⟨r4, σ5, hc6, h⟩ := nd_bind_e h
      refine nd_csi [.int (σ 58 (x6).toNatClampNeg)] [] dX7_rowsSideBySide_122 cl_X7_60 ⟨Nat.le_of_ble_eq_true rfl, Nat.le_of_ble_eq_true rfl⟩ rfl (Nat.le_of_ble_eq_true rfl) hL (t_J6_bitCount_0f7a4 F (nd_SH ++ t) hL _ _ hc6) ?_
      refine nd_istore (ls' := [(7, .int r4), (0, .ref 57), (1, .int x1), (2, .int x2), (3, .int x3), (4, .int x4), (5, .int x5), (6, .int x6)]) dX7_rowsSideBySide_125 (by decide) rfl ?_
      refine nd_iload dX7_rowsSideBySide_127 0 rfl ?_
      refine nd_iconst dX7_rowsSideBySide_129 ic_2 ?_
      refine nd_icmp_leN dX7_rowsSideBySide_130 135 (by decide) h (fun h => ?_) (fun h => ?_)
      · refine nd_iload dX7_rowsSideBySide_135 6 rfl ?_
        refine nd_iload dX7_rowsSideBySide_137 0 rfl ?_
        refine nd_iadd dX7_rowsSideBySide_139 ?_
        refine nd_istore (ls' := [(5, .int (x5 + r4)), (7, .int r4), (0, .ref 57), (1, .int x1), (2, .int x2), (3, .int x3), (4, .int x4), (6, .int x6)]) dX7_rowsSideBySide_140 (by decide) rfl ?_
        refine nd_iload dX7_rowsSideBySide_142 6 rfl ?_
        refine nd_iload dX7_rowsSideBySide_144 7 rfl ?_
        refine nd_ishr dX7_rowsSideBySide_146 ?_
        refine nd_iconst dX7_rowsSideBySide_147 ic_1 ?_
        refine nd_iand dX7_rowsSideBySide_148 ?_
        refine nd_if_neN dX7_rowsSideBySide_149 180 (by decide) h (fun h => ?_) (fun h => ?_)
        · refine nd_sub [2, 3, 4, 5, 6, 0, 7] rfl ?_
          exact b_X7_rowsSideBySide_180 F _ t hL hrec109 _ _ _ _ _ _ _ h
        · refine nd_iload dX7_rowsSideBySide_152 6 rfl ?_
          refine nd_aload_n dX7_rowsSideBySide_154 2 rfl ?_
          refine nd_iload dX7_rowsSideBySide_155 7 rfl ?_
          refine nd_iload_n dX7_rowsSideBySide_157 3 rfl ?_
          obtain ⟨r7, σ8, hc9, h⟩ := nd_bind_e h
          refine nd_cvi [.int x6, .int x1] [.int x4] dX7_rowsSideBySide_158 cl_X7_65 (sh_57 t) ⟨Nat.le_of_ble_eq_true rfl, Nat.le_of_ble_eq_true rfl⟩ rfl (Nat.le_of_ble_eq_true rfl) hL (t_X7_groupOf F t hL _ _ _ hc9) ?_
          refine nd_ior dX7_rowsSideBySide_161 ?_
          refine nd_istore (ls' := [(4, .int (x4 ||| r7)), (5, .int (x5 + r4)), (7, .int r4), (0, .ref 57), (1, .int x1), (2, .int x2), (3, .int x3), (6, .int x6)]) dX7_rowsSideBySide_162 (by decide) rfl ?_
          refine nd_iinc (v := (x2 + (1 : Int32))) (ls' := [(2, .int (x2 + (1 : Int32))), (4, .int (x4 ||| r7)), (5, .int (x5 + r4)), (7, .int r4), (0, .ref 57), (1, .int x1), (3, .int x3), (6, .int x6)]) dX7_rowsSideBySide_164 5 rfl (congrArg (HAdd.hAdd _) ic_1) (by decide) rfl ?_
          refine nd_iload_n dX7_rowsSideBySide_167 6 rfl ?_
          refine nd_iload dX7_rowsSideBySide_168 3 rfl ?_
          refine nd_if_leN dX7_rowsSideBySide_170 177 (by decide) h (fun h => ?_) (fun h => ?_)
          · refine nd_iconst dX7_rowsSideBySide_177 ic_0 ?_
            refine nd_sub [4, 5, 0, 1, 2, 7] rfl ?_
            exact b_X7_rowsSideBySide_178 F _ t hL hrec109 _ _ _ _ _ _ _ _ h
          · refine nd_iconst dX7_rowsSideBySide_173 ic_1 ?_
            refine nd_goto dX7_rowsSideBySide_174 178 (by decide) ?_
            refine nd_sub [4, 5, 0, 1, 2, 7] rfl ?_
            exact b_X7_rowsSideBySide_178 F _ t hL hrec109 _ _ _ _ _ _ _ _ h
      · refine nd_iconst dX7_rowsSideBySide_133 ic_0 ?_
        exact nd_iret dX7_rowsSideBySide_134 (Nat.zero_le _) (Nat.zero_le _) (vp_nar_int _) (by cases h; exact ⟨rfl, rfl, rfl⟩)
set_option maxRecDepth 100000 in
set_option maxHeartbeats 4000000 in
theorem b_X7_rowsSideBySide_10 (F : Nat) (t : List nd_S) (hL : (nd_SH ++ t).length < nd_ro) {z : Int32 × nd_Mem} (m9 : Nat) : ∀ (x1 : Int32) (x2 : Int32) (σ : nd_Mem), f_X7_rowsSideBySide_10 F m9 x1 x2 σ = some z → nd_V M_X7_rowsSideBySide (nd_rm 1) (nd_Pi (nd_SH ++ t) z) 0 0 10 [(0, .ref 57), (1, .int x1), (2, .int x2)] [] (nd_SH ++ t) σ := by
  induction m9 with
  | zero =>
    intro x1 x2 σ h
    have h : none = some z := h
    cases h
  | succ m9 hrec10 =>
    intro x1 x2 σ h
    have h : f_X7_rowsSideBySide_10_b F (f_X7_rowsSideBySide_10 F m9) x1 x2 σ = some z := h
    unfold f_X7_rowsSideBySide_10_b at h
    refine nd_iload_n dX7_rowsSideBySide_10 2 rfl ?_
    refine nd_aload_n dX7_rowsSideBySide_11 0 rfl ?_
    refine nd_get dX7_rowsSideBySide_12 gf_X7_9 (sh_57 t) rfl ?_
    refine nd_get dX7_rowsSideBySide_15 gf_X7_53 (sh_12 t) rfl ?_
    refine nd_get dX7_rowsSideBySide_18 gf_X7_32 (sh_15 t) rfl ?_
    refine nd_icmp_geN dX7_rowsSideBySide_21 96 (by decide) h (fun h => ?_) (fun h => ?_)
    · refine nd_iconst dX7_rowsSideBySide_96 ic_0 ?_
      refine nd_istore_n (ls' := [(2, .int (0 : Int32)), (0, .ref 57), (1, .int x1)]) dX7_rowsSideBySide_97 (by decide) rfl ?_
      refine nd_iconst dX7_rowsSideBySide_98 ic_0 ?_
      refine nd_istore_n (ls' := [(3, .int (0 : Int32)), (2, .int (0 : Int32)), (0, .ref 57), (1, .int x1)]) dX7_rowsSideBySide_99 (by decide) rfl ?_
      refine nd_iconst dX7_rowsSideBySide_100 ic_0 ?_
      refine nd_istore (ls' := [(4, .int (0 : Int32)), (3, .int (0 : Int32)), (2, .int (0 : Int32)), (0, .ref 57), (1, .int x1)]) dX7_rowsSideBySide_101 (by decide) rfl ?_
      refine nd_iconst dX7_rowsSideBySide_103 ic_0 ?_
      refine nd_istore (ls' := [(5, .int (0 : Int32)), (4, .int (0 : Int32)), (3, .int (0 : Int32)), (2, .int (0 : Int32)), (0, .ref 57), (1, .int x1)]) dX7_rowsSideBySide_104 (by decide) rfl ?_
      refine nd_iconst dX7_rowsSideBySide_106 ic_0 ?_
      refine nd_istore (ls' := [(6, .int (0 : Int32)), (5, .int (0 : Int32)), (4, .int (0 : Int32)), (3, .int (0 : Int32)), (2, .int (0 : Int32)), (0, .ref 57), (1, .int x1)]) dX7_rowsSideBySide_107 (by decide) rfl ?_
      refine nd_sub [5, 6, 4, 3, 2, 1, 0] rfl ?_
      exact b_X7_rowsSideBySide_109 F t hL F _ _ _ _ _ _ _ h
    · refine nd_aload_n dX7_rowsSideBySide_24 0 rfl ?_
      refine nd_aload_n dX7_rowsSideBySide_25 0 rfl ?_
      refine nd_get dX7_rowsSideBySide_26 gf_X7_9 (sh_57 t) rfl ?_
      refine nd_get dX7_rowsSideBySide_29 gf_X7_53 (sh_12 t) rfl ?_
      refine nd_iload_n dX7_rowsSideBySide_32 2 rfl ?_
      obtain ⟨r1, σ2, hc3, h⟩ := nd_bind_e h
      refine nd_cvi [.int x2] [.ref 57] dX7_rowsSideBySide_33 cl_X7_38 (sh_15 t) ⟨Nat.le_of_ble_eq_true rfl, Nat.le_of_ble_eq_true rfl⟩ rfl (Nat.le_of_ble_eq_true rfl) hL (t_X4_at F 15 16 6 (nd_SH ++ t) hL (is_Row_15 t) _ _ hc3) ?_
      refine nd_bipush dX7_rowsSideBySide_36 ib_16 ?_
      refine nd_idiv dX7_rowsSideBySide_38 (by decide) ?_
      refine nd_aload_n dX7_rowsSideBySide_39 0 rfl ?_
      refine nd_get dX7_rowsSideBySide_40 gf_X7_9 (sh_57 t) rfl ?_
      refine nd_get dX7_rowsSideBySide_43 gf_X7_53 (sh_12 t) rfl ?_
      refine nd_iload_n dX7_rowsSideBySide_46 2 rfl ?_
      obtain ⟨r4, σ5, hc6, h⟩ := nd_bind_e h
      refine nd_cvi [.int x2] [.int (r1 / (16 : Int32)), .ref 57] dX7_rowsSideBySide_47 cl_X7_38 (sh_15 t) ⟨Nat.le_of_ble_eq_true rfl, Nat.le_of_ble_eq_true rfl⟩ rfl (Nat.le_of_ble_eq_true rfl) hL (t_X4_at F 15 16 6 (nd_SH ++ t) hL (is_Row_15 t) _ _ hc6) ?_
      refine nd_bipush dX7_rowsSideBySide_50 ib_16 ?_
      refine nd_irem dX7_rowsSideBySide_52 (by decide) ?_
      refine nd_iload_n dX7_rowsSideBySide_53 1 rfl ?_
      obtain ⟨r7, σ8, hc9, h⟩ := nd_bind_e h
      refine nd_cvv [.int (r1 / (16 : Int32)), .int (q_rem r4 (16 : Int32)), .int x1] [] dX7_rowsSideBySide_54 cl_X7_56 (sh_57 t) ⟨Nat.le_of_ble_eq_true rfl, Nat.le_of_ble_eq_true rfl⟩ rfl (Nat.le_of_ble_eq_true rfl) hL (t_X7_join F t hL _ _ _ _ hc9) ?_
      refine nd_aload_n dX7_rowsSideBySide_57 0 rfl ?_
      refine nd_aload_n dX7_rowsSideBySide_58 0 rfl ?_
      refine nd_get dX7_rowsSideBySide_59 gf_X7_9 (sh_57 t) rfl ?_
      refine nd_get dX7_rowsSideBySide_62 gf_X7_53 (sh_12 t) rfl ?_
      refine nd_iload_n dX7_rowsSideBySide_65 2 rfl ?_
      obtain ⟨r10, σ11, hc12, h⟩ := nd_bind_e h
      refine nd_cvi [.int x2] [.ref 57] dX7_rowsSideBySide_66 cl_X7_38 (sh_15 t) ⟨Nat.le_of_ble_eq_true rfl, Nat.le_of_ble_eq_true rfl⟩ rfl (Nat.le_of_ble_eq_true rfl) hL (t_X4_at F 15 16 6 (nd_SH ++ t) hL (is_Row_15 t) _ _ hc12) ?_
      refine nd_bipush dX7_rowsSideBySide_69 ib_16 ?_
      refine nd_irem dX7_rowsSideBySide_71 (by decide) ?_
      refine nd_aload_n dX7_rowsSideBySide_72 0 rfl ?_
      refine nd_get dX7_rowsSideBySide_73 gf_X7_9 (sh_57 t) rfl ?_
      refine nd_get dX7_rowsSideBySide_76 gf_X7_53 (sh_12 t) rfl ?_
      refine nd_iload_n dX7_rowsSideBySide_79 2 rfl ?_
      obtain ⟨r13, σ14, hc15, h⟩ := nd_bind_e h
      refine nd_cvi [.int x2] [.int (q_rem r10 (16 : Int32)), .ref 57] dX7_rowsSideBySide_80 cl_X7_38 (sh_15 t) ⟨Nat.le_of_ble_eq_true rfl, Nat.le_of_ble_eq_true rfl⟩ rfl (Nat.le_of_ble_eq_true rfl) hL (t_X4_at F 15 16 6 (nd_SH ++ t) hL (is_Row_15 t) _ _ hc15) ?_
      refine nd_bipush dX7_rowsSideBySide_83 ib_16 ?_
      refine nd_idiv dX7_rowsSideBySide_85 (by decide) ?_
      refine nd_iload_n dX7_rowsSideBySide_86 1 rfl ?_
      obtain ⟨r16, σ17, hc18, h⟩ := nd_bind_e h
      refine nd_cvv [.int (q_rem r10 (16 : Int32)), .int (r13 / (16 : Int32)), .int x1] [] dX7_rowsSideBySide_87 cl_X7_56 (sh_57 t) ⟨Nat.le_of_ble_eq_true rfl, Nat.le_of_ble_eq_true rfl⟩ rfl (Nat.le_of_ble_eq_true rfl) hL (t_X7_join F t hL _ _ _ _ hc18) ?_
      refine nd_iinc (v := (x2 + (1 : Int32))) (ls' := [(2, .int (x2 + (1 : Int32))), (0, .ref 57), (1, .int x1)]) dX7_rowsSideBySide_90 2 rfl (congrArg (HAdd.hAdd _) ic_1) (by decide) rfl ?_
      refine nd_goto dX7_rowsSideBySide_93 10 (by decide) ?_
      refine nd_sub [1, 2, 0] rfl ?_
      exact hrec10 _ _ _ h
set_option maxRecDepth 100000 in
set_option maxHeartbeats 4000000 in
theorem t_X7_rowsSideBySide (F : Nat) (t : List nd_S) (hL : (nd_SH ++ t).length < nd_ro) {z : Int32 × nd_Mem} (x1 : Int32) (σ : nd_Mem) (h : f_X7_rowsSideBySide F x1 σ = some z) : nd_Fn M_X7_rowsSideBySide (nd_rm 1) [.ref 57, .int x1] (nd_SH ++ t) σ (nd_Pi (nd_SH ++ t) z) := by
  refine nd_Fn.ofV (ls := [(0, .ref 57), (1, .int x1)]) pl_X7_rowsSideBySide rfl (fun _ => Nat.le_of_ble_eq_true rfl) (fun _ => rfl) ?_
  unfold f_X7_rowsSideBySide at h
  refine nd_aload_n dX7_rowsSideBySide_0 0 rfl ?_
  refine nd_get dX7_rowsSideBySide_1 gf_X7_15 (sh_57 t) rfl ?_
  refine nd_iconst dX7_rowsSideBySide_4 ic_0 ?_
  obtain ⟨r1, σ2, hc3, h⟩ := nd_bind_e h
  refine nd_csv [.ref 58, .int (0 : Int32)] [] dX7_rowsSideBySide_5 cl_X7_47 ⟨Nat.le_of_ble_eq_true rfl, Nat.le_of_ble_eq_true rfl⟩ rfl (Nat.le_of_ble_eq_true rfl) hL (t_J7_fill_53178 F 58 196 (nd_SH ++ t) hL (sh_58 t) _ _ hc3) ?_
  refine nd_iconst dX7_rowsSideBySide_8 ic_0 ?_
  refine nd_istore_n (ls' := [(2, .int (0 : Int32)), (0, .ref 57), (1, .int x1)]) dX7_rowsSideBySide_9 (by decide) rfl ?_
  refine nd_sub [1, 2, 0] rfl ?_
  exact b_X7_rowsSideBySide_10 F t hL F _ _ _ h
def f_X7_see_31_b (F : Nat) (rec31 : Int32 → Int32 → Int32 → nd_Mem → nd_Res) (x2 : Int32) (x3 : Int32) (x4 : Int32) (σ : nd_Mem) : nd_Res := (if x2 ≤ x4 then (some ((1 : Int32), σ)) else (nd_bind (f_X4_at F 21 22 10 x4 σ) fun r1 σ2 => (if r1 < x3 then (rec31 x2 x3 (x4 + (1 : Int32)) σ2) else (some ((0 : Int32), σ2)))))
def f_X7_see_31 (F : Nat) : Nat → Int32 → Int32 → Int32 → nd_Mem → nd_Res
  | 0, _, _, _, _ => none
  | m9 + 1, x2, x3, x4, σ => f_X7_see_31_b F (f_X7_see_31 F m9) x2 x3 x4 σ
def f_X7_see (F : Nat) (x1 : Int32) (x2 : Int32) (σ : nd_Mem) : nd_Res := (nd_bind (f_X4_at F 21 22 10 x1 σ) fun r1 σ2 => (nd_bind (f_X4_at F 21 22 10 x2 σ2) fun r4 σ5 => (f_X7_see_31 F F x2 (if r4 < r1 then r4 else r1) (x1 + (1 : Int32)) σ5)))
set_option maxRecDepth 100000 in
set_option maxHeartbeats 4000000 in
theorem b_X7_see_31 (F : Nat) (t : List nd_S) (hL : (nd_SH ++ t).length < nd_ro) {z : Int32 × nd_Mem} (m9 : Nat) : ∀ (x2 : Int32) (x3 : Int32) (x4 : Int32) (σ : nd_Mem), f_X7_see_31 F m9 x2 x3 x4 σ = some z → nd_V M_X7_see (nd_rm 1) (nd_Pi (nd_SH ++ t) z) 0 0 31 [(0, .ref 57), (2, .int x2), (3, .int x3), (4, .int x4)] [] (nd_SH ++ t) σ := by
  induction m9 with
  | zero =>
    intro x2 x3 x4 σ h
    have h : none = some z := h
    cases h
  | succ m9 hrec31 =>
    intro x2 x3 x4 σ h
    have h : f_X7_see_31_b F (f_X7_see_31 F m9) x2 x3 x4 σ = some z := h
    unfold f_X7_see_31_b at h
    refine nd_iload dX7_see_31 3 rfl ?_
    refine nd_iload_n dX7_see_33 1 rfl ?_
    refine nd_icmp_geN dX7_see_34 61 (by decide) h (fun h => ?_) (fun h => ?_)
    · refine nd_iconst dX7_see_61 ic_1 ?_
      exact nd_iret dX7_see_62 (Nat.zero_le _) (Nat.zero_le _) rfl (by cases h; exact ⟨rfl, rfl, rfl⟩)
    · refine nd_aload_n dX7_see_37 0 rfl ?_
      refine nd_get dX7_see_38 gf_X7_9 (sh_57 t) rfl ?_
      refine nd_get dX7_see_41 gf_X7_98 (sh_12 t) rfl ?_
      refine nd_iload dX7_see_44 3 rfl ?_
      obtain ⟨r1, σ2, hc3, h⟩ := nd_bind_e h
      refine nd_cvi [.int x4] [] dX7_see_46 cl_X7_38 (sh_21 t) ⟨Nat.le_of_ble_eq_true rfl, Nat.le_of_ble_eq_true rfl⟩ rfl (Nat.le_of_ble_eq_true rfl) hL (t_X4_at F 21 22 10 (nd_SH ++ t) hL (is_Row_21 t) _ _ hc3) ?_
      refine nd_iload_n dX7_see_49 2 rfl ?_
      refine nd_icmp_ltN dX7_see_50 55 (by decide) h (fun h => ?_) (fun h => ?_)
      · refine nd_iinc (v := (x4 + (1 : Int32))) (ls' := [(4, .int (x4 + (1 : Int32))), (0, .ref 57), (2, .int x2), (3, .int x3)]) dX7_see_55 3 rfl (congrArg (HAdd.hAdd _) ic_1) (by decide) rfl ?_
        refine nd_goto dX7_see_58 31 (by decide) ?_
        refine nd_sub [1, 2, 3, 0] rfl ?_
        exact hrec31 _ _ _ _ h
      · refine nd_iconst dX7_see_53 ic_0 ?_
        exact nd_iret dX7_see_54 (Nat.zero_le _) (Nat.zero_le _) rfl (by cases h; exact ⟨rfl, rfl, rfl⟩)
set_option maxRecDepth 100000 in
set_option maxHeartbeats 4000000 in
theorem t_X7_see (F : Nat) (t : List nd_S) (hL : (nd_SH ++ t).length < nd_ro) {z : Int32 × nd_Mem} (x1 : Int32) (x2 : Int32) (σ : nd_Mem) (h : f_X7_see F x1 x2 σ = some z) : nd_Fn M_X7_see (nd_rm 1) [.ref 57, .int x1, .int x2] (nd_SH ++ t) σ (nd_Pi (nd_SH ++ t) z) := by
  refine nd_Fn.ofV (ls := [(0, .ref 57), (1, .int x1), (2, .int x2)]) pl_X7_see rfl (fun _ => Nat.le_of_ble_eq_true rfl) (fun _ => rfl) ?_
  unfold f_X7_see at h
  refine nd_aload_n dX7_see_0 0 rfl ?_
  refine nd_get dX7_see_1 gf_X7_9 (sh_57 t) rfl ?_
  refine nd_get dX7_see_4 gf_X7_98 (sh_12 t) rfl ?_
  refine nd_iload_n dX7_see_7 1 rfl ?_
  obtain ⟨r1, σ2, hc3, h⟩ := nd_bind_e h
  refine nd_cvi [.int x1] [] dX7_see_8 cl_X7_38 (sh_21 t) ⟨Nat.le_of_ble_eq_true rfl, Nat.le_of_ble_eq_true rfl⟩ rfl (Nat.le_of_ble_eq_true rfl) hL (t_X4_at F 21 22 10 (nd_SH ++ t) hL (is_Row_21 t) _ _ hc3) ?_
  refine nd_aload_n dX7_see_11 0 rfl ?_
  refine nd_get dX7_see_12 gf_X7_9 (sh_57 t) rfl ?_
  refine nd_get dX7_see_15 gf_X7_98 (sh_12 t) rfl ?_
  refine nd_iload_n dX7_see_18 2 rfl ?_
  obtain ⟨r4, σ5, hc6, h⟩ := nd_bind_e h
  refine nd_cvi [.int x2] [.int r1] dX7_see_19 cl_X7_38 (sh_21 t) ⟨Nat.le_of_ble_eq_true rfl, Nat.le_of_ble_eq_true rfl⟩ rfl (Nat.le_of_ble_eq_true rfl) hL (t_X4_at F 21 22 10 (nd_SH ++ t) hL (is_Row_21 t) _ _ hc6) ?_
  refine nd_min dX7_see_22 lk_X7_41 wmin_s wmin_i wmin_c ⟨by decide, by decide⟩ (Nat.le_refl _) (Nat.le_refl _) (Nat.le_of_ble_eq_true rfl) ?_
  refine nd_istore_n (ls' := [(3, .int (if r4 < r1 then r4 else r1)), (0, .ref 57), (1, .int x1), (2, .int x2)]) dX7_see_25 (by decide) rfl ?_
  refine nd_iload_n dX7_see_26 2 rfl ?_
  refine nd_iconst dX7_see_27 ic_1 ?_
  refine nd_iadd dX7_see_28 ?_
  refine nd_istore (ls' := [(4, .int (x1 + (1 : Int32))), (3, .int (if r4 < r1 then r4 else r1)), (0, .ref 57), (1, .int x1), (2, .int x2)]) dX7_see_29 (by decide) rfl ?_
  refine nd_sub [2, 4, 1, 0] rfl ?_
  exact b_X7_see_31 F t hL F _ _ _ _ h
def f_X7_worthOf_60 (F : Nat) (x3 : Int32) (σ : nd_Mem) : nd_Res := (some (x3, σ))
def f_X7_worthOf_39_b (F : Nat) (rec39 : Int32 → Int32 → nd_Mem → nd_Res) (x2 : Int32) (x3 : Int32) (σ : nd_Mem) : nd_Res := (if (31 : Int32) ≤ x3 then (f_X7_worthOf_60 F x3 σ) else (if ((x2 >>> (x3 &&& 31)) &&& (1 : Int32)) = (1 : Int32) then (rec39 x2 (x3 + (1 : Int32)) σ) else (f_X7_worthOf_60 F x3 σ)))
def f_X7_worthOf_39 (F : Nat) : Nat → Int32 → Int32 → nd_Mem → nd_Res
  | 0, _, _, _ => none
  | m9 + 1, x2, x3, σ => f_X7_worthOf_39_b F (f_X7_worthOf_39 F m9) x2 x3 σ
def f_X7_worthOf_4_b (F : Nat) (rec4 : Int32 → Int32 → Int32 → nd_Mem → nd_Res) (x1 : Int32) (x2 : Int32) (x3 : Int32) (σ : nd_Mem) : nd_Res := (if x1 ≤ x3 then (f_X7_worthOf_39 F F x2 (0 : Int32) σ) else (nd_bind (f_X7_worthOfRun F (x3 - (2 : Int32)) σ) fun r1 σ2 => (nd_bind (f_X7_worthOfRun F ((x1 - x3) - (3 : Int32)) σ2) fun r4 σ5 => (rec4 x1 (x2 ||| ((1 : Int32) <<< ((r1 ^^^ r4) &&& 31))) (x3 + (1 : Int32)) σ5))))
def f_X7_worthOf_4 (F : Nat) : Nat → Int32 → Int32 → Int32 → nd_Mem → nd_Res
  | 0, _, _, _, _ => none
  | m9 + 1, x1, x2, x3, σ => f_X7_worthOf_4_b F (f_X7_worthOf_4 F m9) x1 x2 x3 σ
def f_X7_worthOf (F : Nat) (x1 : Int32) (σ : nd_Mem) : nd_Res := (f_X7_worthOf_4 F F x1 (0 : Int32) (0 : Int32) σ)
set_option maxRecDepth 100000 in
set_option maxHeartbeats 4000000 in
theorem b_X7_worthOf_60 (F : Nat) (t : List nd_S) (hL : (nd_SH ++ t).length < nd_ro) {z : Int32 × nd_Mem} (x3 : Int32) (σ : nd_Mem) (h : f_X7_worthOf_60 F x3 σ = some z) : nd_V M_X7_worthOf (nd_rm 1) (nd_Pi (nd_SH ++ t) z) 0 0 60 [(0, .ref 57), (3, .int x3)] [] (nd_SH ++ t) σ := by
  unfold f_X7_worthOf_60 at h
  refine nd_iload_n dX7_worthOf_60 1 rfl ?_
  exact nd_iret dX7_worthOf_61 (Nat.zero_le _) (Nat.zero_le _) (vp_nar_int _) (by cases h; exact ⟨rfl, rfl, rfl⟩)
set_option maxRecDepth 100000 in
set_option maxHeartbeats 4000000 in
theorem b_X7_worthOf_39 (F : Nat) (t : List nd_S) (hL : (nd_SH ++ t).length < nd_ro) {z : Int32 × nd_Mem} (m9 : Nat) : ∀ (x2 : Int32) (x3 : Int32) (σ : nd_Mem), f_X7_worthOf_39 F m9 x2 x3 σ = some z → nd_V M_X7_worthOf (nd_rm 1) (nd_Pi (nd_SH ++ t) z) 0 0 39 [(0, .ref 57), (2, .int x2), (3, .int x3)] [] (nd_SH ++ t) σ := by
  induction m9 with
  | zero =>
    intro x2 x3 σ h
    have h : none = some z := h
    cases h
  | succ m9 hrec39 =>
    intro x2 x3 σ h
    have h : f_X7_worthOf_39_b F (f_X7_worthOf_39 F m9) x2 x3 σ = some z := h
    unfold f_X7_worthOf_39_b at h
    refine nd_iload_n dX7_worthOf_39 2 rfl ?_
    refine nd_bipush dX7_worthOf_40 ib_31 ?_
    refine nd_icmp_geN dX7_worthOf_42 60 (by decide) h (fun h => ?_) (fun h => ?_)
    · refine nd_sub [0, 2] rfl ?_
      exact b_X7_worthOf_60 F t hL _ _ h
    · refine nd_iload_n dX7_worthOf_45 1 rfl ?_
      refine nd_iload_n dX7_worthOf_46 2 rfl ?_
      refine nd_ishr dX7_worthOf_47 ?_
      refine nd_iconst dX7_worthOf_48 ic_1 ?_
      refine nd_iand dX7_worthOf_49 ?_
      refine nd_iconst dX7_worthOf_50 ic_1 ?_
      refine nd_icmp_neN dX7_worthOf_51 60 (by decide) h (fun h => ?_) (fun h => ?_)
      · refine nd_sub [0, 2] rfl ?_
        exact b_X7_worthOf_60 F t hL _ _ h
      · refine nd_iinc (v := (x3 + (1 : Int32))) (ls' := [(3, .int (x3 + (1 : Int32))), (0, .ref 57), (2, .int x2)]) dX7_worthOf_54 2 rfl (congrArg (HAdd.hAdd _) ic_1) (by decide) rfl ?_
        refine nd_goto dX7_worthOf_57 39 (by decide) ?_
        refine nd_sub [1, 2, 0] rfl ?_
        exact hrec39 _ _ _ h
set_option maxRecDepth 100000 in
set_option maxHeartbeats 4000000 in
theorem b_X7_worthOf_4 (F : Nat) (t : List nd_S) (hL : (nd_SH ++ t).length < nd_ro) {z : Int32 × nd_Mem} (m9 : Nat) : ∀ (x1 : Int32) (x2 : Int32) (x3 : Int32) (σ : nd_Mem), f_X7_worthOf_4 F m9 x1 x2 x3 σ = some z → nd_V M_X7_worthOf (nd_rm 1) (nd_Pi (nd_SH ++ t) z) 0 0 4 [(0, .ref 57), (1, .int x1), (2, .int x2), (3, .int x3)] [] (nd_SH ++ t) σ := by
  induction m9 with
  | zero =>
    intro x1 x2 x3 σ h
    have h : none = some z := h
    cases h
  | succ m9 hrec4 =>
    intro x1 x2 x3 σ h
    have h : f_X7_worthOf_4_b F (f_X7_worthOf_4 F m9) x1 x2 x3 σ = some z := h
    unfold f_X7_worthOf_4_b at h
    refine nd_iload_n dX7_worthOf_4 3 rfl ?_
    refine nd_iload_n dX7_worthOf_5 1 rfl ?_
    refine nd_icmp_geN dX7_worthOf_6 37 (by decide) h (fun h => ?_) (fun h => ?_)
    · refine nd_iconst dX7_worthOf_37 ic_0 ?_
      refine nd_istore_n (ls' := [(3, .int (0 : Int32)), (0, .ref 57), (1, .int x1), (2, .int x2)]) dX7_worthOf_38 (by decide) rfl ?_
      refine nd_sub [1, 3, 0] rfl ?_
      exact b_X7_worthOf_39 F t hL F _ _ _ h
    · refine nd_iload_n dX7_worthOf_9 2 rfl ?_
      refine nd_iconst dX7_worthOf_10 ic_1 ?_
      refine nd_aload_n dX7_worthOf_11 0 rfl ?_
      refine nd_iload_n dX7_worthOf_12 3 rfl ?_
      refine nd_iconst dX7_worthOf_13 ic_2 ?_
      refine nd_isub dX7_worthOf_14 ?_
      obtain ⟨r1, σ2, hc3, h⟩ := nd_bind_e h
      refine nd_cvi [.int (x3 - (2 : Int32))] [.int (1 : Int32), .int x2] dX7_worthOf_15 cl_X7_114 (sh_57 t) ⟨Nat.le_of_ble_eq_true rfl, Nat.le_of_ble_eq_true rfl⟩ rfl (Nat.le_of_ble_eq_true rfl) hL (t_X7_worthOfRun F t hL _ _ hc3) ?_
      refine nd_aload_n dX7_worthOf_18 0 rfl ?_
      refine nd_iload_n dX7_worthOf_19 1 rfl ?_
      refine nd_iload_n dX7_worthOf_20 3 rfl ?_
      refine nd_isub dX7_worthOf_21 ?_
      refine nd_iconst dX7_worthOf_22 ic_3 ?_
      refine nd_isub dX7_worthOf_23 ?_
      obtain ⟨r4, σ5, hc6, h⟩ := nd_bind_e h
      refine nd_cvi [.int ((x1 - x3) - (3 : Int32))] [.int r1, .int (1 : Int32), .int x2] dX7_worthOf_24 cl_X7_114 (sh_57 t) ⟨Nat.le_of_ble_eq_true rfl, Nat.le_of_ble_eq_true rfl⟩ rfl (Nat.le_of_ble_eq_true rfl) hL (t_X7_worthOfRun F t hL _ _ hc6) ?_
      refine nd_ixor dX7_worthOf_27 ?_
      refine nd_ishl dX7_worthOf_28 ?_
      refine nd_ior dX7_worthOf_29 ?_
      refine nd_istore_n (ls' := [(2, .int (x2 ||| ((1 : Int32) <<< ((r1 ^^^ r4) &&& 31)))), (0, .ref 57), (1, .int x1), (3, .int x3)]) dX7_worthOf_30 (by decide) rfl ?_
      refine nd_iinc (v := (x3 + (1 : Int32))) (ls' := [(3, .int (x3 + (1 : Int32))), (2, .int (x2 ||| ((1 : Int32) <<< ((r1 ^^^ r4) &&& 31)))), (0, .ref 57), (1, .int x1)]) dX7_worthOf_31 3 rfl (congrArg (HAdd.hAdd _) ic_1) (by decide) rfl ?_
      refine nd_goto dX7_worthOf_34 4 (by decide) ?_
      refine nd_sub [2, 3, 1, 0] rfl ?_
      exact hrec4 _ _ _ _ h
set_option maxRecDepth 100000 in
set_option maxHeartbeats 4000000 in
theorem t_X7_worthOf (F : Nat) (t : List nd_S) (hL : (nd_SH ++ t).length < nd_ro) {z : Int32 × nd_Mem} (x1 : Int32) (σ : nd_Mem) (h : f_X7_worthOf F x1 σ = some z) : nd_Fn M_X7_worthOf (nd_rm 1) [.ref 57, .int x1] (nd_SH ++ t) σ (nd_Pi (nd_SH ++ t) z) := by
  refine nd_Fn.ofV (ls := [(0, .ref 57), (1, .int x1)]) pl_X7_worthOf rfl (fun _ => Nat.le_of_ble_eq_true rfl) (fun _ => rfl) ?_
  unfold f_X7_worthOf at h
  refine nd_iconst dX7_worthOf_0 ic_0 ?_
  refine nd_istore_n (ls' := [(2, .int (0 : Int32)), (0, .ref 57), (1, .int x1)]) dX7_worthOf_1 (by decide) rfl ?_
  refine nd_iconst dX7_worthOf_2 ic_0 ?_
  refine nd_istore_n (ls' := [(3, .int (0 : Int32)), (2, .int (0 : Int32)), (0, .ref 57), (1, .int x1)]) dX7_worthOf_3 (by decide) rfl ?_
  refine nd_sub [2, 3, 1, 0] rfl ?_
  exact b_X7_worthOf_4 F t hL F _ _ _ _ h
def f_X7_kinship_72 (F : Nat) (rec2 : Int32 → Int32 → Int32 → nd_Mem → nd_Res) (rec37 : Int32 → Int32 → Int32 → Int32 → Int32 → Int32 → Int32 → nd_Mem → nd_Res) (x1 : Int32) (x2 : Int32) (x3 : Int32) (x4 : Int32) (x5 : Int32) (x6 : Int32) (x7 : Int32) (s0 : Int32) (σ : nd_Mem) : nd_Res := (if ((x3 * (14 : Int32)) + x7) < 0 ∨ 196 ≤ (((x3 * (14 : Int32)) + x7)).toNatClampNeg then none else (nd_let (nd_up σ 58 (((x3 * (14 : Int32)) + x7)).toNatClampNeg s0) fun σ1 => (rec37 x1 x2 x3 x4 x5 x6 (x7 + (1 : Int32)) σ1)))
def f_X7_kinship_114 (F : Nat) (rec2 : Int32 → Int32 → Int32 → nd_Mem → nd_Res) (x1 : Int32) (x2 : Int32) (x3 : Int32) (s0 : Int32) (σ : nd_Mem) : nd_Res := (if ((x3 * (14 : Int32)) + x3) < 0 ∨ 196 ≤ (((x3 * (14 : Int32)) + x3)).toNatClampNeg then none else (nd_let (nd_up σ 58 (((x3 * (14 : Int32)) + x3)).toNatClampNeg ((524288 : Int32) + s0)) fun σ1 => (rec2 x1 x2 (x3 + (1 : Int32)) σ1)))
def f_X7_kinship_37_b (F : Nat) (rec2 : Int32 → Int32 → Int32 → nd_Mem → nd_Res) (rec37 : Int32 → Int32 → Int32 → Int32 → Int32 → Int32 → Int32 → nd_Mem → nd_Res) (x1 : Int32) (x2 : Int32) (x3 : Int32) (x4 : Int32) (x5 : Int32) (x6 : Int32) (x7 : Int32) (σ : nd_Mem) : nd_Res := (if x3 ≤ x7 then (if x4 = (-1 : Int32) then (f_X7_kinship_114 F rec2 x1 x2 x3 (0 : Int32) σ) else (nd_bind (f_X7_between F x5 x6 σ) fun r1 σ2 => (f_X7_kinship_114 F rec2 x1 x2 x3 (r1 / (2 : Int32)) σ2))) else (if x4 = (-1 : Int32) then (f_X7_kinship_72 F rec2 rec37 x1 x2 x3 x4 x5 x6 x7 (0 : Int32) σ) else (nd_bind (f_X7_between F x5 x7 σ) fun r4 σ5 => (nd_bind (f_X7_between F x6 x7 σ5) fun r7 σ8 => (f_X7_kinship_72 F rec2 rec37 x1 x2 x3 x4 x5 x6 x7 ((r4 + r7) / (2 : Int32)) σ8)))))
def f_X7_kinship_37 (F : Nat) (rec2 : Int32 → Int32 → Int32 → nd_Mem → nd_Res) : Nat → Int32 → Int32 → Int32 → Int32 → Int32 → Int32 → Int32 → nd_Mem → nd_Res
  | 0, _, _, _, _, _, _, _, _ => none
  | m9 + 1, x1, x2, x3, x4, x5, x6, x7, σ => f_X7_kinship_37_b F rec2 (f_X7_kinship_37 F rec2 m9) x1 x2 x3 x4 x5 x6 x7 σ
def f_X7_kinship_2_b (F : Nat) (rec2 : Int32 → Int32 → Int32 → nd_Mem → nd_Res) (x1 : Int32) (x2 : Int32) (x3 : Int32) (σ : nd_Mem) : nd_Res := (if x1 < x3 then (nd_bind (f_X7_between F x1 x2 σ) fun r1 σ2 => (some (r1, σ2))) else (nd_bind (f_X4_at F 19 20 14 x3 σ) fun r4 σ5 => (f_X7_kinship_37 F rec2 F x1 x2 x3 r4 (r4 / (16 : Int32)) (q_rem r4 (16 : Int32)) (0 : Int32) σ5)))
def f_X7_kinship_2 (F : Nat) : Nat → Int32 → Int32 → Int32 → nd_Mem → nd_Res
  | 0, _, _, _, _ => none
  | m9 + 1, x1, x2, x3, σ => f_X7_kinship_2_b F (f_X7_kinship_2 F m9) x1 x2 x3 σ
def f_X7_kinship (F : Nat) (x1 : Int32) (x2 : Int32) (σ : nd_Mem) : nd_Res := (f_X7_kinship_2 F F x1 x2 (0 : Int32) σ)
set_option maxRecDepth 100000 in
set_option maxHeartbeats 4000000 in
theorem b_X7_kinship_72 (F : Nat) (rec2 : Int32 → Int32 → Int32 → nd_Mem → nd_Res) (rec37 : Int32 → Int32 → Int32 → Int32 → Int32 → Int32 → Int32 → nd_Mem → nd_Res) (t : List nd_S) (hL : (nd_SH ++ t).length < nd_ro) {z : Int32 × nd_Mem} (hrec2 : ∀ (x1 : Int32) (x2 : Int32) (x3 : Int32) (σ : nd_Mem), rec2 x1 x2 x3 σ = some z → nd_V M_X7_kinship (nd_rm 2) (nd_Pi (nd_SH ++ t) z) 0 0 2 [(0, .ref 57), (1, .int x1), (2, .int x2), (3, .int x3)] [] (nd_SH ++ t) σ) (hrec37 : ∀ (x1 : Int32) (x2 : Int32) (x3 : Int32) (x4 : Int32) (x5 : Int32) (x6 : Int32) (x7 : Int32) (σ : nd_Mem), rec37 x1 x2 x3 x4 x5 x6 x7 σ = some z → nd_V M_X7_kinship (nd_rm 2) (nd_Pi (nd_SH ++ t) z) 0 0 37 [(0, .ref 57), (1, .int x1), (2, .int x2), (3, .int x3), (4, .int x4), (5, .int x5), (6, .int x6), (7, .int x7)] [] (nd_SH ++ t) σ) (x1 : Int32) (x2 : Int32) (x3 : Int32) (x4 : Int32) (x5 : Int32) (x6 : Int32) (x7 : Int32) (s0 : Int32) (σ : nd_Mem) (h : f_X7_kinship_72 F rec2 rec37 x1 x2 x3 x4 x5 x6 x7 s0 σ = some z) : nd_V M_X7_kinship (nd_rm 2) (nd_Pi (nd_SH ++ t) z) 0 0 72 [(0, .ref 57), (1, .int x1), (2, .int x2), (3, .int x3), (4, .int x4), (5, .int x5), (6, .int x6), (7, .int x7)] [.int s0] (nd_SH ++ t) σ := by
  unfold f_X7_kinship_72 at h
  refine nd_istore (ls' := [(8, .int s0), (0, .ref 57), (1, .int x1), (2, .int x2), (3, .int x3), (4, .int x4), (5, .int x5), (6, .int x6), (7, .int x7)]) dX7_kinship_72 (by decide) rfl ?_
  refine nd_aload_n dX7_kinship_74 1 rfl ?_
  refine nd_get dX7_kinship_75 gf_X7_15 (sh_57 t) rfl ?_
  refine nd_iload_n dX7_kinship_78 4 rfl ?_
  refine nd_bipush dX7_kinship_79 ib_14 ?_
  refine nd_imul dX7_kinship_81 ?_
  refine nd_iload dX7_kinship_82 8 rfl ?_
  refine nd_iadd dX7_kinship_84 ?_
  refine nd_iload dX7_kinship_85 0 rfl ?_
  refine nd_iastoreN dX7_kinship_87 (sh_58 t) h (fun σ1 h => ?_)
  refine nd_iinc (v := (x7 + (1 : Int32))) (ls' := [(7, .int (x7 + (1 : Int32))), (8, .int s0), (0, .ref 57), (1, .int x1), (2, .int x2), (3, .int x3), (4, .int x4), (5, .int x5), (6, .int x6)]) dX7_kinship_88 8 rfl (congrArg (HAdd.hAdd _) ic_1) (by decide) rfl ?_
  refine nd_goto dX7_kinship_91 37 (by decide) ?_
  refine nd_sub [2, 3, 4, 5, 6, 7, 8, 0] rfl ?_
  exact hrec37 _ _ _ _ _ _ _ _ h
set_option maxRecDepth 100000 in
set_option maxHeartbeats 4000000 in
theorem b_X7_kinship_114 (F : Nat) (rec2 : Int32 → Int32 → Int32 → nd_Mem → nd_Res) (t : List nd_S) (hL : (nd_SH ++ t).length < nd_ro) {z : Int32 × nd_Mem} (hrec2 : ∀ (x1 : Int32) (x2 : Int32) (x3 : Int32) (σ : nd_Mem), rec2 x1 x2 x3 σ = some z → nd_V M_X7_kinship (nd_rm 2) (nd_Pi (nd_SH ++ t) z) 0 0 2 [(0, .ref 57), (1, .int x1), (2, .int x2), (3, .int x3)] [] (nd_SH ++ t) σ) (x1 : Int32) (x2 : Int32) (x3 : Int32) (s0 : Int32) (σ : nd_Mem) (h : f_X7_kinship_114 F rec2 x1 x2 x3 s0 σ = some z) : nd_V M_X7_kinship (nd_rm 2) (nd_Pi (nd_SH ++ t) z) 0 0 114 [(0, .ref 57), (1, .int x1), (2, .int x2), (3, .int x3)] [.int s0] (nd_SH ++ t) σ := by
  unfold f_X7_kinship_114 at h
  refine nd_istore (ls' := [(7, .int s0), (0, .ref 57), (1, .int x1), (2, .int x2), (3, .int x3)]) dX7_kinship_114 (by decide) rfl ?_
  refine nd_aload_n dX7_kinship_116 1 rfl ?_
  refine nd_get dX7_kinship_117 gf_X7_15 (sh_57 t) rfl ?_
  refine nd_iload_n dX7_kinship_120 4 rfl ?_
  refine nd_bipush dX7_kinship_121 ib_14 ?_
  refine nd_imul dX7_kinship_123 ?_
  refine nd_iload_n dX7_kinship_124 4 rfl ?_
  refine nd_iadd dX7_kinship_125 ?_
  refine nd_ldc dX7_kinship_126 kc_X7_88 ?_
  refine nd_iload dX7_kinship_128 0 rfl ?_
  refine nd_iadd dX7_kinship_130 ?_
  refine nd_iastoreN dX7_kinship_131 (sh_58 t) h (fun σ1 h => ?_)
  refine nd_iinc (v := (x3 + (1 : Int32))) (ls' := [(3, .int (x3 + (1 : Int32))), (7, .int s0), (0, .ref 57), (1, .int x1), (2, .int x2)]) dX7_kinship_132 4 rfl (congrArg (HAdd.hAdd _) ic_1) (by decide) rfl ?_
  refine nd_goto dX7_kinship_135 2 (by decide) ?_
  refine nd_sub [2, 3, 4, 0] rfl ?_
  exact hrec2 _ _ _ _ h
set_option maxRecDepth 100000 in
set_option maxHeartbeats 4000000 in
theorem b_X7_kinship_37 (F : Nat) (rec2 : Int32 → Int32 → Int32 → nd_Mem → nd_Res) (t : List nd_S) (hL : (nd_SH ++ t).length < nd_ro) {z : Int32 × nd_Mem} (hrec2 : ∀ (x1 : Int32) (x2 : Int32) (x3 : Int32) (σ : nd_Mem), rec2 x1 x2 x3 σ = some z → nd_V M_X7_kinship (nd_rm 2) (nd_Pi (nd_SH ++ t) z) 0 0 2 [(0, .ref 57), (1, .int x1), (2, .int x2), (3, .int x3)] [] (nd_SH ++ t) σ) (m9 : Nat) : ∀ (x1 : Int32) (x2 : Int32) (x3 : Int32) (x4 : Int32) (x5 : Int32) (x6 : Int32) (x7 : Int32) (σ : nd_Mem), f_X7_kinship_37 F rec2 m9 x1 x2 x3 x4 x5 x6 x7 σ = some z → nd_V M_X7_kinship (nd_rm 2) (nd_Pi (nd_SH ++ t) z) 0 0 37 [(0, .ref 57), (1, .int x1), (2, .int x2), (3, .int x3), (4, .int x4), (5, .int x5), (6, .int x6), (7, .int x7)] [] (nd_SH ++ t) σ := by
  induction m9 with
  | zero =>
    intro x1 x2 x3 x4 x5 x6 x7 σ h
    have h : none = some z := h
    cases h
  | succ m9 hrec37 =>
    intro x1 x2 x3 x4 x5 x6 x7 σ h
    have h : f_X7_kinship_37_b F rec2 (f_X7_kinship_37 F rec2 m9) x1 x2 x3 x4 x5 x6 x7 σ = some z := h
    unfold f_X7_kinship_37_b at h
    refine nd_iload dX7_kinship_37 7 rfl ?_
    refine nd_iload_n dX7_kinship_39 3 rfl ?_
    refine nd_icmp_geN dX7_kinship_40 94 (by decide) h (fun h => ?_) (fun h => ?_)
    · refine nd_iload dX7_kinship_94 4 rfl ?_
      refine nd_iconst dX7_kinship_96 ic_m1 ?_
      refine nd_icmp_neN dX7_kinship_97 104 (by decide) h (fun h => ?_) (fun h => ?_)
      · refine nd_aload_n dX7_kinship_104 0 rfl ?_
        refine nd_iload dX7_kinship_105 5 rfl ?_
        refine nd_iload dX7_kinship_107 6 rfl ?_
        obtain ⟨r1, σ2, hc3, h⟩ := nd_bind_e h
        refine nd_cvi [.int x5, .int x6] [] dX7_kinship_109 cl_X7_85 (sh_57 t) ⟨Nat.le_of_ble_eq_true rfl, Nat.le_of_ble_eq_true rfl⟩ rfl (Nat.le_of_ble_eq_true rfl) hL (t_X7_between F t hL _ _ _ hc3) ?_
        refine nd_iconst dX7_kinship_112 ic_2 ?_
        refine nd_idiv dX7_kinship_113 (by decide) ?_
        refine nd_sub [0, 1, 2, 3] rfl ?_
        exact b_X7_kinship_114 F _ t hL hrec2 _ _ _ _ _ h
      · refine nd_iconst dX7_kinship_100 ic_0 ?_
        refine nd_goto dX7_kinship_101 114 (by decide) ?_
        refine nd_sub [0, 1, 2, 3] rfl ?_
        exact b_X7_kinship_114 F _ t hL hrec2 _ _ _ _ _ h
    · refine nd_iload dX7_kinship_43 4 rfl ?_
      refine nd_iconst dX7_kinship_45 ic_m1 ?_
      refine nd_icmp_neN dX7_kinship_46 53 (by decide) h (fun h => ?_) (fun h => ?_)
      · refine nd_aload_n dX7_kinship_53 0 rfl ?_
        refine nd_iload dX7_kinship_54 5 rfl ?_
        refine nd_iload dX7_kinship_56 7 rfl ?_
        obtain ⟨r4, σ5, hc6, h⟩ := nd_bind_e h
        refine nd_cvi [.int x5, .int x7] [] dX7_kinship_58 cl_X7_85 (sh_57 t) ⟨Nat.le_of_ble_eq_true rfl, Nat.le_of_ble_eq_true rfl⟩ rfl (Nat.le_of_ble_eq_true rfl) hL (t_X7_between F t hL _ _ _ hc6) ?_
        refine nd_aload_n dX7_kinship_61 0 rfl ?_
        refine nd_iload dX7_kinship_62 6 rfl ?_
        refine nd_iload dX7_kinship_64 7 rfl ?_
        obtain ⟨r7, σ8, hc9, h⟩ := nd_bind_e h
        refine nd_cvi [.int x6, .int x7] [.int r4] dX7_kinship_66 cl_X7_85 (sh_57 t) ⟨Nat.le_of_ble_eq_true rfl, Nat.le_of_ble_eq_true rfl⟩ rfl (Nat.le_of_ble_eq_true rfl) hL (t_X7_between F t hL _ _ _ hc9) ?_
        refine nd_iadd dX7_kinship_69 ?_
        refine nd_iconst dX7_kinship_70 ic_2 ?_
        refine nd_idiv dX7_kinship_71 (by decide) ?_
        exact b_X7_kinship_72 F _ _ t hL hrec2 hrec37 _ _ _ _ _ _ _ _ _ h
      · refine nd_iconst dX7_kinship_49 ic_0 ?_
        refine nd_goto dX7_kinship_50 72 (by decide) ?_
        exact b_X7_kinship_72 F _ _ t hL hrec2 hrec37 _ _ _ _ _ _ _ _ _ h
set_option maxRecDepth 100000 in
set_option maxHeartbeats 4000000 in
theorem b_X7_kinship_2 (F : Nat) (t : List nd_S) (hL : (nd_SH ++ t).length < nd_ro) {z : Int32 × nd_Mem} (m9 : Nat) : ∀ (x1 : Int32) (x2 : Int32) (x3 : Int32) (σ : nd_Mem), f_X7_kinship_2 F m9 x1 x2 x3 σ = some z → nd_V M_X7_kinship (nd_rm 2) (nd_Pi (nd_SH ++ t) z) 0 0 2 [(0, .ref 57), (1, .int x1), (2, .int x2), (3, .int x3)] [] (nd_SH ++ t) σ := by
  induction m9 with
  | zero =>
    intro x1 x2 x3 σ h
    have h : none = some z := h
    cases h
  | succ m9 hrec2 =>
    intro x1 x2 x3 σ h
    have h : f_X7_kinship_2_b F (f_X7_kinship_2 F m9) x1 x2 x3 σ = some z := h
    unfold f_X7_kinship_2_b at h
    refine nd_iload_n dX7_kinship_2 3 rfl ?_
    refine nd_iload_n dX7_kinship_3 1 rfl ?_
    refine nd_icmp_gtN dX7_kinship_4 138 (by decide) h (fun h => ?_) (fun h => ?_)
    · refine nd_aload_n dX7_kinship_138 0 rfl ?_
      refine nd_iload_n dX7_kinship_139 1 rfl ?_
      refine nd_iload_n dX7_kinship_140 2 rfl ?_
      obtain ⟨r1, σ2, hc3, h⟩ := nd_bind_e h
      refine nd_cvi [.int x1, .int x2] [] dX7_kinship_141 cl_X7_85 (sh_57 t) ⟨Nat.le_of_ble_eq_true rfl, Nat.le_of_ble_eq_true rfl⟩ rfl (Nat.le_of_ble_eq_true rfl) hL (t_X7_between F t hL _ _ _ hc3) ?_
      exact nd_iret dX7_kinship_144 (Nat.zero_le _) (Nat.zero_le _) (vp_nar_int _) (by cases h; exact ⟨rfl, rfl, rfl⟩)
    · refine nd_aload_n dX7_kinship_7 0 rfl ?_
      refine nd_get dX7_kinship_8 gf_X7_9 (sh_57 t) rfl ?_
      refine nd_get dX7_kinship_11 gf_X7_82 (sh_12 t) rfl ?_
      refine nd_iload_n dX7_kinship_14 3 rfl ?_
      obtain ⟨r4, σ5, hc6, h⟩ := nd_bind_e h
      refine nd_cvi [.int x3] [] dX7_kinship_15 cl_X7_38 (sh_19 t) ⟨Nat.le_of_ble_eq_true rfl, Nat.le_of_ble_eq_true rfl⟩ rfl (Nat.le_of_ble_eq_true rfl) hL (t_X4_at F 19 20 14 (nd_SH ++ t) hL (is_Row_19 t) _ _ hc6) ?_
      refine nd_istore (ls' := [(4, .int r4), (0, .ref 57), (1, .int x1), (2, .int x2), (3, .int x3)]) dX7_kinship_18 (by decide) rfl ?_
      refine nd_iload dX7_kinship_20 0 rfl ?_
      refine nd_bipush dX7_kinship_22 ib_16 ?_
      refine nd_idiv dX7_kinship_24 (by decide) ?_
      refine nd_istore (ls' := [(5, .int (r4 / (16 : Int32))), (4, .int r4), (0, .ref 57), (1, .int x1), (2, .int x2), (3, .int x3)]) dX7_kinship_25 (by decide) rfl ?_
      refine nd_iload dX7_kinship_27 1 rfl ?_
      refine nd_bipush dX7_kinship_29 ib_16 ?_
      refine nd_irem dX7_kinship_31 (by decide) ?_
      refine nd_istore (ls' := [(6, .int (q_rem r4 (16 : Int32))), (5, .int (r4 / (16 : Int32))), (4, .int r4), (0, .ref 57), (1, .int x1), (2, .int x2), (3, .int x3)]) dX7_kinship_32 (by decide) rfl ?_
      refine nd_iconst dX7_kinship_34 ic_0 ?_
      refine nd_istore (ls' := [(7, .int (0 : Int32)), (6, .int (q_rem r4 (16 : Int32))), (5, .int (r4 / (16 : Int32))), (4, .int r4), (0, .ref 57), (1, .int x1), (2, .int x2), (3, .int x3)]) dX7_kinship_35 (by decide) rfl ?_
      refine nd_sub [4, 5, 6, 7, 3, 2, 1, 0] rfl ?_
      exact b_X7_kinship_37 F _ t hL hrec2 F _ _ _ _ _ _ _ _ h
set_option maxRecDepth 100000 in
set_option maxHeartbeats 4000000 in
theorem t_X7_kinship (F : Nat) (t : List nd_S) (hL : (nd_SH ++ t).length < nd_ro) {z : Int32 × nd_Mem} (x1 : Int32) (x2 : Int32) (σ : nd_Mem) (h : f_X7_kinship F x1 x2 σ = some z) : nd_Fn M_X7_kinship (nd_rm 2) [.ref 57, .int x1, .int x2] (nd_SH ++ t) σ (nd_Pi (nd_SH ++ t) z) := by
  refine nd_Fn.ofV (ls := [(0, .ref 57), (1, .int x1), (2, .int x2)]) pl_X7_kinship rfl (fun _ => Nat.le_of_ble_eq_true rfl) (fun _ => rfl) ?_
  unfold f_X7_kinship at h
  refine nd_iconst dX7_kinship_0 ic_0 ?_
  refine nd_istore_n (ls' := [(3, .int (0 : Int32)), (0, .ref 57), (1, .int x1), (2, .int x2)]) dX7_kinship_1 (by decide) rfl ?_
  refine nd_sub [1, 2, 3, 0] rfl ?_
  exact b_X7_kinship_2 F t hL F _ _ _ _ h
def f_X7_leastWinningDoor_45 (F : Nat) (x3 : Int32) (σ : nd_Mem) : nd_Res := (some (x3, σ))
def f_X7_leastWinningDoor_47 (F : Nat) (rec9 : Int32 → Int32 → Int32 → nd_Mem → nd_Res) (x1 : Int32) (x2 : Int32) (x3 : Int32) (σ : nd_Mem) : nd_Res := (rec9 x1 x2 (x3 + (1 : Int32)) σ)
def f_X7_leastWinningDoor_9_b (F : Nat) (rec9 : Int32 → Int32 → Int32 → nd_Mem → nd_Res) (x1 : Int32) (x2 : Int32) (x3 : Int32) (σ : nd_Mem) : nd_Res := (if x1 ≤ x3 then (some ((-1 : Int32), σ)) else (if (x2 ||| ((1 : Int32) <<< (x3 &&& 31))) = x2 then (f_X7_leastWinningDoor_47 F rec9 x1 x2 x3 σ) else (nd_bind (f_X7_threeTogether F (x2 ||| ((1 : Int32) <<< (x3 &&& 31))) σ) fun r1 σ2 => (if r1 = 0 then (nd_bind (f_X7_nextCanWin F x1 (x2 ||| ((1 : Int32) <<< (x3 &&& 31))) σ2) fun r4 σ5 => (if r4 = 0 then (f_X7_leastWinningDoor_45 F x3 σ5) else (f_X7_leastWinningDoor_47 F rec9 x1 x2 x3 σ5))) else (f_X7_leastWinningDoor_45 F x3 σ2)))))
def f_X7_leastWinningDoor_9 (F : Nat) : Nat → Int32 → Int32 → Int32 → nd_Mem → nd_Res
  | 0, _, _, _, _ => none
  | m9 + 1, x1, x2, x3, σ => f_X7_leastWinningDoor_9_b F (f_X7_leastWinningDoor_9 F m9) x1 x2 x3 σ
def f_X7_leastWinningDoor (F : Nat) (x1 : Int32) (x2 : Int32) (σ : nd_Mem) : nd_Res := (if (3 : Int32) ≤ x1 then (f_X7_leastWinningDoor_9 F F x1 x2 (0 : Int32) σ) else (some ((-1 : Int32), σ)))
set_option maxRecDepth 100000 in
set_option maxHeartbeats 4000000 in
theorem b_X7_leastWinningDoor_45 (F : Nat) (t : List nd_S) (hL : (nd_SH ++ t).length < nd_ro) {z : Int32 × nd_Mem} (x3 : Int32) (σ : nd_Mem) (h : f_X7_leastWinningDoor_45 F x3 σ = some z) : nd_V M_X7_leastWinningDoor (nd_rm 2) (nd_Pi (nd_SH ++ t) z) 0 0 45 [(0, .ref 57), (3, .int x3)] [] (nd_SH ++ t) σ := by
  unfold f_X7_leastWinningDoor_45 at h
  refine nd_iload_n dX7_leastWinningDoor_45 1 rfl ?_
  exact nd_iret dX7_leastWinningDoor_46 (Nat.zero_le _) (Nat.zero_le _) (vp_nar_int _) (by cases h; exact ⟨rfl, rfl, rfl⟩)
set_option maxRecDepth 100000 in
set_option maxHeartbeats 4000000 in
theorem b_X7_leastWinningDoor_47 (F : Nat) (rec9 : Int32 → Int32 → Int32 → nd_Mem → nd_Res) (t : List nd_S) (hL : (nd_SH ++ t).length < nd_ro) {z : Int32 × nd_Mem} (hrec9 : ∀ (x1 : Int32) (x2 : Int32) (x3 : Int32) (σ : nd_Mem), rec9 x1 x2 x3 σ = some z → nd_V M_X7_leastWinningDoor (nd_rm 2) (nd_Pi (nd_SH ++ t) z) 0 0 9 [(0, .ref 57), (1, .int x1), (2, .int x2), (3, .int x3)] [] (nd_SH ++ t) σ) (x1 : Int32) (x2 : Int32) (x3 : Int32) (σ : nd_Mem) (h : f_X7_leastWinningDoor_47 F rec9 x1 x2 x3 σ = some z) : nd_V M_X7_leastWinningDoor (nd_rm 2) (nd_Pi (nd_SH ++ t) z) 0 0 47 [(0, .ref 57), (1, .int x1), (2, .int x2), (3, .int x3)] [] (nd_SH ++ t) σ := by
  unfold f_X7_leastWinningDoor_47 at h
  refine nd_iinc (v := (x3 + (1 : Int32))) (ls' := [(3, .int (x3 + (1 : Int32))), (0, .ref 57), (1, .int x1), (2, .int x2)]) dX7_leastWinningDoor_47 3 rfl (congrArg (HAdd.hAdd _) ic_1) (by decide) rfl ?_
  refine nd_goto dX7_leastWinningDoor_50 9 (by decide) ?_
  refine nd_sub [1, 2, 3, 0] rfl ?_
  exact hrec9 _ _ _ _ h
set_option maxRecDepth 100000 in
set_option maxHeartbeats 4000000 in
theorem b_X7_leastWinningDoor_9 (F : Nat) (t : List nd_S) (hL : (nd_SH ++ t).length < nd_ro) {z : Int32 × nd_Mem} (m9 : Nat) : ∀ (x1 : Int32) (x2 : Int32) (x3 : Int32) (σ : nd_Mem), f_X7_leastWinningDoor_9 F m9 x1 x2 x3 σ = some z → nd_V M_X7_leastWinningDoor (nd_rm 2) (nd_Pi (nd_SH ++ t) z) 0 0 9 [(0, .ref 57), (1, .int x1), (2, .int x2), (3, .int x3)] [] (nd_SH ++ t) σ := by
  induction m9 with
  | zero =>
    intro x1 x2 x3 σ h
    have h : none = some z := h
    cases h
  | succ m9 hrec9 =>
    intro x1 x2 x3 σ h
    have h : f_X7_leastWinningDoor_9_b F (f_X7_leastWinningDoor_9 F m9) x1 x2 x3 σ = some z := h
    unfold f_X7_leastWinningDoor_9_b at h
    refine nd_iload_n dX7_leastWinningDoor_9 3 rfl ?_
    refine nd_iload_n dX7_leastWinningDoor_10 1 rfl ?_
    refine nd_icmp_geN dX7_leastWinningDoor_11 53 (by decide) h (fun h => ?_) (fun h => ?_)
    · refine nd_iconst dX7_leastWinningDoor_53 ic_m1 ?_
      exact nd_iret dX7_leastWinningDoor_54 (Nat.zero_le _) (Nat.zero_le _) (vp_nar_int _) (by cases h; exact ⟨rfl, rfl, rfl⟩)
    · refine nd_iload_n dX7_leastWinningDoor_14 2 rfl ?_
      refine nd_iconst dX7_leastWinningDoor_15 ic_1 ?_
      refine nd_iload_n dX7_leastWinningDoor_16 3 rfl ?_
      refine nd_ishl dX7_leastWinningDoor_17 ?_
      refine nd_ior dX7_leastWinningDoor_18 ?_
      refine nd_istore (ls' := [(4, .int (x2 ||| ((1 : Int32) <<< (x3 &&& 31)))), (0, .ref 57), (1, .int x1), (2, .int x2), (3, .int x3)]) dX7_leastWinningDoor_19 (by decide) rfl ?_
      refine nd_iload dX7_leastWinningDoor_21 0 rfl ?_
      refine nd_iload_n dX7_leastWinningDoor_23 3 rfl ?_
      refine nd_icmp_eqN dX7_leastWinningDoor_24 47 (by decide) h (fun h => ?_) (fun h => ?_)
      · refine nd_sub [1, 2, 3, 4] rfl ?_
        exact b_X7_leastWinningDoor_47 F _ t hL hrec9 _ _ _ _ h
      · refine nd_iload dX7_leastWinningDoor_27 0 rfl ?_
        obtain ⟨r1, σ2, hc3, h⟩ := nd_bind_e h
        refine nd_csi [.int (x2 ||| ((1 : Int32) <<< (x3 &&& 31)))] [] dX7_leastWinningDoor_29 cl_X7_107 ⟨Nat.le_of_ble_eq_true rfl, Nat.le_of_ble_eq_true rfl⟩ rfl (Nat.le_of_ble_eq_true rfl) hL (t_X7_threeTogether F (nd_SH ++ t) hL _ _ hc3) ?_
        refine nd_if_neN dX7_leastWinningDoor_32 45 (by decide) h (fun h => ?_) (fun h => ?_)
        · refine nd_sub [1, 4] rfl ?_
          exact b_X7_leastWinningDoor_45 F t hL _ _ h
        · refine nd_aload_n dX7_leastWinningDoor_35 1 rfl ?_
          refine nd_iload_n dX7_leastWinningDoor_36 2 rfl ?_
          refine nd_iload dX7_leastWinningDoor_37 0 rfl ?_
          obtain ⟨r4, σ5, hc6, h⟩ := nd_bind_e h
          refine nd_cvi [.int x1, .int (x2 ||| ((1 : Int32) <<< (x3 &&& 31)))] [] dX7_leastWinningDoor_39 cl_X7_111 (sh_57 t) ⟨Nat.le_of_ble_eq_true rfl, Nat.le_of_ble_eq_true rfl⟩ rfl (Nat.le_of_ble_eq_true rfl) hL (t_X7_nextCanWin F t hL _ _ _ hc6) ?_
          refine nd_if_neN dX7_leastWinningDoor_42 47 (by decide) h (fun h => ?_) (fun h => ?_)
          · refine nd_sub [1, 2, 3, 4] rfl ?_
            exact b_X7_leastWinningDoor_47 F _ t hL hrec9 _ _ _ _ h
          · refine nd_sub [1, 4] rfl ?_
            exact b_X7_leastWinningDoor_45 F t hL _ _ h
set_option maxRecDepth 100000 in
set_option maxHeartbeats 4000000 in
theorem t_X7_leastWinningDoor (F : Nat) (t : List nd_S) (hL : (nd_SH ++ t).length < nd_ro) {z : Int32 × nd_Mem} (x1 : Int32) (x2 : Int32) (σ : nd_Mem) (h : f_X7_leastWinningDoor F x1 x2 σ = some z) : nd_Fn M_X7_leastWinningDoor (nd_rm 2) [.ref 57, .int x1, .int x2] (nd_SH ++ t) σ (nd_Pi (nd_SH ++ t) z) := by
  refine nd_Fn.ofV (ls := [(0, .ref 57), (1, .int x1), (2, .int x2)]) pl_X7_leastWinningDoor rfl (fun _ => Nat.le_of_ble_eq_true rfl) (fun _ => rfl) ?_
  unfold f_X7_leastWinningDoor at h
  refine nd_iload_n dX7_leastWinningDoor_0 1 rfl ?_
  refine nd_iconst dX7_leastWinningDoor_1 ic_3 ?_
  refine nd_icmp_geN dX7_leastWinningDoor_2 7 (by decide) h (fun h => ?_) (fun h => ?_)
  · refine nd_iconst dX7_leastWinningDoor_7 ic_0 ?_
    refine nd_istore_n (ls' := [(3, .int (0 : Int32)), (0, .ref 57), (1, .int x1), (2, .int x2)]) dX7_leastWinningDoor_8 (by decide) rfl ?_
    refine nd_sub [1, 2, 3, 0] rfl ?_
    exact b_X7_leastWinningDoor_9 F t hL F _ _ _ _ h
  · refine nd_iconst dX7_leastWinningDoor_5 ic_m1 ?_
    exact nd_iret dX7_leastWinningDoor_6 (Nat.zero_le _) (Nat.zero_le _) (vp_nar_int _) (by cases h; exact ⟨rfl, rfl, rfl⟩)
def f_X7_seenFrom_43 (F : Nat) (rec4 : Int32 → Int32 → Int32 → nd_Mem → nd_Res) (x1 : Int32) (x2 : Int32) (x3 : Int32) (σ : nd_Mem) : nd_Res := (rec4 x1 x2 (x3 + (1 : Int32)) σ)
def f_X7_seenFrom_4_b (F : Nat) (rec4 : Int32 → Int32 → Int32 → nd_Mem → nd_Res) (x1 : Int32) (x2 : Int32) (x3 : Int32) (σ : nd_Mem) : nd_Res := (if (σ 21 1) ≤ x3 then (some (x2, σ)) else (if x3 = x1 then (f_X7_seenFrom_43 F rec4 x1 x2 x3 σ) else (nd_bind (f_X7_see F (if x3 < x1 then x3 else x1) (if x1 < x3 then x3 else x1) σ) fun r1 σ2 => (if r1 = 0 then (f_X7_seenFrom_43 F rec4 x1 x2 x3 σ2) else (f_X7_seenFrom_43 F rec4 x1 (x2 + (1 : Int32)) x3 σ2)))))
def f_X7_seenFrom_4 (F : Nat) : Nat → Int32 → Int32 → Int32 → nd_Mem → nd_Res
  | 0, _, _, _, _ => none
  | m9 + 1, x1, x2, x3, σ => f_X7_seenFrom_4_b F (f_X7_seenFrom_4 F m9) x1 x2 x3 σ
def f_X7_seenFrom (F : Nat) (x1 : Int32) (σ : nd_Mem) : nd_Res := (f_X7_seenFrom_4 F F x1 (0 : Int32) (0 : Int32) σ)
set_option maxRecDepth 100000 in
set_option maxHeartbeats 4000000 in
theorem b_X7_seenFrom_43 (F : Nat) (rec4 : Int32 → Int32 → Int32 → nd_Mem → nd_Res) (t : List nd_S) (hL : (nd_SH ++ t).length < nd_ro) {z : Int32 × nd_Mem} (hrec4 : ∀ (x1 : Int32) (x2 : Int32) (x3 : Int32) (σ : nd_Mem), rec4 x1 x2 x3 σ = some z → nd_V M_X7_seenFrom (nd_rm 2) (nd_Pi (nd_SH ++ t) z) 0 0 4 [(0, .ref 57), (1, .int x1), (2, .int x2), (3, .int x3)] [] (nd_SH ++ t) σ) (x1 : Int32) (x2 : Int32) (x3 : Int32) (σ : nd_Mem) (h : f_X7_seenFrom_43 F rec4 x1 x2 x3 σ = some z) : nd_V M_X7_seenFrom (nd_rm 2) (nd_Pi (nd_SH ++ t) z) 0 0 43 [(0, .ref 57), (1, .int x1), (2, .int x2), (3, .int x3)] [] (nd_SH ++ t) σ := by
  unfold f_X7_seenFrom_43 at h
  refine nd_iinc (v := (x3 + (1 : Int32))) (ls' := [(3, .int (x3 + (1 : Int32))), (0, .ref 57), (1, .int x1), (2, .int x2)]) dX7_seenFrom_43 3 rfl (congrArg (HAdd.hAdd _) ic_1) (by decide) rfl ?_
  refine nd_goto dX7_seenFrom_46 4 (by decide) ?_
  refine nd_sub [1, 2, 3, 0] rfl ?_
  exact hrec4 _ _ _ _ h
set_option maxRecDepth 100000 in
set_option maxHeartbeats 4000000 in
theorem b_X7_seenFrom_4 (F : Nat) (t : List nd_S) (hL : (nd_SH ++ t).length < nd_ro) {z : Int32 × nd_Mem} (m9 : Nat) : ∀ (x1 : Int32) (x2 : Int32) (x3 : Int32) (σ : nd_Mem), f_X7_seenFrom_4 F m9 x1 x2 x3 σ = some z → nd_V M_X7_seenFrom (nd_rm 2) (nd_Pi (nd_SH ++ t) z) 0 0 4 [(0, .ref 57), (1, .int x1), (2, .int x2), (3, .int x3)] [] (nd_SH ++ t) σ := by
  induction m9 with
  | zero =>
    intro x1 x2 x3 σ h
    have h : none = some z := h
    cases h
  | succ m9 hrec4 =>
    intro x1 x2 x3 σ h
    have h : f_X7_seenFrom_4_b F (f_X7_seenFrom_4 F m9) x1 x2 x3 σ = some z := h
    unfold f_X7_seenFrom_4_b at h
    refine nd_iload_n dX7_seenFrom_4 3 rfl ?_
    refine nd_aload_n dX7_seenFrom_5 0 rfl ?_
    refine nd_get dX7_seenFrom_6 gf_X7_9 (sh_57 t) rfl ?_
    refine nd_get dX7_seenFrom_9 gf_X7_98 (sh_12 t) rfl ?_
    refine nd_get dX7_seenFrom_12 gf_X7_32 (sh_21 t) rfl ?_
    refine nd_icmp_geN dX7_seenFrom_15 49 (by decide) h (fun h => ?_) (fun h => ?_)
    · refine nd_iload_n dX7_seenFrom_49 2 rfl ?_
      exact nd_iret dX7_seenFrom_50 (Nat.zero_le _) (Nat.zero_le _) (vp_nar_int _) (by cases h; exact ⟨rfl, rfl, rfl⟩)
    · refine nd_iload_n dX7_seenFrom_18 3 rfl ?_
      refine nd_iload_n dX7_seenFrom_19 1 rfl ?_
      refine nd_icmp_eqN dX7_seenFrom_20 43 (by decide) h (fun h => ?_) (fun h => ?_)
      · exact b_X7_seenFrom_43 F _ t hL hrec4 _ _ _ _ h
      · refine nd_aload_n dX7_seenFrom_23 0 rfl ?_
        refine nd_iload_n dX7_seenFrom_24 1 rfl ?_
        refine nd_iload_n dX7_seenFrom_25 3 rfl ?_
        refine nd_min dX7_seenFrom_26 lk_X7_41 wmin_s wmin_i wmin_c ⟨by decide, by decide⟩ (Nat.le_refl _) (Nat.le_refl _) (Nat.le_of_ble_eq_true rfl) ?_
        refine nd_iload_n dX7_seenFrom_29 1 rfl ?_
        refine nd_iload_n dX7_seenFrom_30 3 rfl ?_
        refine nd_max dX7_seenFrom_31 lk_X7_89 wmax_s wmax_i wmax_c ⟨by decide, by decide⟩ (Nat.le_refl _) (Nat.le_refl _) (Nat.le_of_ble_eq_true rfl) ?_
        obtain ⟨r1, σ2, hc3, h⟩ := nd_bind_e h
        refine nd_cvi [.int (if x3 < x1 then x3 else x1), .int (if x1 < x3 then x3 else x1)] [] dX7_seenFrom_34 cl_X7_104 (sh_57 t) ⟨Nat.le_of_ble_eq_true rfl, Nat.le_of_ble_eq_true rfl⟩ rfl (Nat.le_of_ble_eq_true rfl) hL (t_X7_see F t hL _ _ _ hc3) ?_
        refine nd_if_eqN dX7_seenFrom_37 43 (by decide) h (fun h => ?_) (fun h => ?_)
        · exact b_X7_seenFrom_43 F _ t hL hrec4 _ _ _ _ h
        · refine nd_iinc (v := (x2 + (1 : Int32))) (ls' := [(2, .int (x2 + (1 : Int32))), (0, .ref 57), (1, .int x1), (3, .int x3)]) dX7_seenFrom_40 2 rfl (congrArg (HAdd.hAdd _) ic_1) (by decide) rfl ?_
          refine nd_sub [1, 2, 0, 3] rfl ?_
          exact b_X7_seenFrom_43 F _ t hL hrec4 _ _ _ _ h
set_option maxRecDepth 100000 in
set_option maxHeartbeats 4000000 in
theorem t_X7_seenFrom (F : Nat) (t : List nd_S) (hL : (nd_SH ++ t).length < nd_ro) {z : Int32 × nd_Mem} (x1 : Int32) (σ : nd_Mem) (h : f_X7_seenFrom F x1 σ = some z) : nd_Fn M_X7_seenFrom (nd_rm 2) [.ref 57, .int x1] (nd_SH ++ t) σ (nd_Pi (nd_SH ++ t) z) := by
  refine nd_Fn.ofV (ls := [(0, .ref 57), (1, .int x1)]) pl_X7_seenFrom rfl (fun _ => Nat.le_of_ble_eq_true rfl) (fun _ => rfl) ?_
  unfold f_X7_seenFrom at h
  refine nd_iconst dX7_seenFrom_0 ic_0 ?_
  refine nd_istore_n (ls' := [(2, .int (0 : Int32)), (0, .ref 57), (1, .int x1)]) dX7_seenFrom_1 (by decide) rfl ?_
  refine nd_iconst dX7_seenFrom_2 ic_0 ?_
  refine nd_istore_n (ls' := [(3, .int (0 : Int32)), (2, .int (0 : Int32)), (0, .ref 57), (1, .int x1)]) dX7_seenFrom_3 (by decide) rfl ?_
  refine nd_sub [2, 3, 1, 0] rfl ?_
  exact b_X7_seenFrom_4 F t hL F _ _ _ _ h
def f_X7_couplesThatSee_4_b (F : Nat) (rec4 : Int32 → Int32 → nd_Mem → nd_Res) (x1 : Int32) (x2 : Int32) (σ : nd_Mem) : nd_Res := (if (σ 21 1) ≤ x2 then (some ((x1 / (2 : Int32)), σ)) else (nd_bind (f_X7_seenFrom F x2 σ) fun r1 σ2 => (rec4 (x1 + r1) (x2 + (1 : Int32)) σ2)))
def f_X7_couplesThatSee_4 (F : Nat) : Nat → Int32 → Int32 → nd_Mem → nd_Res
  | 0, _, _, _ => none
  | m9 + 1, x1, x2, σ => f_X7_couplesThatSee_4_b F (f_X7_couplesThatSee_4 F m9) x1 x2 σ
def f_X7_couplesThatSee (F : Nat) (σ : nd_Mem) : nd_Res := (f_X7_couplesThatSee_4 F F (0 : Int32) (0 : Int32) σ)
set_option maxRecDepth 100000 in
set_option maxHeartbeats 4000000 in
theorem b_X7_couplesThatSee_4 (F : Nat) (t : List nd_S) (hL : (nd_SH ++ t).length < nd_ro) {z : Int32 × nd_Mem} (m9 : Nat) : ∀ (x1 : Int32) (x2 : Int32) (σ : nd_Mem), f_X7_couplesThatSee_4 F m9 x1 x2 σ = some z → nd_V M_X7_couplesThatSee (nd_rm 3) (nd_Pi (nd_SH ++ t) z) 0 0 4 [(0, .ref 57), (1, .int x1), (2, .int x2)] [] (nd_SH ++ t) σ := by
  induction m9 with
  | zero =>
    intro x1 x2 σ h
    have h : none = some z := h
    cases h
  | succ m9 hrec4 =>
    intro x1 x2 σ h
    have h : f_X7_couplesThatSee_4_b F (f_X7_couplesThatSee_4 F m9) x1 x2 σ = some z := h
    unfold f_X7_couplesThatSee_4_b at h
    refine nd_iload_n dX7_couplesThatSee_4 2 rfl ?_
    refine nd_aload_n dX7_couplesThatSee_5 0 rfl ?_
    refine nd_get dX7_couplesThatSee_6 gf_X7_9 (sh_57 t) rfl ?_
    refine nd_get dX7_couplesThatSee_9 gf_X7_98 (sh_12 t) rfl ?_
    refine nd_get dX7_couplesThatSee_12 gf_X7_32 (sh_21 t) rfl ?_
    refine nd_icmp_geN dX7_couplesThatSee_15 32 (by decide) h (fun h => ?_) (fun h => ?_)
    · refine nd_iload_n dX7_couplesThatSee_32 1 rfl ?_
      refine nd_iconst dX7_couplesThatSee_33 ic_2 ?_
      refine nd_idiv dX7_couplesThatSee_34 (by decide) ?_
      exact nd_iret dX7_couplesThatSee_35 (Nat.zero_le _) (Nat.zero_le _) (vp_nar_int _) (by cases h; exact ⟨rfl, rfl, rfl⟩)
    · refine nd_iload_n dX7_couplesThatSee_18 1 rfl ?_
      refine nd_aload_n dX7_couplesThatSee_19 0 rfl ?_
      refine nd_iload_n dX7_couplesThatSee_20 2 rfl ?_
      obtain ⟨r1, σ2, hc3, h⟩ := nd_bind_e h
      refine nd_cvi [.int x2] [.int x1] dX7_couplesThatSee_21 cl_X7_101 (sh_57 t) ⟨Nat.le_of_ble_eq_true rfl, Nat.le_of_ble_eq_true rfl⟩ rfl (Nat.le_of_ble_eq_true rfl) hL (t_X7_seenFrom F t hL _ _ hc3) ?_
      refine nd_iadd dX7_couplesThatSee_24 ?_
      refine nd_istore_n (ls' := [(1, .int (x1 + r1)), (0, .ref 57), (2, .int x2)]) dX7_couplesThatSee_25 (by decide) rfl ?_
      refine nd_iinc (v := (x2 + (1 : Int32))) (ls' := [(2, .int (x2 + (1 : Int32))), (1, .int (x1 + r1)), (0, .ref 57)]) dX7_couplesThatSee_26 2 rfl (congrArg (HAdd.hAdd _) ic_1) (by decide) rfl ?_
      refine nd_goto dX7_couplesThatSee_29 4 (by decide) ?_
      refine nd_sub [2, 1, 0] rfl ?_
      exact hrec4 _ _ _ h
set_option maxRecDepth 100000 in
set_option maxHeartbeats 4000000 in
theorem t_X7_couplesThatSee (F : Nat) (t : List nd_S) (hL : (nd_SH ++ t).length < nd_ro) {z : Int32 × nd_Mem} (σ : nd_Mem) (h : f_X7_couplesThatSee F σ = some z) : nd_Fn M_X7_couplesThatSee (nd_rm 3) [.ref 57] (nd_SH ++ t) σ (nd_Pi (nd_SH ++ t) z) := by
  refine nd_Fn.ofV (ls := [(0, .ref 57)]) pl_X7_couplesThatSee rfl (fun _ => Nat.le_of_ble_eq_true rfl) (fun _ => rfl) ?_
  unfold f_X7_couplesThatSee at h
  refine nd_iconst dX7_couplesThatSee_0 ic_0 ?_
  refine nd_istore_n (ls' := [(1, .int (0 : Int32)), (0, .ref 57)]) dX7_couplesThatSee_1 (by decide) rfl ?_
  refine nd_iconst dX7_couplesThatSee_2 ic_0 ?_
  refine nd_istore_n (ls' := [(2, .int (0 : Int32)), (1, .int (0 : Int32)), (0, .ref 57)]) dX7_couplesThatSee_3 (by decide) rfl ?_
  refine nd_sub [2, 1, 0] rfl ?_
  exact b_X7_couplesThatSee_4 F t hL F _ _ _ h
def f_X7_mostSeen_4_b (F : Nat) (rec4 : Int32 → Int32 → nd_Mem → nd_Res) (x1 : Int32) (x2 : Int32) (σ : nd_Mem) : nd_Res := (if (σ 21 1) ≤ x2 then (some (x1, σ)) else (nd_bind (f_X7_seenFrom F x2 σ) fun r1 σ2 => (rec4 (if x1 < r1 then r1 else x1) (x2 + (1 : Int32)) σ2)))
def f_X7_mostSeen_4 (F : Nat) : Nat → Int32 → Int32 → nd_Mem → nd_Res
  | 0, _, _, _ => none
  | m9 + 1, x1, x2, σ => f_X7_mostSeen_4_b F (f_X7_mostSeen_4 F m9) x1 x2 σ
def f_X7_mostSeen (F : Nat) (σ : nd_Mem) : nd_Res := (f_X7_mostSeen_4 F F (0 : Int32) (0 : Int32) σ)
set_option maxRecDepth 100000 in
set_option maxHeartbeats 4000000 in
theorem b_X7_mostSeen_4 (F : Nat) (t : List nd_S) (hL : (nd_SH ++ t).length < nd_ro) {z : Int32 × nd_Mem} (m9 : Nat) : ∀ (x1 : Int32) (x2 : Int32) (σ : nd_Mem), f_X7_mostSeen_4 F m9 x1 x2 σ = some z → nd_V M_X7_mostSeen (nd_rm 3) (nd_Pi (nd_SH ++ t) z) 0 0 4 [(0, .ref 57), (1, .int x1), (2, .int x2)] [] (nd_SH ++ t) σ := by
  induction m9 with
  | zero =>
    intro x1 x2 σ h
    have h : none = some z := h
    cases h
  | succ m9 hrec4 =>
    intro x1 x2 σ h
    have h : f_X7_mostSeen_4_b F (f_X7_mostSeen_4 F m9) x1 x2 σ = some z := h
    unfold f_X7_mostSeen_4_b at h
    refine nd_iload_n dX7_mostSeen_4 2 rfl ?_
    refine nd_aload_n dX7_mostSeen_5 0 rfl ?_
    refine nd_get dX7_mostSeen_6 gf_X7_9 (sh_57 t) rfl ?_
    refine nd_get dX7_mostSeen_9 gf_X7_98 (sh_12 t) rfl ?_
    refine nd_get dX7_mostSeen_12 gf_X7_32 (sh_21 t) rfl ?_
    refine nd_icmp_geN dX7_mostSeen_15 34 (by decide) h (fun h => ?_) (fun h => ?_)
    · refine nd_iload_n dX7_mostSeen_34 1 rfl ?_
      exact nd_iret dX7_mostSeen_35 (Nat.zero_le _) (Nat.zero_le _) (vp_nar_int _) (by cases h; exact ⟨rfl, rfl, rfl⟩)
    · refine nd_iload_n dX7_mostSeen_18 1 rfl ?_
      refine nd_aload_n dX7_mostSeen_19 0 rfl ?_
      refine nd_iload_n dX7_mostSeen_20 2 rfl ?_
      obtain ⟨r1, σ2, hc3, h⟩ := nd_bind_e h
      refine nd_cvi [.int x2] [.int x1] dX7_mostSeen_21 cl_X7_101 (sh_57 t) ⟨Nat.le_of_ble_eq_true rfl, Nat.le_of_ble_eq_true rfl⟩ rfl (Nat.le_of_ble_eq_true rfl) hL (t_X7_seenFrom F t hL _ _ hc3) ?_
      refine nd_max dX7_mostSeen_24 lk_X7_89 wmax_s wmax_i wmax_c ⟨by decide, by decide⟩ (Nat.le_refl _) (Nat.le_refl _) (Nat.le_of_ble_eq_true rfl) ?_
      refine nd_istore_n (ls' := [(1, .int (if x1 < r1 then r1 else x1)), (0, .ref 57), (2, .int x2)]) dX7_mostSeen_27 (by decide) rfl ?_
      refine nd_iinc (v := (x2 + (1 : Int32))) (ls' := [(2, .int (x2 + (1 : Int32))), (1, .int (if x1 < r1 then r1 else x1)), (0, .ref 57)]) dX7_mostSeen_28 2 rfl (congrArg (HAdd.hAdd _) ic_1) (by decide) rfl ?_
      refine nd_goto dX7_mostSeen_31 4 (by decide) ?_
      refine nd_sub [2, 1, 0] rfl ?_
      exact hrec4 _ _ _ h
set_option maxRecDepth 100000 in
set_option maxHeartbeats 4000000 in
theorem t_X7_mostSeen (F : Nat) (t : List nd_S) (hL : (nd_SH ++ t).length < nd_ro) {z : Int32 × nd_Mem} (σ : nd_Mem) (h : f_X7_mostSeen F σ = some z) : nd_Fn M_X7_mostSeen (nd_rm 3) [.ref 57] (nd_SH ++ t) σ (nd_Pi (nd_SH ++ t) z) := by
  refine nd_Fn.ofV (ls := [(0, .ref 57)]) pl_X7_mostSeen rfl (fun _ => Nat.le_of_ble_eq_true rfl) (fun _ => rfl) ?_
  unfold f_X7_mostSeen at h
  refine nd_iconst dX7_mostSeen_0 ic_0 ?_
  refine nd_istore_n (ls' := [(1, .int (0 : Int32)), (0, .ref 57)]) dX7_mostSeen_1 (by decide) rfl ?_
  refine nd_iconst dX7_mostSeen_2 ic_0 ?_
  refine nd_istore_n (ls' := [(2, .int (0 : Int32)), (1, .int (0 : Int32)), (0, .ref 57)]) dX7_mostSeen_3 (by decide) rfl ?_
  refine nd_sub [2, 1, 0] rfl ?_
  exact b_X7_mostSeen_4 F t hL F _ _ _ h
