def f_X1_forget (F : Nat) (σ : nd_Mem) : nd_Res := (nd_let (nd_up σ 24 1 (0 : Int32)) fun σ1 => (some (0, σ1)))
set_option maxRecDepth 100000 in
set_option maxHeartbeats 4000000 in
theorem t_X1_forget (F : Nat) (t : List nd_S) (hL : (nd_SH ++ t).length < nd_ro) {z : Int32 × nd_Mem} (σ : nd_Mem) (h : f_X1_forget F σ = some z) : nd_Fn M_X1_forget (nd_rm 0) [.ref 24] (nd_SH ++ t) σ (nd_Pv (nd_SH ++ t) z) := by
  refine nd_Fn.ofV (ls := [(0, .ref 24)]) pl_X1_forget rfl (fun _ => Nat.le_of_ble_eq_true rfl) (fun _ => rfl) ?_
  unfold f_X1_forget at h
  refine nd_aload_n dX1_forget_0 0 rfl ?_
  refine nd_iconst dX1_forget_1 ic_0 ?_
  refine nd_putiN dX1_forget_2 pf_X1_18 (sh_24 t) rfl h (fun σ1 h => ?_)
  exact nd_vret dX1_forget_5 (Nat.zero_le _) (Nat.zero_le _) trivial (by cases h; exact ⟨rfl, rfl, rfl⟩)
def f_X4_add (F : Nat) (b a n : Nat) (x1 : Int32) (σ : nd_Mem) : nd_Res := (if (σ b 1) < (Int32.ofNat n) then (if (σ b 1) < 0 ∨ n ≤ ((σ b 1)).toNatClampNeg then none else (nd_let (nd_up σ a ((σ b 1)).toNatClampNeg x1) fun σ1 => (nd_let (nd_up σ1 b 1 ((σ1 b 1) + (1 : Int32))) fun σ2 => (some ((σ2 b 1), σ2))))) else (some ((-1 : Int32), σ)))
set_option maxRecDepth 100000 in
set_option maxHeartbeats 4000000 in
theorem t_X4_add (F : Nat) (b a n : Nat) (sh : List nd_S) (hL : sh.length < nd_ro) (hs : is_Row sh b a n) {z : Int32 × nd_Mem} (x1 : Int32) (σ : nd_Mem) (h : f_X4_add F b a n x1 σ = some z) : nd_Fn M_X4_add (nd_rm 0) [.ref b, .int x1] sh σ (nd_Pi sh z) := by
  refine nd_Fn.ofV (ls := [(0, .ref b), (1, .int x1)]) pl_X4_add rfl (fun _ => Nat.le_of_ble_eq_true rfl) (fun _ => rfl) ?_
  unfold f_X4_add at h
  refine nd_aload_n dX4_add_0 0 rfl ?_
  refine nd_get dX4_add_1 gf_X4_21 hs.1 rfl ?_
  refine nd_aload_n dX4_add_4 0 rfl ?_
  refine nd_get dX4_add_5 gf_X4_15 hs.1 rfl ?_
  refine nd_alen (v := (Int32.ofNat n)) dX4_add_8 hs.2 rfl ?_
  refine nd_icmp_ltN dX4_add_9 14 (by decide) h (fun h => ?_) (fun h => ?_)
  · refine nd_aload_n dX4_add_14 0 rfl ?_
    refine nd_get dX4_add_15 gf_X4_15 hs.1 rfl ?_
    refine nd_aload_n dX4_add_18 0 rfl ?_
    refine nd_get dX4_add_19 gf_X4_21 hs.1 rfl ?_
    refine nd_iload_n dX4_add_22 1 rfl ?_
    refine nd_iastoreN dX4_add_23 hs.2 h (fun σ1 h => ?_)
    refine nd_aload_n dX4_add_24 0 rfl ?_
    refine nd_dup dX4_add_25 rfl ?_
    refine nd_get dX4_add_26 gf_X4_21 hs.1 rfl ?_
    refine nd_iconst dX4_add_29 ic_1 ?_
    refine nd_iadd dX4_add_30 ?_
    refine nd_putiN dX4_add_31 pf_X4_21 hs.1 rfl h (fun σ2 h => ?_)
    refine nd_aload_n dX4_add_34 0 rfl ?_
    refine nd_get dX4_add_35 gf_X4_21 hs.1 rfl ?_
    exact nd_iret dX4_add_38 (Nat.zero_le _) (Nat.zero_le _) (vp_nar_int _) (by cases h; exact ⟨rfl, rfl, rfl⟩)
  · refine nd_iconst dX4_add_12 ic_m1 ?_
    exact nd_iret dX4_add_13 (Nat.zero_le _) (Nat.zero_le _) (vp_nar_int _) (by cases h; exact ⟨rfl, rfl, rfl⟩)
def f_X4_at_21 (F : Nat) (b a n : Nat) (σ : nd_Mem) : nd_Res := (some ((-1 : Int32), σ))
def f_X4_at (F : Nat) (b a n : Nat) (x1 : Int32) (σ : nd_Mem) : nd_Res := (if x1 < 0 then (f_X4_at_21 F b a n σ) else (if (σ b 1) ≤ x1 then (f_X4_at_21 F b a n σ) else (if x1 < 0 ∨ n ≤ (x1).toNatClampNeg then none else (some ((σ a (x1).toNatClampNeg), σ)))))
set_option maxRecDepth 100000 in
set_option maxHeartbeats 4000000 in
theorem b_X4_at_21 (F : Nat) (b a n : Nat) (sh : List nd_S) (hL : sh.length < nd_ro) (hs : is_Row sh b a n) {z : Int32 × nd_Mem} (σ : nd_Mem) (h : f_X4_at_21 F b a n σ = some z) : nd_V M_X4_at (nd_rm 0) (nd_Pi sh z) 0 0 21 [(0, .ref b)] [] sh σ := by
  unfold f_X4_at_21 at h
  refine nd_iconst dX4_at_21 ic_m1 ?_
  exact nd_iret dX4_at_22 (Nat.zero_le _) (Nat.zero_le _) (vp_nar_int _) (by cases h; exact ⟨rfl, rfl, rfl⟩)
set_option maxRecDepth 100000 in
set_option maxHeartbeats 4000000 in
theorem t_X4_at (F : Nat) (b a n : Nat) (sh : List nd_S) (hL : sh.length < nd_ro) (hs : is_Row sh b a n) {z : Int32 × nd_Mem} (x1 : Int32) (σ : nd_Mem) (h : f_X4_at F b a n x1 σ = some z) : nd_Fn M_X4_at (nd_rm 0) [.ref b, .int x1] sh σ (nd_Pi sh z) := by
  refine nd_Fn.ofV (ls := [(0, .ref b), (1, .int x1)]) pl_X4_at rfl (fun _ => Nat.le_of_ble_eq_true rfl) (fun _ => rfl) ?_
  unfold f_X4_at at h
  refine nd_iload_n dX4_at_0 1 rfl ?_
  refine nd_if_ltN dX4_at_1 21 (by decide) h (fun h => ?_) (fun h => ?_)
  · refine nd_sub [0] rfl ?_
    exact b_X4_at_21 F b a n sh hL hs _ h
  · refine nd_iload_n dX4_at_4 1 rfl ?_
    refine nd_aload_n dX4_at_5 0 rfl ?_
    refine nd_get dX4_at_6 gf_X4_21 hs.1 rfl ?_
    refine nd_icmp_geN dX4_at_9 21 (by decide) h (fun h => ?_) (fun h => ?_)
    · refine nd_sub [0] rfl ?_
      exact b_X4_at_21 F b a n sh hL hs _ h
    · refine nd_aload_n dX4_at_12 0 rfl ?_
      refine nd_get dX4_at_13 gf_X4_15 hs.1 rfl ?_
      refine nd_iload_n dX4_at_16 1 rfl ?_
      refine nd_ialoadN dX4_at_17 hs.2 h (fun h => ?_)
      refine nd_goto dX4_at_18 22 (by decide) ?_
      exact nd_iret dX4_at_22 (Nat.zero_le _) (Nat.zero_le _) (vp_nar_int _) (by cases h; exact ⟨rfl, rfl, rfl⟩)
def f_X4_clear (F : Nat) (b a n : Nat) (σ : nd_Mem) : nd_Res := (nd_let (nd_up σ b 1 (0 : Int32)) fun σ1 => (some ((σ1 b 1), σ1)))
set_option maxRecDepth 100000 in
set_option maxHeartbeats 4000000 in
theorem t_X4_clear (F : Nat) (b a n : Nat) (sh : List nd_S) (hL : sh.length < nd_ro) (hs : is_Row sh b a n) {z : Int32 × nd_Mem} (σ : nd_Mem) (h : f_X4_clear F b a n σ = some z) : nd_Fn M_X4_clear (nd_rm 0) [.ref b] sh σ (nd_Pi sh z) := by
  refine nd_Fn.ofV (ls := [(0, .ref b)]) pl_X4_clear rfl (fun _ => Nat.le_of_ble_eq_true rfl) (fun _ => rfl) ?_
  unfold f_X4_clear at h
  refine nd_aload_n dX4_clear_0 0 rfl ?_
  refine nd_iconst dX4_clear_1 ic_0 ?_
  refine nd_putiN dX4_clear_2 pf_X4_21 hs.1 rfl h (fun σ1 h => ?_)
  refine nd_aload_n dX4_clear_5 0 rfl ?_
  refine nd_get dX4_clear_6 gf_X4_21 hs.1 rfl ?_
  exact nd_iret dX4_clear_9 (Nat.zero_le _) (Nat.zero_le _) (vp_nar_int _) (by cases h; exact ⟨rfl, rfl, rfl⟩)
def f_X5_addFeud (F : Nat) (b : Nat) (x1 : Int32) (x2 : Int32) (σ : nd_Mem) : nd_Res := (if x1 < 0 then (some (0, σ)) else (if (16 : Int32) ≤ x1 then (some (0, σ)) else (if x1 < 0 ∨ 16 ≤ (x1).toNatClampNeg then none else (if x1 < 0 ∨ 16 ≤ (x1).toNatClampNeg then none else (nd_let (nd_up σ (b + 7) (x1).toNatClampNeg ((σ (b + 7) (x1).toNatClampNeg) ||| ((1 : Int32) <<< (x2 &&& 31)))) fun σ1 => (nd_let (nd_up σ1 b 4 ((σ1 b 4) + (1 : Int32))) fun σ2 => (some (0, σ2))))))))
set_option maxRecDepth 100000 in
set_option maxHeartbeats 4000000 in
theorem t_X5_addFeud (F : Nat) (b : Nat) (sh : List nd_S) (hL : sh.length < nd_ro) (hs : is_Rules sh b) {z : Int32 × nd_Mem} (x1 : Int32) (x2 : Int32) (σ : nd_Mem) (h : f_X5_addFeud F b x1 x2 σ = some z) : nd_Fn M_X5_addFeud (nd_rm 0) [.ref b, .int x1, .int x2] sh σ (nd_Pv sh z) := by
  refine nd_Fn.ofV (ls := [(0, .ref b), (1, .int x1), (2, .int x2)]) pl_X5_addFeud rfl (fun _ => Nat.le_of_ble_eq_true rfl) (fun _ => rfl) ?_
  unfold f_X5_addFeud at h
  refine nd_iload_n dX5_addFeud_0 1 rfl ?_
  refine nd_if_ltN dX5_addFeud_1 32 (by decide) h (fun h => ?_) (fun h => ?_)
  · exact nd_vret dX5_addFeud_32 (Nat.zero_le _) (Nat.zero_le _) trivial (by cases h; exact ⟨rfl, rfl, rfl⟩)
  · refine nd_iload_n dX5_addFeud_4 1 rfl ?_
    refine nd_bipush dX5_addFeud_5 ib_16 ?_
    refine nd_icmp_geN dX5_addFeud_7 32 (by decide) h (fun h => ?_) (fun h => ?_)
    · exact nd_vret dX5_addFeud_32 (Nat.zero_le _) (Nat.zero_le _) trivial (by cases h; exact ⟨rfl, rfl, rfl⟩)
    · refine nd_aload_n dX5_addFeud_10 0 rfl ?_
      refine nd_get dX5_addFeud_11 gf_X5_26 hs.1 rfl ?_
      refine nd_iload_n dX5_addFeud_14 1 rfl ?_
      refine nd_dup2 dX5_addFeud_15 rfl rfl ?_
      refine nd_ialoadN dX5_addFeud_16 hs.2.2.2.2 h (fun h => ?_)
      refine nd_iconst dX5_addFeud_17 ic_1 ?_
      refine nd_iload_n dX5_addFeud_18 2 rfl ?_
      refine nd_ishl dX5_addFeud_19 ?_
      refine nd_ior dX5_addFeud_20 ?_
      refine nd_iastoreN dX5_addFeud_21 hs.2.2.2.2 h (fun σ1 h => ?_)
      refine nd_aload_n dX5_addFeud_22 0 rfl ?_
      refine nd_dup dX5_addFeud_23 rfl ?_
      refine nd_get dX5_addFeud_24 gf_X5_40 hs.1 rfl ?_
      refine nd_iconst dX5_addFeud_27 ic_1 ?_
      refine nd_iadd dX5_addFeud_28 ?_
      refine nd_putiN dX5_addFeud_29 pf_X5_40 hs.1 rfl h (fun σ2 h => ?_)
      exact nd_vret dX5_addFeud_32 (Nat.zero_le _) (Nat.zero_le _) trivial (by cases h; exact ⟨rfl, rfl, rfl⟩)
def f_X5_addSide (F : Nat) (b : Nat) (x1 : Int32) (x2 : Int32) (σ : nd_Mem) : nd_Res := (nd_let (nd_up σ b 5 ((σ b 5) &&& (((1 : Int32) <<< (x1 &&& 31)) ^^^ (-1 : Int32)))) fun σ1 => (nd_let (nd_up σ1 b 5 ((σ1 b 5) ||| (x2 <<< (x1 &&& 31)))) fun σ2 => (nd_let (nd_up σ2 b 6 ((σ2 b 6) + (1 : Int32))) fun σ3 => (some (0, σ3)))))
set_option maxRecDepth 100000 in
set_option maxHeartbeats 4000000 in
theorem t_X5_addSide (F : Nat) (b : Nat) (sh : List nd_S) (hL : sh.length < nd_ro) (hs : is_Rules sh b) {z : Int32 × nd_Mem} (x1 : Int32) (x2 : Int32) (σ : nd_Mem) (h : f_X5_addSide F b x1 x2 σ = some z) : nd_Fn M_X5_addSide (nd_rm 0) [.ref b, .int x1, .int x2] sh σ (nd_Pv sh z) := by
  refine nd_Fn.ofV (ls := [(0, .ref b), (1, .int x1), (2, .int x2)]) pl_X5_addSide rfl (fun _ => Nat.le_of_ble_eq_true rfl) (fun _ => rfl) ?_
  unfold f_X5_addSide at h
  refine nd_aload_n dX5_addSide_0 0 rfl ?_
  refine nd_dup dX5_addSide_1 rfl ?_
  refine nd_get dX5_addSide_2 gf_X5_44 hs.1 rfl ?_
  refine nd_iconst dX5_addSide_5 ic_1 ?_
  refine nd_iload_n dX5_addSide_6 1 rfl ?_
  refine nd_ishl dX5_addSide_7 ?_
  refine nd_iconst dX5_addSide_8 ic_m1 ?_
  refine nd_ixor dX5_addSide_9 ?_
  refine nd_iand dX5_addSide_10 ?_
  refine nd_putiN dX5_addSide_11 pf_X5_44 hs.1 rfl h (fun σ1 h => ?_)
  refine nd_aload_n dX5_addSide_14 0 rfl ?_
  refine nd_dup dX5_addSide_15 rfl ?_
  refine nd_get dX5_addSide_16 gf_X5_44 hs.1 rfl ?_
  refine nd_iload_n dX5_addSide_19 2 rfl ?_
  refine nd_iload_n dX5_addSide_20 1 rfl ?_
  refine nd_ishl dX5_addSide_21 ?_
  refine nd_ior dX5_addSide_22 ?_
  refine nd_putiN dX5_addSide_23 pf_X5_44 hs.1 rfl h (fun σ2 h => ?_)
  refine nd_aload_n dX5_addSide_26 0 rfl ?_
  refine nd_dup dX5_addSide_27 rfl ?_
  refine nd_get dX5_addSide_28 gf_X5_47 hs.1 rfl ?_
  refine nd_iconst dX5_addSide_31 ic_1 ?_
  refine nd_iadd dX5_addSide_32 ?_
  refine nd_putiN dX5_addSide_33 pf_X5_47 hs.1 rfl h (fun σ3 h => ?_)
  exact nd_vret dX5_addSide_36 (Nat.zero_le _) (Nat.zero_le _) trivial (by cases h; exact ⟨rfl, rfl, rfl⟩)
def f_X5_feudsOf_19 (F : Nat) (b : Nat) (σ : nd_Mem) : nd_Res := (some ((0 : Int32), σ))
def f_X5_feudsOf (F : Nat) (b : Nat) (x1 : Int32) (σ : nd_Mem) : nd_Res := (if x1 < 0 then (f_X5_feudsOf_19 F b σ) else (if (16 : Int32) ≤ x1 then (f_X5_feudsOf_19 F b σ) else (if x1 < 0 ∨ 16 ≤ (x1).toNatClampNeg then none else (some ((σ (b + 7) (x1).toNatClampNeg), σ)))))
set_option maxRecDepth 100000 in
set_option maxHeartbeats 4000000 in
theorem b_X5_feudsOf_19 (F : Nat) (b : Nat) (sh : List nd_S) (hL : sh.length < nd_ro) (hs : is_Rules sh b) {z : Int32 × nd_Mem} (σ : nd_Mem) (h : f_X5_feudsOf_19 F b σ = some z) : nd_V M_X5_feudsOf (nd_rm 0) (nd_Pi sh z) 0 0 19 [(0, .ref b)] [] sh σ := by
  unfold f_X5_feudsOf_19 at h
  refine nd_iconst dX5_feudsOf_19 ic_0 ?_
  exact nd_iret dX5_feudsOf_20 (Nat.zero_le _) (Nat.zero_le _) (vp_nar_int _) (by cases h; exact ⟨rfl, rfl, rfl⟩)
set_option maxRecDepth 100000 in
set_option maxHeartbeats 4000000 in
theorem t_X5_feudsOf (F : Nat) (b : Nat) (sh : List nd_S) (hL : sh.length < nd_ro) (hs : is_Rules sh b) {z : Int32 × nd_Mem} (x1 : Int32) (σ : nd_Mem) (h : f_X5_feudsOf F b x1 σ = some z) : nd_Fn M_X5_feudsOf (nd_rm 0) [.ref b, .int x1] sh σ (nd_Pi sh z) := by
  refine nd_Fn.ofV (ls := [(0, .ref b), (1, .int x1)]) pl_X5_feudsOf rfl (fun _ => Nat.le_of_ble_eq_true rfl) (fun _ => rfl) ?_
  unfold f_X5_feudsOf at h
  refine nd_iload_n dX5_feudsOf_0 1 rfl ?_
  refine nd_if_ltN dX5_feudsOf_1 19 (by decide) h (fun h => ?_) (fun h => ?_)
  · refine nd_sub [0] rfl ?_
    exact b_X5_feudsOf_19 F b sh hL hs _ h
  · refine nd_iload_n dX5_feudsOf_4 1 rfl ?_
    refine nd_bipush dX5_feudsOf_5 ib_16 ?_
    refine nd_icmp_geN dX5_feudsOf_7 19 (by decide) h (fun h => ?_) (fun h => ?_)
    · refine nd_sub [0] rfl ?_
      exact b_X5_feudsOf_19 F b sh hL hs _ h
    · refine nd_aload_n dX5_feudsOf_10 0 rfl ?_
      refine nd_get dX5_feudsOf_11 gf_X5_26 hs.1 rfl ?_
      refine nd_iload_n dX5_feudsOf_14 1 rfl ?_
      refine nd_ialoadN dX5_feudsOf_15 hs.2.2.2.2 h (fun h => ?_)
      refine nd_goto dX5_feudsOf_16 20 (by decide) ?_
      exact nd_iret dX5_feudsOf_20 (Nat.zero_le _) (Nat.zero_le _) (vp_nar_int _) (by cases h; exact ⟨rfl, rfl, rfl⟩)
def f_X5_linesOf (F : Nat) (b : Nat) (x1 : Int32) (σ : nd_Mem) : nd_Res := (if x1 = (0 : Int32) then (some (((σ (b + 1) 1) / (4 : Int32)), σ)) else (if x1 = (1 : Int32) then (some (((σ (b + 5) 1) / (4 : Int32)), σ)) else (if x1 = (2 : Int32) then (some ((σ b 4), σ)) else (some ((σ b 6), σ)))))
set_option maxRecDepth 100000 in
set_option maxHeartbeats 4000000 in
theorem t_X5_linesOf (F : Nat) (b : Nat) (sh : List nd_S) (hL : sh.length < nd_ro) (hs : is_Rules sh b) {z : Int32 × nd_Mem} (x1 : Int32) (σ : nd_Mem) (h : f_X5_linesOf F b x1 σ = some z) : nd_Fn M_X5_linesOf (nd_rm 0) [.ref b, .int x1] sh σ (nd_Pi sh z) := by
  refine nd_Fn.ofV (ls := [(0, .ref b), (1, .int x1)]) pl_X5_linesOf rfl (fun _ => Nat.le_of_ble_eq_true rfl) (fun _ => rfl) ?_
  unfold f_X5_linesOf at h
  refine nd_iload_n dX5_linesOf_0 1 rfl ?_
  rcases nd_ite_e h with ⟨c1, h⟩ | ⟨c1, h⟩
  · refine nd_tin dX5_linesOf_1 0 (by rw [c1] <;> decide) (by rw [c1] <;> decide) rfl 28 (by decide) ?_
    refine nd_aload_n dX5_linesOf_28 0 rfl ?_
    refine nd_get dX5_linesOf_29 gf_X5_14 hs.1 rfl ?_
    refine nd_get dX5_linesOf_32 gf_X5_64 hs.2.1.1 rfl ?_
    refine nd_iconst dX5_linesOf_35 ic_4 ?_
    refine nd_idiv dX5_linesOf_36 (by decide) ?_
    exact nd_iret dX5_linesOf_37 (Nat.zero_le _) (Nat.zero_le _) (vp_nar_int _) (by cases h; exact ⟨rfl, rfl, rfl⟩)
  rcases nd_ite_e h with ⟨c2, h⟩ | ⟨c2, h⟩
  · refine nd_tin dX5_linesOf_1 1 (by rw [c2] <;> decide) (by rw [c2] <;> decide) rfl 38 (by decide) ?_
    refine nd_aload_n dX5_linesOf_38 0 rfl ?_
    refine nd_get dX5_linesOf_39 gf_X5_23 hs.1 rfl ?_
    refine nd_get dX5_linesOf_42 gf_X5_64 hs.2.2.2.1.1 rfl ?_
    refine nd_iconst dX5_linesOf_45 ic_4 ?_
    refine nd_idiv dX5_linesOf_46 (by decide) ?_
    exact nd_iret dX5_linesOf_47 (Nat.zero_le _) (Nat.zero_le _) (vp_nar_int _) (by cases h; exact ⟨rfl, rfl, rfl⟩)
  rcases nd_ite_e h with ⟨c3, h⟩ | ⟨c3, h⟩
  · refine nd_tin dX5_linesOf_1 2 (by rw [c3] <;> decide) (by rw [c3] <;> decide) rfl 48 (by decide) ?_
    refine nd_aload_n dX5_linesOf_48 0 rfl ?_
    refine nd_get dX5_linesOf_49 gf_X5_40 hs.1 rfl ?_
    exact nd_iret dX5_linesOf_52 (Nat.zero_le _) (Nat.zero_le _) (vp_nar_int _) (by cases h; exact ⟨rfl, rfl, rfl⟩)
  refine nd_tout dX5_linesOf_1 (fun j h1 h2 => ?_) 53 (by decide) ?_
  · rcases (show j = 0 ∨ j = 1 ∨ j = 2 by omega) with rfl | rfl | rfl
    · exact fun e => c1 (e.trans ic_0)
    · exact fun e => c2 (e.trans ic_1)
    · exact fun e => c3 (e.trans ic_2)
  · refine nd_aload_n dX5_linesOf_53 0 rfl ?_
    refine nd_get dX5_linesOf_54 gf_X5_47 hs.1 rfl ?_
    exact nd_iret dX5_linesOf_57 (Nat.zero_le _) (Nat.zero_le _) (vp_nar_int _) (by cases h; exact ⟨rfl, rfl, rfl⟩)
def f_X5_sideOf (F : Nat) (b : Nat) (x1 : Int32) (σ : nd_Mem) : nd_Res := (some ((((σ b 5) >>> (x1 &&& 31)) &&& (1 : Int32)), σ))
set_option maxRecDepth 100000 in
set_option maxHeartbeats 4000000 in
theorem t_X5_sideOf (F : Nat) (b : Nat) (sh : List nd_S) (hL : sh.length < nd_ro) (hs : is_Rules sh b) {z : Int32 × nd_Mem} (x1 : Int32) (σ : nd_Mem) (h : f_X5_sideOf F b x1 σ = some z) : nd_Fn M_X5_sideOf (nd_rm 0) [.ref b, .int x1] sh σ (nd_Pi sh z) := by
  refine nd_Fn.ofV (ls := [(0, .ref b), (1, .int x1)]) pl_X5_sideOf rfl (fun _ => Nat.le_of_ble_eq_true rfl) (fun _ => rfl) ?_
  unfold f_X5_sideOf at h
  refine nd_aload_n dX5_sideOf_0 0 rfl ?_
  refine nd_get dX5_sideOf_1 gf_X5_44 hs.1 rfl ?_
  refine nd_iload_n dX5_sideOf_4 1 rfl ?_
  refine nd_ishr dX5_sideOf_5 ?_
  refine nd_iconst dX5_sideOf_6 ic_1 ?_
  refine nd_iand dX5_sideOf_7 ?_
  exact nd_iret dX5_sideOf_8 (Nat.zero_le _) (Nat.zero_le _) (vp_nar_int _) (by cases h; exact ⟨rfl, rfl, rfl⟩)
def f_X6_draw (F : Nat) (b a : Nat) (x1 : Int32) (σ : nd_Mem) : nd_Res := (nd_let (nd_up σ b 7 (((1664525 : Int32) * (σ b 7)) + (1013904223 : Int32))) fun σ1 => (if x1 ≤ 0 then (some ((0 : Int32), σ1)) else (if x1 = 0 then none else (some ((q_rem (q_ushr (σ1 b 7) (8 : Int32)) x1), σ1)))))
set_option maxRecDepth 100000 in
set_option maxHeartbeats 4000000 in
theorem t_X6_draw (F : Nat) (b a : Nat) (sh : List nd_S) (hL : sh.length < nd_ro) (hs : is_Street sh b a) {z : Int32 × nd_Mem} (x1 : Int32) (σ : nd_Mem) (h : f_X6_draw F b a x1 σ = some z) : nd_Fn M_X6_draw (nd_rm 0) [.ref b, .int x1] sh σ (nd_Pi sh z) := by
  refine nd_Fn.ofV (ls := [(0, .ref b), (1, .int x1)]) pl_X6_draw rfl (fun _ => Nat.le_of_ble_eq_true rfl) (fun _ => rfl) ?_
  unfold f_X6_draw at h
  refine nd_aload_n dX6_draw_0 0 rfl ?_
  refine nd_ldc dX6_draw_1 kc_X6_42 ?_
  refine nd_aload_n dX6_draw_3 0 rfl ?_
  refine nd_get dX6_draw_4 gf_X6_43 hs.1 rfl ?_
  refine nd_imul dX6_draw_7 ?_
  refine nd_ldc dX6_draw_8 kc_X6_46 ?_
  refine nd_iadd dX6_draw_10 ?_
  refine nd_putiN dX6_draw_11 pf_X6_43 hs.1 rfl h (fun σ1 h => ?_)
  refine nd_iload_n dX6_draw_14 1 rfl ?_
  refine nd_if_leN dX6_draw_15 30 (by decide) h (fun h => ?_) (fun h => ?_)
  · refine nd_iconst dX6_draw_30 ic_0 ?_
    exact nd_iret dX6_draw_31 (Nat.zero_le _) (Nat.zero_le _) (vp_nar_int _) (by cases h; exact ⟨rfl, rfl, rfl⟩)
  · refine nd_aload_n dX6_draw_18 0 rfl ?_
    refine nd_get dX6_draw_19 gf_X6_43 hs.1 rfl ?_
    refine nd_bipush dX6_draw_22 ib_8 ?_
    refine nd_iushr dX6_draw_24 ?_
    refine nd_iload_n dX6_draw_25 1 rfl ?_
    refine nd_iremN dX6_draw_26 h (fun h => ?_)
    refine nd_goto dX6_draw_27 31 (by decide) ?_
    exact nd_iret dX6_draw_31 (Nat.zero_le _) (Nat.zero_le _) (vp_nar_int _) (by cases h; exact ⟨rfl, rfl, rfl⟩)
def f_X6_get_27 (F : Nat) (b a : Nat) (x1 : Int32) (x2 : Int32) (s0 : Int32) (σ : nd_Mem) : nd_Res := (if s0 = 0 then (some ((-1 : Int32), σ)) else (if ((x1 * (6 : Int32)) + x2) < 0 ∨ 96 ≤ (((x1 * (6 : Int32)) + x2)).toNatClampNeg then none else (some ((σ a (((x1 * (6 : Int32)) + x2)).toNatClampNeg), σ))))
def f_X6_get_26 (F : Nat) (b a : Nat) (x1 : Int32) (x2 : Int32) (σ : nd_Mem) : nd_Res := (f_X6_get_27 F b a x1 x2 (0 : Int32) σ)
def f_X6_get (F : Nat) (b a : Nat) (x1 : Int32) (x2 : Int32) (σ : nd_Mem) : nd_Res := (if x1 < 0 then (f_X6_get_26 F b a x1 x2 σ) else (if (σ b 1) ≤ x1 then (f_X6_get_26 F b a x1 x2 σ) else (if x2 < 0 then (f_X6_get_26 F b a x1 x2 σ) else (if (6 : Int32) ≤ x2 then (f_X6_get_26 F b a x1 x2 σ) else (f_X6_get_27 F b a x1 x2 (1 : Int32) σ)))))
set_option maxRecDepth 100000 in
set_option maxHeartbeats 4000000 in
theorem b_X6_get_27 (F : Nat) (b a : Nat) (sh : List nd_S) (hL : sh.length < nd_ro) (hs : is_Street sh b a) {z : Int32 × nd_Mem} (x1 : Int32) (x2 : Int32) (s0 : Int32) (σ : nd_Mem) (h : f_X6_get_27 F b a x1 x2 s0 σ = some z) : nd_V M_X6_get (nd_rm 0) (nd_Pi sh z) 0 0 27 [(0, .ref b), (1, .int x1), (2, .int x2)] [.int s0] sh σ := by
  unfold f_X6_get_27 at h
  refine nd_istore_n (ls' := [(3, .int s0), (0, .ref b), (1, .int x1), (2, .int x2)]) dX6_get_27 (by decide) rfl ?_
  refine nd_iload_n dX6_get_28 0 rfl ?_
  refine nd_if_eqN dX6_get_29 46 (by decide) h (fun h => ?_) (fun h => ?_)
  · refine nd_iconst dX6_get_46 ic_m1 ?_
    exact nd_iret dX6_get_47 (Nat.zero_le _) (Nat.zero_le _) (vp_nar_int _) (by cases h; exact ⟨rfl, rfl, rfl⟩)
  · refine nd_aload_n dX6_get_32 1 rfl ?_
    refine nd_get dX6_get_33 gf_X6_9 hs.1 rfl ?_
    refine nd_iload_n dX6_get_36 2 rfl ?_
    refine nd_bipush dX6_get_37 ib_6 ?_
    refine nd_imul dX6_get_39 ?_
    refine nd_iload_n dX6_get_40 3 rfl ?_
    refine nd_iadd dX6_get_41 ?_
    refine nd_ialoadN dX6_get_42 hs.2 h (fun h => ?_)
    refine nd_goto dX6_get_43 47 (by decide) ?_
    exact nd_iret dX6_get_47 (Nat.zero_le _) (Nat.zero_le _) (vp_nar_int _) (by cases h; exact ⟨rfl, rfl, rfl⟩)
set_option maxRecDepth 100000 in
set_option maxHeartbeats 4000000 in
theorem b_X6_get_26 (F : Nat) (b a : Nat) (sh : List nd_S) (hL : sh.length < nd_ro) (hs : is_Street sh b a) {z : Int32 × nd_Mem} (x1 : Int32) (x2 : Int32) (σ : nd_Mem) (h : f_X6_get_26 F b a x1 x2 σ = some z) : nd_V M_X6_get (nd_rm 0) (nd_Pi sh z) 0 0 26 [(0, .ref b), (1, .int x1), (2, .int x2)] [] sh σ := by
  unfold f_X6_get_26 at h
  refine nd_iconst dX6_get_26 ic_0 ?_
  exact b_X6_get_27 F b a sh hL hs _ _ _ _ h
set_option maxRecDepth 100000 in
set_option maxHeartbeats 4000000 in
theorem t_X6_get (F : Nat) (b a : Nat) (sh : List nd_S) (hL : sh.length < nd_ro) (hs : is_Street sh b a) {z : Int32 × nd_Mem} (x1 : Int32) (x2 : Int32) (σ : nd_Mem) (h : f_X6_get F b a x1 x2 σ = some z) : nd_Fn M_X6_get (nd_rm 0) [.ref b, .int x1, .int x2] sh σ (nd_Pi sh z) := by
  refine nd_Fn.ofV (ls := [(0, .ref b), (1, .int x1), (2, .int x2)]) pl_X6_get rfl (fun _ => Nat.le_of_ble_eq_true rfl) (fun _ => rfl) ?_
  unfold f_X6_get at h
  refine nd_iload_n dX6_get_0 1 rfl ?_
  refine nd_if_ltN dX6_get_1 26 (by decide) h (fun h => ?_) (fun h => ?_)
  · exact b_X6_get_26 F b a sh hL hs _ _ _ h
  · refine nd_iload_n dX6_get_4 1 rfl ?_
    refine nd_aload_n dX6_get_5 0 rfl ?_
    refine nd_get dX6_get_6 gf_X6_19 hs.1 rfl ?_
    refine nd_icmp_geN dX6_get_9 26 (by decide) h (fun h => ?_) (fun h => ?_)
    · exact b_X6_get_26 F b a sh hL hs _ _ _ h
    · refine nd_iload_n dX6_get_12 2 rfl ?_
      refine nd_if_ltN dX6_get_13 26 (by decide) h (fun h => ?_) (fun h => ?_)
      · exact b_X6_get_26 F b a sh hL hs _ _ _ h
      · refine nd_iload_n dX6_get_16 2 rfl ?_
        refine nd_bipush dX6_get_17 ib_6 ?_
        refine nd_icmp_geN dX6_get_19 26 (by decide) h (fun h => ?_) (fun h => ?_)
        · exact b_X6_get_26 F b a sh hL hs _ _ _ h
        · refine nd_iconst dX6_get_22 ic_1 ?_
          refine nd_goto dX6_get_23 27 (by decide) ?_
          exact b_X6_get_27 F b a sh hL hs _ _ _ _ h
def f_X6_has_16 (F : Nat) (b a : Nat) (σ : nd_Mem) : nd_Res := (some ((0 : Int32), σ))
def f_X6_has (F : Nat) (b a : Nat) (x1 : Int32) (σ : nd_Mem) : nd_Res := (if x1 < 0 then (f_X6_has_16 F b a σ) else (if (σ b 1) ≤ x1 then (f_X6_has_16 F b a σ) else (some ((1 : Int32), σ))))
set_option maxRecDepth 100000 in
set_option maxHeartbeats 4000000 in
theorem b_X6_has_16 (F : Nat) (b a : Nat) (sh : List nd_S) (hL : sh.length < nd_ro) (hs : is_Street sh b a) {z : Int32 × nd_Mem} (σ : nd_Mem) (h : f_X6_has_16 F b a σ = some z) : nd_V M_X6_has (nd_rm 0) (nd_Pi sh z) 0 0 16 [(0, .ref b)] [] sh σ := by
  unfold f_X6_has_16 at h
  refine nd_iconst dX6_has_16 ic_0 ?_
  exact nd_iret dX6_has_17 (Nat.zero_le _) (Nat.zero_le _) rfl (by cases h; exact ⟨rfl, rfl, rfl⟩)
set_option maxRecDepth 100000 in
set_option maxHeartbeats 4000000 in
theorem t_X6_has (F : Nat) (b a : Nat) (sh : List nd_S) (hL : sh.length < nd_ro) (hs : is_Street sh b a) {z : Int32 × nd_Mem} (x1 : Int32) (σ : nd_Mem) (h : f_X6_has F b a x1 σ = some z) : nd_Fn M_X6_has (nd_rm 0) [.ref b, .int x1] sh σ (nd_Pi sh z) := by
  refine nd_Fn.ofV (ls := [(0, .ref b), (1, .int x1)]) pl_X6_has rfl (fun _ => Nat.le_of_ble_eq_true rfl) (fun _ => rfl) ?_
  unfold f_X6_has at h
  refine nd_iload_n dX6_has_0 1 rfl ?_
  refine nd_if_ltN dX6_has_1 16 (by decide) h (fun h => ?_) (fun h => ?_)
  · refine nd_sub [0] rfl ?_
    exact b_X6_has_16 F b a sh hL hs _ h
  · refine nd_iload_n dX6_has_4 1 rfl ?_
    refine nd_aload_n dX6_has_5 0 rfl ?_
    refine nd_get dX6_has_6 gf_X6_19 hs.1 rfl ?_
    refine nd_icmp_geN dX6_has_9 16 (by decide) h (fun h => ?_) (fun h => ?_)
    · refine nd_sub [0] rfl ?_
      exact b_X6_has_16 F b a sh hL hs _ h
    · refine nd_iconst dX6_has_12 ic_1 ?_
      refine nd_goto dX6_has_13 17 (by decide) ?_
      exact nd_iret dX6_has_17 (Nat.zero_le _) (Nat.zero_le _) rfl (by cases h; exact ⟨rfl, rfl, rfl⟩)
def f_X6_put (F : Nat) (b a : Nat) (x1 : Int32) (x2 : Int32) (x3 : Int32) (σ : nd_Mem) : nd_Res := (if x1 < 0 then (some (0, σ)) else (if (σ b 1) ≤ x1 then (some (0, σ)) else (if x2 < 0 then (some (0, σ)) else (if (6 : Int32) ≤ x2 then (some (0, σ)) else (if ((x1 * (6 : Int32)) + x2) < 0 ∨ 96 ≤ (((x1 * (6 : Int32)) + x2)).toNatClampNeg then none else (nd_let (nd_up σ a (((x1 * (6 : Int32)) + x2)).toNatClampNeg x3) fun σ1 => (some (0, σ1))))))))
set_option maxRecDepth 100000 in
set_option maxHeartbeats 4000000 in
theorem t_X6_put (F : Nat) (b a : Nat) (sh : List nd_S) (hL : sh.length < nd_ro) (hs : is_Street sh b a) {z : Int32 × nd_Mem} (x1 : Int32) (x2 : Int32) (x3 : Int32) (σ : nd_Mem) (h : f_X6_put F b a x1 x2 x3 σ = some z) : nd_Fn M_X6_put (nd_rm 0) [.ref b, .int x1, .int x2, .int x3] sh σ (nd_Pv sh z) := by
  refine nd_Fn.ofV (ls := [(0, .ref b), (1, .int x1), (2, .int x2), (3, .int x3)]) pl_X6_put rfl (fun _ => Nat.le_of_ble_eq_true rfl) (fun _ => rfl) ?_
  unfold f_X6_put at h
  refine nd_iload_n dX6_put_0 1 rfl ?_
  refine nd_if_ltN dX6_put_1 34 (by decide) h (fun h => ?_) (fun h => ?_)
  · exact nd_vret dX6_put_34 (Nat.zero_le _) (Nat.zero_le _) trivial (by cases h; exact ⟨rfl, rfl, rfl⟩)
  · refine nd_iload_n dX6_put_4 1 rfl ?_
    refine nd_aload_n dX6_put_5 0 rfl ?_
    refine nd_get dX6_put_6 gf_X6_19 hs.1 rfl ?_
    refine nd_icmp_geN dX6_put_9 34 (by decide) h (fun h => ?_) (fun h => ?_)
    · exact nd_vret dX6_put_34 (Nat.zero_le _) (Nat.zero_le _) trivial (by cases h; exact ⟨rfl, rfl, rfl⟩)
    · refine nd_iload_n dX6_put_12 2 rfl ?_
      refine nd_if_ltN dX6_put_13 34 (by decide) h (fun h => ?_) (fun h => ?_)
      · exact nd_vret dX6_put_34 (Nat.zero_le _) (Nat.zero_le _) trivial (by cases h; exact ⟨rfl, rfl, rfl⟩)
      · refine nd_iload_n dX6_put_16 2 rfl ?_
        refine nd_bipush dX6_put_17 ib_6 ?_
        refine nd_icmp_geN dX6_put_19 34 (by decide) h (fun h => ?_) (fun h => ?_)
        · exact nd_vret dX6_put_34 (Nat.zero_le _) (Nat.zero_le _) trivial (by cases h; exact ⟨rfl, rfl, rfl⟩)
        · refine nd_aload_n dX6_put_22 0 rfl ?_
          refine nd_get dX6_put_23 gf_X6_9 hs.1 rfl ?_
          refine nd_iload_n dX6_put_26 1 rfl ?_
          refine nd_bipush dX6_put_27 ib_6 ?_
          refine nd_imul dX6_put_29 ?_
          refine nd_iload_n dX6_put_30 2 rfl ?_
          refine nd_iadd dX6_put_31 ?_
          refine nd_iload_n dX6_put_32 3 rfl ?_
          refine nd_iastoreN dX6_put_33 hs.2 h (fun σ1 h => ?_)
          exact nd_vret dX6_put_34 (Nat.zero_le _) (Nat.zero_le _) trivial (by cases h; exact ⟨rfl, rfl, rfl⟩)
def f_X4_copy (F : Nat) (b a n o0b o0a o0n : Nat) (σ : nd_Mem) : nd_Res := (nd_let (nd_up σ b 1 (if (Int32.ofNat n) < (σ o0b 1) then (Int32.ofNat n) else (σ o0b 1))) fun σ1 => (if (0 : Int32) < 0 ∨ (0 : Int32) < 0 ∨ (σ1 b 1) < 0 ∨ o0n < ((0 : Int32)).toNatClampNeg + ((σ1 b 1)).toNatClampNeg ∨ n < ((0 : Int32)).toNatClampNeg + ((σ1 b 1)).toNatClampNeg then none else (nd_let (nd_row σ1 a (va_cpy (σ1 o0a) (σ1 a) ((0 : Int32)).toNatClampNeg ((0 : Int32)).toNatClampNeg ((σ1 b 1)).toNatClampNeg)) fun σ2 => (some (0, σ2)))))
set_option maxRecDepth 100000 in
set_option maxHeartbeats 4000000 in
theorem t_X4_copy (F : Nat) (b a n o0b o0a o0n : Nat) (sh : List nd_S) (hL : sh.length < nd_ro) (hs : is_Row sh b a n) (hso0 : is_Row sh o0b o0a o0n) {z : Int32 × nd_Mem} (σ : nd_Mem) (h : f_X4_copy F b a n o0b o0a o0n σ = some z) : nd_Fn M_X4_copy (nd_rm 1) [.ref b, .ref o0b] sh σ (nd_Pv sh z) := by
  refine nd_Fn.ofV (ls := [(0, .ref b), (1, .ref o0b)]) pl_X4_copy rfl (fun _ => Nat.le_of_ble_eq_true rfl) (fun _ => rfl) ?_
  unfold f_X4_copy at h
  refine nd_aload_n dX4_copy_0 0 rfl ?_
  refine nd_aload_n dX4_copy_1 1 rfl ?_
  refine nd_get dX4_copy_2 gf_X4_21 hso0.1 rfl ?_
  refine nd_aload_n dX4_copy_5 0 rfl ?_
  refine nd_get dX4_copy_6 gf_X4_15 hs.1 rfl ?_
  refine nd_alen (v := (Int32.ofNat n)) dX4_copy_9 hs.2 rfl ?_
  refine nd_min dX4_copy_10 lk_X4_33 wmin_s wmin_i wmin_c ⟨by decide, by decide⟩ (Nat.le_refl _) (Nat.le_refl _) (Nat.le_of_ble_eq_true rfl) ?_
  refine nd_putiN dX4_copy_13 pf_X4_21 hs.1 rfl h (fun σ1 h => ?_)
  refine nd_aload_n dX4_copy_16 1 rfl ?_
  refine nd_get dX4_copy_17 gf_X4_15 hso0.1 rfl ?_
  refine nd_iconst dX4_copy_20 ic_0 ?_
  refine nd_aload_n dX4_copy_21 0 rfl ?_
  refine nd_get dX4_copy_22 gf_X4_15 hs.1 rfl ?_
  refine nd_iconst dX4_copy_25 ic_0 ?_
  refine nd_aload_n dX4_copy_26 0 rfl ?_
  refine nd_get dX4_copy_27 gf_X4_21 hs.1 rfl ?_
  refine nd_copyN dX4_copy_30 lk_X4_36 wcp_n wcp_s wcp_i hso0.2 hs.2 ⟨by decide, by decide⟩ (Nat.le_of_ble_eq_true rfl) h (fun σ2 h => ?_)
  exact nd_vret dX4_copy_33 (Nat.zero_le _) (Nat.zero_le _) trivial (by cases h; exact ⟨rfl, rfl, rfl⟩)
def f_X4_tell_20 (F : Nat) (b a n : Nat) (σ : nd_Mem) : nd_Res := (some ((-1 : Int32), σ))
def f_X4_tell (F : Nat) (b a n : Nat) (x1 : Int32) (x2 : Int32) (x3 : Int32) (σ : nd_Mem) : nd_Res := (if x1 = (-1 : Int32) then (nd_bind (f_X4_clear F b a n σ) fun r4 σ5 => (some (r4, σ5))) else (if x1 < x2 then (f_X4_tell_20 F b a n σ) else (if x1 ≤ x3 then (nd_bind (f_X4_add F b a n x1 σ) fun r1 σ2 => (some (r1, σ2))) else (f_X4_tell_20 F b a n σ))))
set_option maxRecDepth 100000 in
set_option maxHeartbeats 4000000 in
theorem b_X4_tell_20 (F : Nat) (b a n : Nat) (sh : List nd_S) (hL : sh.length < nd_ro) (hs : is_Row sh b a n) {z : Int32 × nd_Mem} (σ : nd_Mem) (h : f_X4_tell_20 F b a n σ = some z) : nd_V M_X4_tell (nd_rm 1) (nd_Pi sh z) 0 0 20 [(0, .ref b)] [] sh σ := by
  unfold f_X4_tell_20 at h
  refine nd_iconst dX4_tell_20 ic_m1 ?_
  refine nd_goto dX4_tell_21 29 (by decide) ?_
  exact nd_iret dX4_tell_29 (Nat.zero_le _) (Nat.zero_le _) (vp_nar_int _) (by cases h; exact ⟨rfl, rfl, rfl⟩)
set_option maxRecDepth 100000 in
set_option maxHeartbeats 4000000 in
theorem t_X4_tell (F : Nat) (b a n : Nat) (sh : List nd_S) (hL : sh.length < nd_ro) (hs : is_Row sh b a n) {z : Int32 × nd_Mem} (x1 : Int32) (x2 : Int32) (x3 : Int32) (σ : nd_Mem) (h : f_X4_tell F b a n x1 x2 x3 σ = some z) : nd_Fn M_X4_tell (nd_rm 1) [.ref b, .int x1, .int x2, .int x3] sh σ (nd_Pi sh z) := by
  refine nd_Fn.ofV (ls := [(0, .ref b), (1, .int x1), (2, .int x2), (3, .int x3)]) pl_X4_tell rfl (fun _ => Nat.le_of_ble_eq_true rfl) (fun _ => rfl) ?_
  unfold f_X4_tell at h
  refine nd_iload_n dX4_tell_0 1 rfl ?_
  refine nd_iconst dX4_tell_1 ic_m1 ?_
  refine nd_icmp_neN dX4_tell_2 10 (by decide) h (fun h => ?_) (fun h => ?_)
  · refine nd_iload_n dX4_tell_10 1 rfl ?_
    refine nd_iload_n dX4_tell_11 2 rfl ?_
    refine nd_icmp_ltN dX4_tell_12 20 (by decide) h (fun h => ?_) (fun h => ?_)
    · refine nd_sub [0] rfl ?_
      exact b_X4_tell_20 F b a n sh hL hs _ h
    · refine nd_iload_n dX4_tell_15 1 rfl ?_
      refine nd_iload_n dX4_tell_16 3 rfl ?_
      refine nd_icmp_leN dX4_tell_17 24 (by decide) h (fun h => ?_) (fun h => ?_)
      · refine nd_aload_n dX4_tell_24 0 rfl ?_
        refine nd_iload_n dX4_tell_25 1 rfl ?_
        obtain ⟨r1, σ2, hc3, h⟩ := nd_bind_e h
        refine nd_cvi [.int x1] [] dX4_tell_26 cl_X4_29 hs.1 ⟨Nat.le_of_ble_eq_true rfl, Nat.le_of_ble_eq_true rfl⟩ rfl (Nat.le_of_ble_eq_true rfl) hL (t_X4_add F b a n sh hL hs _ _ hc3) ?_
        exact nd_iret dX4_tell_29 (Nat.zero_le _) (Nat.zero_le _) (vp_nar_int _) (by cases h; exact ⟨rfl, rfl, rfl⟩)
      · refine nd_sub [0] rfl ?_
        exact b_X4_tell_20 F b a n sh hL hs _ h
  · refine nd_aload_n dX4_tell_5 0 rfl ?_
    obtain ⟨r4, σ5, hc6, h⟩ := nd_bind_e h
    refine nd_cvi [] [] dX4_tell_6 cl_X4_25 hs.1 ⟨Nat.le_of_ble_eq_true rfl, Nat.le_of_ble_eq_true rfl⟩ rfl (Nat.le_of_ble_eq_true rfl) hL (t_X4_clear F b a n sh hL hs _ hc6) ?_
    exact nd_iret dX4_tell_9 (Nat.zero_le _) (Nat.zero_le _) (vp_nar_int _) (by cases h; exact ⟨rfl, rfl, rfl⟩)
def f_X5_addLaw (F : Nat) (b : Nat) (x1 : Int32) (x2 : Int32) (x3 : Int32) (x4 : Int32) (σ : nd_Mem) : nd_Res := (nd_bind (f_X4_add F (b + 1) (b + 2) 64 x1 σ) fun r1 σ2 => (nd_bind (f_X4_add F (b + 1) (b + 2) 64 x2 σ2) fun r4 σ5 => (nd_bind (f_X4_add F (b + 1) (b + 2) 64 x3 σ5) fun r7 σ8 => (nd_bind (f_X4_add F (b + 1) (b + 2) 64 x4 σ8) fun r10 σ11 => (some (0, σ11))))))
set_option maxRecDepth 100000 in
set_option maxHeartbeats 4000000 in
theorem t_X5_addLaw (F : Nat) (b : Nat) (sh : List nd_S) (hL : sh.length < nd_ro) (hs : is_Rules sh b) {z : Int32 × nd_Mem} (x1 : Int32) (x2 : Int32) (x3 : Int32) (x4 : Int32) (σ : nd_Mem) (h : f_X5_addLaw F b x1 x2 x3 x4 σ = some z) : nd_Fn M_X5_addLaw (nd_rm 1) [.ref b, .int x1, .int x2, .int x3, .int x4] sh σ (nd_Pv sh z) := by
  refine nd_Fn.ofV (ls := [(0, .ref b), (1, .int x1), (2, .int x2), (3, .int x3), (4, .int x4)]) pl_X5_addLaw rfl (fun _ => Nat.le_of_ble_eq_true rfl) (fun _ => rfl) ?_
  unfold f_X5_addLaw at h
  refine nd_aload_n dX5_addLaw_0 0 rfl ?_
  refine nd_get dX5_addLaw_1 gf_X5_14 hs.1 rfl ?_
  refine nd_iload_n dX5_addLaw_4 1 rfl ?_
  obtain ⟨r1, σ2, hc3, h⟩ := nd_bind_e h
  refine nd_cvi [.int x1] [] dX5_addLaw_5 cl_X5_67 hs.2.1.1 ⟨Nat.le_of_ble_eq_true rfl, Nat.le_of_ble_eq_true rfl⟩ rfl (Nat.le_of_ble_eq_true rfl) hL (t_X4_add F (b + 1) (b + 2) 64 sh hL hs.2.1 _ _ hc3) ?_
  refine nd_pop dX5_addLaw_8 rfl ?_
  refine nd_aload_n dX5_addLaw_9 0 rfl ?_
  refine nd_get dX5_addLaw_10 gf_X5_14 hs.1 rfl ?_
  refine nd_iload_n dX5_addLaw_13 2 rfl ?_
  obtain ⟨r4, σ5, hc6, h⟩ := nd_bind_e h
  refine nd_cvi [.int x2] [] dX5_addLaw_14 cl_X5_67 hs.2.1.1 ⟨Nat.le_of_ble_eq_true rfl, Nat.le_of_ble_eq_true rfl⟩ rfl (Nat.le_of_ble_eq_true rfl) hL (t_X4_add F (b + 1) (b + 2) 64 sh hL hs.2.1 _ _ hc6) ?_
  refine nd_pop dX5_addLaw_17 rfl ?_
  refine nd_aload_n dX5_addLaw_18 0 rfl ?_
  refine nd_get dX5_addLaw_19 gf_X5_14 hs.1 rfl ?_
  refine nd_iload_n dX5_addLaw_22 3 rfl ?_
  obtain ⟨r7, σ8, hc9, h⟩ := nd_bind_e h
  refine nd_cvi [.int x3] [] dX5_addLaw_23 cl_X5_67 hs.2.1.1 ⟨Nat.le_of_ble_eq_true rfl, Nat.le_of_ble_eq_true rfl⟩ rfl (Nat.le_of_ble_eq_true rfl) hL (t_X4_add F (b + 1) (b + 2) 64 sh hL hs.2.1 _ _ hc9) ?_
  refine nd_pop dX5_addLaw_26 rfl ?_
  refine nd_aload_n dX5_addLaw_27 0 rfl ?_
  refine nd_get dX5_addLaw_28 gf_X5_14 hs.1 rfl ?_
  refine nd_iload dX5_addLaw_31 4 rfl ?_
  obtain ⟨r10, σ11, hc12, h⟩ := nd_bind_e h
  refine nd_cvi [.int x4] [] dX5_addLaw_33 cl_X5_67 hs.2.1.1 ⟨Nat.le_of_ble_eq_true rfl, Nat.le_of_ble_eq_true rfl⟩ rfl (Nat.le_of_ble_eq_true rfl) hL (t_X4_add F (b + 1) (b + 2) 64 sh hL hs.2.1 _ _ hc12) ?_
  refine nd_pop dX5_addLaw_36 rfl ?_
  exact nd_vret dX5_addLaw_37 (Nat.zero_le _) (Nat.zero_le _) trivial (by cases h; exact ⟨rfl, rfl, rfl⟩)
def f_X5_addPlan (F : Nat) (b : Nat) (x1 : Int32) (x2 : Int32) (x3 : Int32) (x4 : Int32) (σ : nd_Mem) : nd_Res := (nd_bind (f_X4_add F (b + 5) (b + 6) 64 x1 σ) fun r1 σ2 => (nd_bind (f_X4_add F (b + 5) (b + 6) 64 x2 σ2) fun r4 σ5 => (nd_bind (f_X4_add F (b + 5) (b + 6) 64 x3 σ5) fun r7 σ8 => (nd_bind (f_X4_add F (b + 5) (b + 6) 64 x4 σ8) fun r10 σ11 => (some (0, σ11))))))
set_option maxRecDepth 100000 in
set_option maxHeartbeats 4000000 in
theorem t_X5_addPlan (F : Nat) (b : Nat) (sh : List nd_S) (hL : sh.length < nd_ro) (hs : is_Rules sh b) {z : Int32 × nd_Mem} (x1 : Int32) (x2 : Int32) (x3 : Int32) (x4 : Int32) (σ : nd_Mem) (h : f_X5_addPlan F b x1 x2 x3 x4 σ = some z) : nd_Fn M_X5_addPlan (nd_rm 1) [.ref b, .int x1, .int x2, .int x3, .int x4] sh σ (nd_Pv sh z) := by
  refine nd_Fn.ofV (ls := [(0, .ref b), (1, .int x1), (2, .int x2), (3, .int x3), (4, .int x4)]) pl_X5_addPlan rfl (fun _ => Nat.le_of_ble_eq_true rfl) (fun _ => rfl) ?_
  unfold f_X5_addPlan at h
  refine nd_aload_n dX5_addPlan_0 0 rfl ?_
  refine nd_get dX5_addPlan_1 gf_X5_23 hs.1 rfl ?_
  refine nd_iload_n dX5_addPlan_4 1 rfl ?_
  obtain ⟨r1, σ2, hc3, h⟩ := nd_bind_e h
  refine nd_cvi [.int x1] [] dX5_addPlan_5 cl_X5_67 hs.2.2.2.1.1 ⟨Nat.le_of_ble_eq_true rfl, Nat.le_of_ble_eq_true rfl⟩ rfl (Nat.le_of_ble_eq_true rfl) hL (t_X4_add F (b + 5) (b + 6) 64 sh hL hs.2.2.2.1 _ _ hc3) ?_
  refine nd_pop dX5_addPlan_8 rfl ?_
  refine nd_aload_n dX5_addPlan_9 0 rfl ?_
  refine nd_get dX5_addPlan_10 gf_X5_23 hs.1 rfl ?_
  refine nd_iload_n dX5_addPlan_13 2 rfl ?_
  obtain ⟨r4, σ5, hc6, h⟩ := nd_bind_e h
  refine nd_cvi [.int x2] [] dX5_addPlan_14 cl_X5_67 hs.2.2.2.1.1 ⟨Nat.le_of_ble_eq_true rfl, Nat.le_of_ble_eq_true rfl⟩ rfl (Nat.le_of_ble_eq_true rfl) hL (t_X4_add F (b + 5) (b + 6) 64 sh hL hs.2.2.2.1 _ _ hc6) ?_
  refine nd_pop dX5_addPlan_17 rfl ?_
  refine nd_aload_n dX5_addPlan_18 0 rfl ?_
  refine nd_get dX5_addPlan_19 gf_X5_23 hs.1 rfl ?_
  refine nd_iload_n dX5_addPlan_22 3 rfl ?_
  obtain ⟨r7, σ8, hc9, h⟩ := nd_bind_e h
  refine nd_cvi [.int x3] [] dX5_addPlan_23 cl_X5_67 hs.2.2.2.1.1 ⟨Nat.le_of_ble_eq_true rfl, Nat.le_of_ble_eq_true rfl⟩ rfl (Nat.le_of_ble_eq_true rfl) hL (t_X4_add F (b + 5) (b + 6) 64 sh hL hs.2.2.2.1 _ _ hc9) ?_
  refine nd_pop dX5_addPlan_26 rfl ?_
  refine nd_aload_n dX5_addPlan_27 0 rfl ?_
  refine nd_get dX5_addPlan_28 gf_X5_23 hs.1 rfl ?_
  refine nd_iload dX5_addPlan_31 4 rfl ?_
  obtain ⟨r10, σ11, hc12, h⟩ := nd_bind_e h
  refine nd_cvi [.int x4] [] dX5_addPlan_33 cl_X5_67 hs.2.2.2.1.1 ⟨Nat.le_of_ble_eq_true rfl, Nat.le_of_ble_eq_true rfl⟩ rfl (Nat.le_of_ble_eq_true rfl) hL (t_X4_add F (b + 5) (b + 6) 64 sh hL hs.2.2.2.1 _ _ hc12) ?_
  refine nd_pop dX5_addPlan_36 rfl ?_
  exact nd_vret dX5_addPlan_37 (Nat.zero_le _) (Nat.zero_le _) trivial (by cases h; exact ⟨rfl, rfl, rfl⟩)
def f_X5_below_41 (F : Nat) (rec4 : Int32 → Int32 → Int32 → nd_Mem → nd_Res) (b : Nat) (x1 : Int32) (x2 : Int32) (x3 : Int32) (σ : nd_Mem) : nd_Res := (rec4 x1 x2 (x3 + (1 : Int32)) σ)
def f_X5_below_4_b (F : Nat) (rec4 : Int32 → Int32 → Int32 → nd_Mem → nd_Res) (b : Nat) (x1 : Int32) (x2 : Int32) (x3 : Int32) (σ : nd_Mem) : nd_Res := (if (16 : Int32) ≤ x3 then (some (x2, σ)) else (nd_bind (f_X5_feudsOf F b x1 σ) fun r1 σ2 => (if ((r1 >>> (x3 &&& 31)) &&& (1 : Int32)) = (1 : Int32) then (nd_bind (f_X5_feudsOf F b x3 σ2) fun r4 σ5 => (if ((r4 >>> (x1 &&& 31)) &&& (1 : Int32)) = 0 then (f_X5_below_41 F rec4 b x1 (x2 ||| ((1 : Int32) <<< (x3 &&& 31))) x3 σ5) else (f_X5_below_41 F rec4 b x1 x2 x3 σ5))) else (f_X5_below_41 F rec4 b x1 x2 x3 σ2))))
def f_X5_below_4 (F : Nat) (b : Nat) : Nat → Int32 → Int32 → Int32 → nd_Mem → nd_Res
  | 0, _, _, _, _ => none
  | m9 + 1, x1, x2, x3, σ => f_X5_below_4_b F (f_X5_below_4 F b m9) b x1 x2 x3 σ
def f_X5_below (F : Nat) (b : Nat) (x1 : Int32) (σ : nd_Mem) : nd_Res := (f_X5_below_4 F b F x1 (0 : Int32) (0 : Int32) σ)
set_option maxRecDepth 100000 in
set_option maxHeartbeats 4000000 in
theorem b_X5_below_41 (F : Nat) (rec4 : Int32 → Int32 → Int32 → nd_Mem → nd_Res) (b : Nat) (sh : List nd_S) (hL : sh.length < nd_ro) (hs : is_Rules sh b) {z : Int32 × nd_Mem} (hrec4 : ∀ (x1 : Int32) (x2 : Int32) (x3 : Int32) (σ : nd_Mem), rec4 x1 x2 x3 σ = some z → nd_V M_X5_below (nd_rm 1) (nd_Pi sh z) 0 0 4 [(0, .ref b), (1, .int x1), (2, .int x2), (3, .int x3)] [] sh σ) (x1 : Int32) (x2 : Int32) (x3 : Int32) (σ : nd_Mem) (h : f_X5_below_41 F rec4 b x1 x2 x3 σ = some z) : nd_V M_X5_below (nd_rm 1) (nd_Pi sh z) 0 0 41 [(0, .ref b), (1, .int x1), (2, .int x2), (3, .int x3)] [] sh σ := by
  unfold f_X5_below_41 at h
  refine nd_iinc (v := (x3 + (1 : Int32))) (ls' := [(3, .int (x3 + (1 : Int32))), (0, .ref b), (1, .int x1), (2, .int x2)]) dX5_below_41 3 rfl (congrArg (HAdd.hAdd _) ic_1) (by decide) rfl ?_
  refine nd_goto dX5_below_44 4 (by decide) ?_
  refine nd_sub [1, 2, 3, 0] rfl ?_
  exact hrec4 _ _ _ _ h
set_option maxRecDepth 100000 in
set_option maxHeartbeats 4000000 in
theorem b_X5_below_4 (F : Nat) (b : Nat) (sh : List nd_S) (hL : sh.length < nd_ro) (hs : is_Rules sh b) {z : Int32 × nd_Mem} (m9 : Nat) : ∀ (x1 : Int32) (x2 : Int32) (x3 : Int32) (σ : nd_Mem), f_X5_below_4 F b m9 x1 x2 x3 σ = some z → nd_V M_X5_below (nd_rm 1) (nd_Pi sh z) 0 0 4 [(0, .ref b), (1, .int x1), (2, .int x2), (3, .int x3)] [] sh σ := by
  induction m9 with
  | zero =>
    intro x1 x2 x3 σ h
    have h : none = some z := h
    cases h
  | succ m9 hrec4 =>
    intro x1 x2 x3 σ h
    have h : f_X5_below_4_b F (f_X5_below_4 F b m9) b x1 x2 x3 σ = some z := h
    unfold f_X5_below_4_b at h
    refine nd_iload_n dX5_below_4 3 rfl ?_
    refine nd_bipush dX5_below_5 ib_16 ?_
    refine nd_icmp_geN dX5_below_7 47 (by decide) h (fun h => ?_) (fun h => ?_)
    · refine nd_iload_n dX5_below_47 2 rfl ?_
      exact nd_iret dX5_below_48 (Nat.zero_le _) (Nat.zero_le _) (vp_nar_int _) (by cases h; exact ⟨rfl, rfl, rfl⟩)
    · refine nd_aload_n dX5_below_10 0 rfl ?_
      refine nd_iload_n dX5_below_11 1 rfl ?_
      obtain ⟨r1, σ2, hc3, h⟩ := nd_bind_e h
      refine nd_cvi [.int x1] [] dX5_below_12 cl_X5_71 hs.1 ⟨Nat.le_of_ble_eq_true rfl, Nat.le_of_ble_eq_true rfl⟩ rfl (Nat.le_of_ble_eq_true rfl) hL (t_X5_feudsOf F b sh hL hs _ _ hc3) ?_
      refine nd_iload_n dX5_below_15 3 rfl ?_
      refine nd_ishr dX5_below_16 ?_
      refine nd_iconst dX5_below_17 ic_1 ?_
      refine nd_iand dX5_below_18 ?_
      refine nd_iconst dX5_below_19 ic_1 ?_
      refine nd_icmp_neN dX5_below_20 41 (by decide) h (fun h => ?_) (fun h => ?_)
      · exact b_X5_below_41 F _ b sh hL hs hrec4 _ _ _ _ h
      · refine nd_aload_n dX5_below_23 0 rfl ?_
        refine nd_iload_n dX5_below_24 3 rfl ?_
        obtain ⟨r4, σ5, hc6, h⟩ := nd_bind_e h
        refine nd_cvi [.int x3] [] dX5_below_25 cl_X5_71 hs.1 ⟨Nat.le_of_ble_eq_true rfl, Nat.le_of_ble_eq_true rfl⟩ rfl (Nat.le_of_ble_eq_true rfl) hL (t_X5_feudsOf F b sh hL hs _ _ hc6) ?_
        refine nd_iload_n dX5_below_28 1 rfl ?_
        refine nd_ishr dX5_below_29 ?_
        refine nd_iconst dX5_below_30 ic_1 ?_
        refine nd_iand dX5_below_31 ?_
        refine nd_if_neN dX5_below_32 41 (by decide) h (fun h => ?_) (fun h => ?_)
        · exact b_X5_below_41 F _ b sh hL hs hrec4 _ _ _ _ h
        · refine nd_iload_n dX5_below_35 2 rfl ?_
          refine nd_iconst dX5_below_36 ic_1 ?_
          refine nd_iload_n dX5_below_37 3 rfl ?_
          refine nd_ishl dX5_below_38 ?_
          refine nd_ior dX5_below_39 ?_
          refine nd_istore_n (ls' := [(2, .int (x2 ||| ((1 : Int32) <<< (x3 &&& 31)))), (0, .ref b), (1, .int x1), (3, .int x3)]) dX5_below_40 (by decide) rfl ?_
          refine nd_sub [1, 2, 0, 3] rfl ?_
          exact b_X5_below_41 F _ b sh hL hs hrec4 _ _ _ _ h
set_option maxRecDepth 100000 in
set_option maxHeartbeats 4000000 in
theorem t_X5_below (F : Nat) (b : Nat) (sh : List nd_S) (hL : sh.length < nd_ro) (hs : is_Rules sh b) {z : Int32 × nd_Mem} (x1 : Int32) (σ : nd_Mem) (h : f_X5_below F b x1 σ = some z) : nd_Fn M_X5_below (nd_rm 1) [.ref b, .int x1] sh σ (nd_Pi sh z) := by
  refine nd_Fn.ofV (ls := [(0, .ref b), (1, .int x1)]) pl_X5_below rfl (fun _ => Nat.le_of_ble_eq_true rfl) (fun _ => rfl) ?_
  unfold f_X5_below at h
  refine nd_iconst dX5_below_0 ic_0 ?_
  refine nd_istore_n (ls' := [(2, .int (0 : Int32)), (0, .ref b), (1, .int x1)]) dX5_below_1 (by decide) rfl ?_
  refine nd_iconst dX5_below_2 ic_0 ?_
  refine nd_istore_n (ls' := [(3, .int (0 : Int32)), (2, .int (0 : Int32)), (0, .ref b), (1, .int x1)]) dX5_below_3 (by decide) rfl ?_
  refine nd_sub [2, 3, 1, 0] rfl ?_
  exact b_X5_below_4 F b sh hL hs F _ _ _ _ h
def f_X5_empty (F : Nat) (b : Nat) (x1 : Int32) (σ : nd_Mem) : nd_Res := (if x1 = (0 : Int32) then (nd_bind (f_X4_clear F (b + 1) (b + 2) 64 σ) fun r2 σ3 => (nd_bind (f_X4_clear F (b + 3) (b + 4) 400 σ3) fun r5 σ6 => (some (0, σ6)))) else (if x1 = (1 : Int32) then (nd_bind (f_X4_clear F (b + 5) (b + 6) 64 σ) fun r9 σ10 => (some (0, σ10))) else (if x1 = (2 : Int32) then (nd_bind (f_J7_fill_53178 F (b + 7) 16 (0 : Int32) σ) fun r13 σ14 => (nd_let (nd_up σ14 b 4 (0 : Int32)) fun σ16 => (some (0, σ16)))) else (nd_let (nd_up σ b 5 (0 : Int32)) fun σ17 => (nd_let (nd_up σ17 b 6 (0 : Int32)) fun σ18 => (some (0, σ18)))))))
set_option maxRecDepth 100000 in
set_option maxHeartbeats 4000000 in
theorem t_X5_empty (F : Nat) (b : Nat) (sh : List nd_S) (hL : sh.length < nd_ro) (hs : is_Rules sh b) {z : Int32 × nd_Mem} (x1 : Int32) (σ : nd_Mem) (h : f_X5_empty F b x1 σ = some z) : nd_Fn M_X5_empty (nd_rm 1) [.ref b, .int x1] sh σ (nd_Pv sh z) := by
  refine nd_Fn.ofV (ls := [(0, .ref b), (1, .int x1)]) pl_X5_empty rfl (fun _ => Nat.le_of_ble_eq_true rfl) (fun _ => rfl) ?_
  unfold f_X5_empty at h
  refine nd_iload_n dX5_empty_0 1 rfl ?_
  rcases nd_ite_e h with ⟨c1, h⟩ | ⟨c1, h⟩
  · refine nd_tin dX5_empty_1 0 (by rw [c1] <;> decide) (by rw [c1] <;> decide) rfl 28 (by decide) ?_
    refine nd_aload_n dX5_empty_28 0 rfl ?_
    refine nd_get dX5_empty_29 gf_X5_14 hs.1 rfl ?_
    obtain ⟨r2, σ3, hc4, h⟩ := nd_bind_e h
    refine nd_cvi [] [] dX5_empty_32 cl_X5_30 hs.2.1.1 ⟨Nat.le_of_ble_eq_true rfl, Nat.le_of_ble_eq_true rfl⟩ rfl (Nat.le_of_ble_eq_true rfl) hL (t_X4_clear F (b + 1) (b + 2) 64 sh hL hs.2.1 _ hc4) ?_
    refine nd_pop dX5_empty_35 rfl ?_
    refine nd_aload_n dX5_empty_36 0 rfl ?_
    refine nd_get dX5_empty_37 gf_X5_20 hs.1 rfl ?_
    obtain ⟨r5, σ6, hc7, h⟩ := nd_bind_e h
    refine nd_cvi [] [] dX5_empty_40 cl_X5_30 hs.2.2.1.1 ⟨Nat.le_of_ble_eq_true rfl, Nat.le_of_ble_eq_true rfl⟩ rfl (Nat.le_of_ble_eq_true rfl) hL (t_X4_clear F (b + 3) (b + 4) 400 sh hL hs.2.2.1 _ hc7) ?_
    refine nd_pop dX5_empty_43 rfl ?_
    refine nd_goto dX5_empty_44 84 (by decide) ?_
    exact nd_vret dX5_empty_84 (Nat.zero_le _) (Nat.zero_le _) trivial (by cases h; exact ⟨rfl, rfl, rfl⟩)
  rcases nd_ite_e h with ⟨c8, h⟩ | ⟨c8, h⟩
  · refine nd_tin dX5_empty_1 1 (by rw [c8] <;> decide) (by rw [c8] <;> decide) rfl 47 (by decide) ?_
    refine nd_aload_n dX5_empty_47 0 rfl ?_
    refine nd_get dX5_empty_48 gf_X5_23 hs.1 rfl ?_
    obtain ⟨r9, σ10, hc11, h⟩ := nd_bind_e h
    refine nd_cvi [] [] dX5_empty_51 cl_X5_30 hs.2.2.2.1.1 ⟨Nat.le_of_ble_eq_true rfl, Nat.le_of_ble_eq_true rfl⟩ rfl (Nat.le_of_ble_eq_true rfl) hL (t_X4_clear F (b + 5) (b + 6) 64 sh hL hs.2.2.2.1 _ hc11) ?_
    refine nd_pop dX5_empty_54 rfl ?_
    refine nd_goto dX5_empty_55 84 (by decide) ?_
    exact nd_vret dX5_empty_84 (Nat.zero_le _) (Nat.zero_le _) trivial (by cases h; exact ⟨rfl, rfl, rfl⟩)
  rcases nd_ite_e h with ⟨c12, h⟩ | ⟨c12, h⟩
  · refine nd_tin dX5_empty_1 2 (by rw [c12] <;> decide) (by rw [c12] <;> decide) rfl 58 (by decide) ?_
    refine nd_aload_n dX5_empty_58 0 rfl ?_
    refine nd_get dX5_empty_59 gf_X5_26 hs.1 rfl ?_
    refine nd_iconst dX5_empty_62 ic_0 ?_
    obtain ⟨r13, σ14, hc15, h⟩ := nd_bind_e h
    refine nd_csv [.ref (b + 7), .int (0 : Int32)] [] dX5_empty_63 cl_X5_34 ⟨Nat.le_of_ble_eq_true rfl, Nat.le_of_ble_eq_true rfl⟩ rfl (Nat.le_of_ble_eq_true rfl) hL (t_J7_fill_53178 F (b + 7) 16 sh hL hs.2.2.2.2 _ _ hc15) ?_
    refine nd_aload_n dX5_empty_66 0 rfl ?_
    refine nd_iconst dX5_empty_67 ic_0 ?_
    refine nd_putiN dX5_empty_68 pf_X5_40 hs.1 rfl h (fun σ16 h => ?_)
    refine nd_goto dX5_empty_71 84 (by decide) ?_
    exact nd_vret dX5_empty_84 (Nat.zero_le _) (Nat.zero_le _) trivial (by cases h; exact ⟨rfl, rfl, rfl⟩)
  refine nd_tout dX5_empty_1 (fun j h1 h2 => ?_) 74 (by decide) ?_
  · rcases (show j = 0 ∨ j = 1 ∨ j = 2 by omega) with rfl | rfl | rfl
    · exact fun e => c1 (e.trans ic_0)
    · exact fun e => c8 (e.trans ic_1)
    · exact fun e => c12 (e.trans ic_2)
  · refine nd_aload_n dX5_empty_74 0 rfl ?_
    refine nd_iconst dX5_empty_75 ic_0 ?_
    refine nd_putiN dX5_empty_76 pf_X5_44 hs.1 rfl h (fun σ17 h => ?_)
    refine nd_aload_n dX5_empty_79 0 rfl ?_
    refine nd_iconst dX5_empty_80 ic_0 ?_
    refine nd_putiN dX5_empty_81 pf_X5_47 hs.1 rfl h (fun σ18 h => ?_)
    exact nd_vret dX5_empty_84 (Nat.zero_le _) (Nat.zero_le _) trivial (by cases h; exact ⟨rfl, rfl, rfl⟩)
def f_X5_feud_26 (F : Nat) (b : Nat) (σ : nd_Mem) : nd_Res := (some ((1 : Int32), σ))
def f_X5_feud (F : Nat) (b : Nat) (x1 : Int32) (x2 : Int32) (σ : nd_Mem) : nd_Res := (nd_bind (f_X5_feudsOf F b x1 σ) fun r1 σ2 => (if ((r1 >>> (x2 &&& 31)) &&& (1 : Int32)) = (1 : Int32) then (f_X5_feud_26 F b σ2) else (nd_bind (f_X5_feudsOf F b x2 σ2) fun r4 σ5 => (if ((r4 >>> (x1 &&& 31)) &&& (1 : Int32)) = (1 : Int32) then (f_X5_feud_26 F b σ5) else (some ((0 : Int32), σ5))))))
set_option maxRecDepth 100000 in
set_option maxHeartbeats 4000000 in
theorem b_X5_feud_26 (F : Nat) (b : Nat) (sh : List nd_S) (hL : sh.length < nd_ro) (hs : is_Rules sh b) {z : Int32 × nd_Mem} (σ : nd_Mem) (h : f_X5_feud_26 F b σ = some z) : nd_V M_X5_feud (nd_rm 1) (nd_Pi sh z) 0 0 26 [(0, .ref b)] [] sh σ := by
  unfold f_X5_feud_26 at h
  refine nd_iconst dX5_feud_26 ic_1 ?_
  refine nd_goto dX5_feud_27 31 (by decide) ?_
  exact nd_iret dX5_feud_31 (Nat.zero_le _) (Nat.zero_le _) rfl (by cases h; exact ⟨rfl, rfl, rfl⟩)
set_option maxRecDepth 100000 in
set_option maxHeartbeats 4000000 in
theorem t_X5_feud (F : Nat) (b : Nat) (sh : List nd_S) (hL : sh.length < nd_ro) (hs : is_Rules sh b) {z : Int32 × nd_Mem} (x1 : Int32) (x2 : Int32) (σ : nd_Mem) (h : f_X5_feud F b x1 x2 σ = some z) : nd_Fn M_X5_feud (nd_rm 1) [.ref b, .int x1, .int x2] sh σ (nd_Pi sh z) := by
  refine nd_Fn.ofV (ls := [(0, .ref b), (1, .int x1), (2, .int x2)]) pl_X5_feud rfl (fun _ => Nat.le_of_ble_eq_true rfl) (fun _ => rfl) ?_
  unfold f_X5_feud at h
  refine nd_aload_n dX5_feud_0 0 rfl ?_
  refine nd_iload_n dX5_feud_1 1 rfl ?_
  obtain ⟨r1, σ2, hc3, h⟩ := nd_bind_e h
  refine nd_cvi [.int x1] [] dX5_feud_2 cl_X5_71 hs.1 ⟨Nat.le_of_ble_eq_true rfl, Nat.le_of_ble_eq_true rfl⟩ rfl (Nat.le_of_ble_eq_true rfl) hL (t_X5_feudsOf F b sh hL hs _ _ hc3) ?_
  refine nd_iload_n dX5_feud_5 2 rfl ?_
  refine nd_ishr dX5_feud_6 ?_
  refine nd_iconst dX5_feud_7 ic_1 ?_
  refine nd_iand dX5_feud_8 ?_
  refine nd_iconst dX5_feud_9 ic_1 ?_
  refine nd_icmp_eqN dX5_feud_10 26 (by decide) h (fun h => ?_) (fun h => ?_)
  · refine nd_sub [0] rfl ?_
    exact b_X5_feud_26 F b sh hL hs _ h
  · refine nd_aload_n dX5_feud_13 0 rfl ?_
    refine nd_iload_n dX5_feud_14 2 rfl ?_
    obtain ⟨r4, σ5, hc6, h⟩ := nd_bind_e h
    refine nd_cvi [.int x2] [] dX5_feud_15 cl_X5_71 hs.1 ⟨Nat.le_of_ble_eq_true rfl, Nat.le_of_ble_eq_true rfl⟩ rfl (Nat.le_of_ble_eq_true rfl) hL (t_X5_feudsOf F b sh hL hs _ _ hc6) ?_
    refine nd_iload_n dX5_feud_18 1 rfl ?_
    refine nd_ishr dX5_feud_19 ?_
    refine nd_iconst dX5_feud_20 ic_1 ?_
    refine nd_iand dX5_feud_21 ?_
    refine nd_iconst dX5_feud_22 ic_1 ?_
    refine nd_icmp_neN dX5_feud_23 30 (by decide) h (fun h => ?_) (fun h => ?_)
    · refine nd_iconst dX5_feud_30 ic_0 ?_
      exact nd_iret dX5_feud_31 (Nat.zero_le _) (Nat.zero_le _) rfl (by cases h; exact ⟨rfl, rfl, rfl⟩)
    · refine nd_sub [0] rfl ?_
      exact b_X5_feud_26 F b sh hL hs _ h
def f_X6_add (F : Nat) (b a : Nat) (x1 : Int32) (x2 : Int32) (x3 : Int32) (σ : nd_Mem) : nd_Res := (if x2 < 0 then (some (0, σ)) else (if (5 : Int32) ≤ x2 then (some (0, σ)) else (nd_bind (f_X6_get F b a x1 x2 σ) fun r1 σ2 => (if x2 < 0 ∨ 5 ≤ (x2).toNatClampNeg then none else (nd_bind (f_X6_put F b a x1 x2 (if (nd_mo (x2).toNatClampNeg) < (r1 + x3) then (nd_mo (x2).toNatClampNeg) else (r1 + x3)) σ2) fun r4 σ5 => (some (0, σ5)))))))
set_option maxRecDepth 100000 in
set_option maxHeartbeats 4000000 in
theorem t_X6_add (F : Nat) (b a : Nat) (sh : List nd_S) (hL : sh.length < nd_ro) (hs : is_Street sh b a) {z : Int32 × nd_Mem} (x1 : Int32) (x2 : Int32) (x3 : Int32) (σ : nd_Mem) (h : f_X6_add F b a x1 x2 x3 σ = some z) : nd_Fn M_X6_add (nd_rm 1) [.ref b, .int x1, .int x2, .int x3] sh σ (nd_Pv sh z) := by
  refine nd_Fn.ofV (ls := [(0, .ref b), (1, .int x1), (2, .int x2), (3, .int x3)]) pl_X6_add rfl (fun _ => Nat.le_of_ble_eq_true rfl) (fun _ => rfl) ?_
  unfold f_X6_add at h
  refine nd_iload_n dX6_add_0 2 rfl ?_
  refine nd_if_ltN dX6_add_1 34 (by decide) h (fun h => ?_) (fun h => ?_)
  · exact nd_vret dX6_add_34 (Nat.zero_le _) (Nat.zero_le _) trivial (by cases h; exact ⟨rfl, rfl, rfl⟩)
  · refine nd_iload_n dX6_add_4 2 rfl ?_
    refine nd_getsM dX6_add_5 gs_X6_30 ?_
    refine nd_alenM dX6_add_8 rfl ?_
    refine nd_icmp_geN dX6_add_9 34 (by decide) h (fun h => ?_) (fun h => ?_)
    · exact nd_vret dX6_add_34 (Nat.zero_le _) (Nat.zero_le _) trivial (by cases h; exact ⟨rfl, rfl, rfl⟩)
    · refine nd_aload_n dX6_add_12 0 rfl ?_
      refine nd_iload_n dX6_add_13 1 rfl ?_
      refine nd_iload_n dX6_add_14 2 rfl ?_
      refine nd_aload_n dX6_add_15 0 rfl ?_
      refine nd_iload_n dX6_add_16 1 rfl ?_
      refine nd_iload_n dX6_add_17 2 rfl ?_
      obtain ⟨r1, σ2, hc3, h⟩ := nd_bind_e h
      refine nd_cvi [.int x1, .int x2] [.int x2, .int x1, .ref b] dX6_add_18 cl_X6_33 hs.1 ⟨Nat.le_of_ble_eq_true rfl, Nat.le_of_ble_eq_true rfl⟩ rfl (Nat.le_of_ble_eq_true rfl) hL (t_X6_get F b a sh hL hs _ _ _ hc3) ?_
      refine nd_iload_n dX6_add_21 3 rfl ?_
      refine nd_iadd dX6_add_22 ?_
      refine nd_getsM dX6_add_23 gs_X6_30 ?_
      refine nd_iload_n dX6_add_26 2 rfl ?_
      refine nd_ialoadMN dX6_add_27 h (fun h => ?_)
      refine nd_min dX6_add_28 lk_X6_37 wmin_s wmin_i wmin_c ⟨by decide, by decide⟩ (Nat.le_refl _) (Nat.le_refl _) (Nat.le_of_ble_eq_true rfl) ?_
      obtain ⟨r4, σ5, hc6, h⟩ := nd_bind_e h
      refine nd_cvv [.int x1, .int x2, .int (if (nd_mo (x2).toNatClampNeg) < (r1 + x3) then (nd_mo (x2).toNatClampNeg) else (r1 + x3))] [] dX6_add_31 cl_X6_26 hs.1 ⟨Nat.le_of_ble_eq_true rfl, Nat.le_of_ble_eq_true rfl⟩ rfl (Nat.le_of_ble_eq_true rfl) hL (t_X6_put F b a sh hL hs _ _ _ _ hc6) ?_
      exact nd_vret dX6_add_34 (Nat.zero_le _) (Nat.zero_le _) trivial (by cases h; exact ⟨rfl, rfl, rfl⟩)
def f_X6_build_33 (F : Nat) (b a : Nat) (σ : nd_Mem) : nd_Res := (some ((-1 : Int32), σ))
def f_X6_build_110 (F : Nat) (b a : Nat) (x4 : Int32) (σ : nd_Mem) : nd_Res := (some (x4, σ))
def f_X6_build (F : Nat) (b a : Nat) (x1 : Int32) (x2 : Int32) (x3 : Int32) (σ : nd_Mem) : nd_Res := (if (16 : Int32) ≤ (σ b 1) then (f_X6_build_33 F b a σ) else (nd_bind (f_X10_canBe F (0 : Int32) x1 σ) fun r1 σ2 => (if r1 = 0 then (f_X6_build_33 F b a σ2) else (nd_bind (f_X10_canBe F (1 : Int32) x2 σ2) fun r4 σ5 => (if r4 = 0 then (f_X6_build_33 F b a σ5) else (nd_bind (f_X10_canBe F (2 : Int32) x3 σ5) fun r7 σ8 => (if r7 = 0 then (f_X6_build_33 F b a σ8) else (nd_let (nd_up σ8 b 1 ((σ8 b 1) + (1 : Int32))) fun σ10 => (nd_bind (f_X6_put F b a (σ8 b 1) (0 : Int32) x1 σ10) fun r11 σ12 => (nd_bind (f_X6_put F b a (σ8 b 1) (1 : Int32) x2 σ12) fun r14 σ15 => (nd_bind (f_X6_put F b a (σ8 b 1) (2 : Int32) x3 σ15) fun r17 σ18 => (nd_bind (f_X6_put F b a (σ8 b 1) (3 : Int32) (0 : Int32) σ18) fun r20 σ21 => (nd_bind (f_X6_put F b a (σ8 b 1) (4 : Int32) (0 : Int32) σ21) fun r23 σ24 => (nd_bind (f_X6_put F b a (σ8 b 1) (5 : Int32) (σ8 b 1) σ24) fun r26 σ27 => (if (σ8 b 1) = 0 then (nd_let (nd_up σ27 b 2 (0 : Int32)) fun σ29 => (f_X6_build_110 F b a (σ8 b 1) σ29)) else (f_X6_build_110 F b a (σ8 b 1) σ27))))))))))))))))
set_option maxRecDepth 100000 in
set_option maxHeartbeats 4000000 in
theorem b_X6_build_33 (F : Nat) (b a : Nat) (sh : List nd_S) (hL : sh.length < nd_ro) (hs : is_Street sh b a) {z : Int32 × nd_Mem} (σ : nd_Mem) (h : f_X6_build_33 F b a σ = some z) : nd_V M_X6_build (nd_rm 1) (nd_Pi sh z) 0 0 33 [(0, .ref b)] [] sh σ := by
  unfold f_X6_build_33 at h
  refine nd_iconst dX6_build_33 ic_m1 ?_
  exact nd_iret dX6_build_34 (Nat.zero_le _) (Nat.zero_le _) (vp_nar_int _) (by cases h; exact ⟨rfl, rfl, rfl⟩)
set_option maxRecDepth 100000 in
set_option maxHeartbeats 4000000 in
theorem b_X6_build_110 (F : Nat) (b a : Nat) (sh : List nd_S) (hL : sh.length < nd_ro) (hs : is_Street sh b a) {z : Int32 × nd_Mem} (x4 : Int32) (σ : nd_Mem) (h : f_X6_build_110 F b a x4 σ = some z) : nd_V M_X6_build (nd_rm 1) (nd_Pi sh z) 0 0 110 [(0, .ref b), (4, .int x4)] [] sh σ := by
  unfold f_X6_build_110 at h
  refine nd_iload dX6_build_110 1 rfl ?_
  exact nd_iret dX6_build_112 (Nat.zero_le _) (Nat.zero_le _) (vp_nar_int _) (by cases h; exact ⟨rfl, rfl, rfl⟩)
set_option maxRecDepth 100000 in
set_option maxHeartbeats 4000000 in
theorem t_X6_build (F : Nat) (b a : Nat) (sh : List nd_S) (hL : sh.length < nd_ro) (hs : is_Street sh b a) {z : Int32 × nd_Mem} (x1 : Int32) (x2 : Int32) (x3 : Int32) (σ : nd_Mem) (h : f_X6_build F b a x1 x2 x3 σ = some z) : nd_Fn M_X6_build (nd_rm 1) [.ref b, .int x1, .int x2, .int x3] sh σ (nd_Pi sh z) := by
  refine nd_Fn.ofV (ls := [(0, .ref b), (1, .int x1), (2, .int x2), (3, .int x3)]) pl_X6_build rfl (fun _ => Nat.le_of_ble_eq_true rfl) (fun _ => rfl) ?_
  unfold f_X6_build at h
  refine nd_aload_n dX6_build_0 0 rfl ?_
  refine nd_get dX6_build_1 gf_X6_19 hs.1 rfl ?_
  refine nd_bipush dX6_build_4 ib_16 ?_
  refine nd_icmp_geN dX6_build_6 33 (by decide) h (fun h => ?_) (fun h => ?_)
  · refine nd_sub [0] rfl ?_
    exact b_X6_build_33 F b a sh hL hs _ h
  · refine nd_iconst dX6_build_9 ic_0 ?_
    refine nd_iload_n dX6_build_10 1 rfl ?_
    obtain ⟨r1, σ2, hc3, h⟩ := nd_bind_e h
    refine nd_csi [.int (0 : Int32), .int x1] [] dX6_build_11 cl_X6_22 ⟨Nat.le_of_ble_eq_true rfl, Nat.le_of_ble_eq_true rfl⟩ rfl (Nat.le_of_ble_eq_true rfl) hL (t_X10_canBe F sh hL _ _ _ hc3) ?_
    refine nd_if_eqN dX6_build_14 33 (by decide) h (fun h => ?_) (fun h => ?_)
    · refine nd_sub [0] rfl ?_
      exact b_X6_build_33 F b a sh hL hs _ h
    · refine nd_iconst dX6_build_17 ic_1 ?_
      refine nd_iload_n dX6_build_18 2 rfl ?_
      obtain ⟨r4, σ5, hc6, h⟩ := nd_bind_e h
      refine nd_csi [.int (1 : Int32), .int x2] [] dX6_build_19 cl_X6_22 ⟨Nat.le_of_ble_eq_true rfl, Nat.le_of_ble_eq_true rfl⟩ rfl (Nat.le_of_ble_eq_true rfl) hL (t_X10_canBe F sh hL _ _ _ hc6) ?_
      refine nd_if_eqN dX6_build_22 33 (by decide) h (fun h => ?_) (fun h => ?_)
      · refine nd_sub [0] rfl ?_
        exact b_X6_build_33 F b a sh hL hs _ h
      · refine nd_iconst dX6_build_25 ic_2 ?_
        refine nd_iload_n dX6_build_26 3 rfl ?_
        obtain ⟨r7, σ8, hc9, h⟩ := nd_bind_e h
        refine nd_csi [.int (2 : Int32), .int x3] [] dX6_build_27 cl_X6_22 ⟨Nat.le_of_ble_eq_true rfl, Nat.le_of_ble_eq_true rfl⟩ rfl (Nat.le_of_ble_eq_true rfl) hL (t_X10_canBe F sh hL _ _ _ hc9) ?_
        refine nd_if_neN dX6_build_30 35 (by decide) h (fun h => ?_) (fun h => ?_)
        · refine nd_aload_n dX6_build_35 0 rfl ?_
          refine nd_get dX6_build_36 gf_X6_19 hs.1 rfl ?_
          refine nd_istore (ls' := [(4, .int (σ8 b 1)), (0, .ref b), (1, .int x1), (2, .int x2), (3, .int x3)]) dX6_build_39 (by decide) rfl ?_
          refine nd_aload_n dX6_build_41 1 rfl ?_
          refine nd_dup dX6_build_42 rfl ?_
          refine nd_get dX6_build_43 gf_X6_19 hs.1 rfl ?_
          refine nd_iconst dX6_build_46 ic_1 ?_
          refine nd_iadd dX6_build_47 ?_
          refine nd_putiN dX6_build_48 pf_X6_19 hs.1 rfl h (fun σ10 h => ?_)
          refine nd_aload_n dX6_build_51 1 rfl ?_
          refine nd_iload dX6_build_52 0 rfl ?_
          refine nd_iconst dX6_build_54 ic_0 ?_
          refine nd_iload_n dX6_build_55 2 rfl ?_
          obtain ⟨r11, σ12, hc13, h⟩ := nd_bind_e h
          refine nd_cvv [.int (σ8 b 1), .int (0 : Int32), .int x1] [] dX6_build_56 cl_X6_26 hs.1 ⟨Nat.le_of_ble_eq_true rfl, Nat.le_of_ble_eq_true rfl⟩ rfl (Nat.le_of_ble_eq_true rfl) hL (t_X6_put F b a sh hL hs _ _ _ _ hc13) ?_
          refine nd_aload_n dX6_build_59 1 rfl ?_
          refine nd_iload dX6_build_60 0 rfl ?_
          refine nd_iconst dX6_build_62 ic_1 ?_
          refine nd_iload_n dX6_build_63 3 rfl ?_
          obtain ⟨r14, σ15, hc16, h⟩ := nd_bind_e h
          refine nd_cvv [.int (σ8 b 1), .int (1 : Int32), .int x2] [] dX6_build_64 cl_X6_26 hs.1 ⟨Nat.le_of_ble_eq_true rfl, Nat.le_of_ble_eq_true rfl⟩ rfl (Nat.le_of_ble_eq_true rfl) hL (t_X6_put F b a sh hL hs _ _ _ _ hc16) ?_
          refine nd_aload_n dX6_build_67 1 rfl ?_
          refine nd_iload dX6_build_68 0 rfl ?_
          refine nd_iconst dX6_build_70 ic_2 ?_
          refine nd_iload_n dX6_build_71 4 rfl ?_
          obtain ⟨r17, σ18, hc19, h⟩ := nd_bind_e h
          refine nd_cvv [.int (σ8 b 1), .int (2 : Int32), .int x3] [] dX6_build_72 cl_X6_26 hs.1 ⟨Nat.le_of_ble_eq_true rfl, Nat.le_of_ble_eq_true rfl⟩ rfl (Nat.le_of_ble_eq_true rfl) hL (t_X6_put F b a sh hL hs _ _ _ _ hc19) ?_
          refine nd_aload_n dX6_build_75 1 rfl ?_
          refine nd_iload dX6_build_76 0 rfl ?_
          refine nd_iconst dX6_build_78 ic_3 ?_
          refine nd_iconst dX6_build_79 ic_0 ?_
          obtain ⟨r20, σ21, hc22, h⟩ := nd_bind_e h
          refine nd_cvv [.int (σ8 b 1), .int (3 : Int32), .int (0 : Int32)] [] dX6_build_80 cl_X6_26 hs.1 ⟨Nat.le_of_ble_eq_true rfl, Nat.le_of_ble_eq_true rfl⟩ rfl (Nat.le_of_ble_eq_true rfl) hL (t_X6_put F b a sh hL hs _ _ _ _ hc22) ?_
          refine nd_aload_n dX6_build_83 1 rfl ?_
          refine nd_iload dX6_build_84 0 rfl ?_
          refine nd_iconst dX6_build_86 ic_4 ?_
          refine nd_iconst dX6_build_87 ic_0 ?_
          obtain ⟨r23, σ24, hc25, h⟩ := nd_bind_e h
          refine nd_cvv [.int (σ8 b 1), .int (4 : Int32), .int (0 : Int32)] [] dX6_build_88 cl_X6_26 hs.1 ⟨Nat.le_of_ble_eq_true rfl, Nat.le_of_ble_eq_true rfl⟩ rfl (Nat.le_of_ble_eq_true rfl) hL (t_X6_put F b a sh hL hs _ _ _ _ hc25) ?_
          refine nd_aload_n dX6_build_91 1 rfl ?_
          refine nd_iload dX6_build_92 0 rfl ?_
          refine nd_iconst dX6_build_94 ic_5 ?_
          refine nd_iload dX6_build_95 0 rfl ?_
          obtain ⟨r26, σ27, hc28, h⟩ := nd_bind_e h
          refine nd_cvv [.int (σ8 b 1), .int (5 : Int32), .int (σ8 b 1)] [] dX6_build_97 cl_X6_26 hs.1 ⟨Nat.le_of_ble_eq_true rfl, Nat.le_of_ble_eq_true rfl⟩ rfl (Nat.le_of_ble_eq_true rfl) hL (t_X6_put F b a sh hL hs _ _ _ _ hc28) ?_
          refine nd_iload dX6_build_100 0 rfl ?_
          refine nd_if_neN dX6_build_102 110 (by decide) h (fun h => ?_) (fun h => ?_)
          · refine nd_sub [1, 0] rfl ?_
            exact b_X6_build_110 F b a sh hL hs _ _ h
          · refine nd_aload_n dX6_build_105 1 rfl ?_
            refine nd_iconst dX6_build_106 ic_0 ?_
            refine nd_putiN dX6_build_107 pf_X6_15 hs.1 rfl h (fun σ29 h => ?_)
            refine nd_sub [1, 0] rfl ?_
            exact b_X6_build_110 F b a sh hL hs _ _ h
        · refine nd_sub [0] rfl ?_
          exact b_X6_build_33 F b a sh hL hs _ h
def f_X6_copy (F : Nat) (b a o0b o0a : Nat) (σ : nd_Mem) : nd_Res := (if (0 : Int32) < 0 ∨ (0 : Int32) < 0 ∨ (96 : Int32) < 0 ∨ 96 < ((0 : Int32)).toNatClampNeg + ((96 : Int32)).toNatClampNeg ∨ 96 < ((0 : Int32)).toNatClampNeg + ((96 : Int32)).toNatClampNeg then none else (nd_let (nd_row σ a (va_cpy (σ o0a) (σ a) ((0 : Int32)).toNatClampNeg ((0 : Int32)).toNatClampNeg ((96 : Int32)).toNatClampNeg)) fun σ1 => (nd_let (nd_up σ1 b 1 (σ1 o0b 1)) fun σ2 => (nd_let (nd_up σ2 b 2 (σ2 o0b 2)) fun σ3 => (nd_let (nd_up σ3 b 3 (σ3 o0b 3)) fun σ4 => (nd_let (nd_up σ4 b 4 (σ4 o0b 4)) fun σ5 => (nd_let (nd_up σ5 b 5 (σ5 o0b 5)) fun σ6 => (nd_let (nd_up σ6 b 6 (σ6 o0b 6)) fun σ7 => (nd_let (nd_up σ7 b 7 (σ7 o0b 7)) fun σ8 => (nd_let (nd_up σ8 b 8 (σ8 o0b 8)) fun σ9 => (some (0, σ9))))))))))))
set_option maxRecDepth 100000 in
set_option maxHeartbeats 4000000 in
theorem t_X6_copy (F : Nat) (b a o0b o0a : Nat) (sh : List nd_S) (hL : sh.length < nd_ro) (hs : is_Street sh b a) (hso0 : is_Street sh o0b o0a) {z : Int32 × nd_Mem} (σ : nd_Mem) (h : f_X6_copy F b a o0b o0a σ = some z) : nd_Fn M_X6_copy (nd_rm 1) [.ref b, .ref o0b] sh σ (nd_Pv sh z) := by
  refine nd_Fn.ofV (ls := [(0, .ref b), (1, .ref o0b)]) pl_X6_copy rfl (fun _ => Nat.le_of_ble_eq_true rfl) (fun _ => rfl) ?_
  unfold f_X6_copy at h
  refine nd_aload_n dX6_copy_0 1 rfl ?_
  refine nd_get dX6_copy_1 gf_X6_9 hso0.1 rfl ?_
  refine nd_iconst dX6_copy_4 ic_0 ?_
  refine nd_aload_n dX6_copy_5 0 rfl ?_
  refine nd_get dX6_copy_6 gf_X6_9 hs.1 rfl ?_
  refine nd_iconst dX6_copy_9 ic_0 ?_
  refine nd_aload_n dX6_copy_10 0 rfl ?_
  refine nd_get dX6_copy_11 gf_X6_9 hs.1 rfl ?_
  refine nd_alen (v := (96 : Int32)) dX6_copy_14 hs.2 rfl ?_
  refine nd_copyN dX6_copy_15 lk_X6_47 wcp_n wcp_s wcp_i hso0.2 hs.2 ⟨by decide, by decide⟩ (Nat.le_of_ble_eq_true rfl) h (fun σ1 h => ?_)
  refine nd_aload_n dX6_copy_18 0 rfl ?_
  refine nd_aload_n dX6_copy_19 1 rfl ?_
  refine nd_get dX6_copy_20 gf_X6_19 hso0.1 rfl ?_
  refine nd_putiN dX6_copy_23 pf_X6_19 hs.1 rfl h (fun σ2 h => ?_)
  refine nd_aload_n dX6_copy_26 0 rfl ?_
  refine nd_aload_n dX6_copy_27 1 rfl ?_
  refine nd_get dX6_copy_28 gf_X6_15 hso0.1 rfl ?_
  refine nd_putiN dX6_copy_31 pf_X6_15 hs.1 rfl h (fun σ3 h => ?_)
  refine nd_aload_n dX6_copy_34 0 rfl ?_
  refine nd_aload_n dX6_copy_35 1 rfl ?_
  refine nd_get dX6_copy_36 gf_X6_53 hso0.1 rfl ?_
  refine nd_putiN dX6_copy_39 pf_X6_53 hs.1 rfl h (fun σ4 h => ?_)
  refine nd_aload_n dX6_copy_42 0 rfl ?_
  refine nd_aload_n dX6_copy_43 1 rfl ?_
  refine nd_get dX6_copy_44 gf_X6_56 hso0.1 rfl ?_
  refine nd_putiN dX6_copy_47 pf_X6_56 hs.1 rfl h (fun σ5 h => ?_)
  refine nd_aload_n dX6_copy_50 0 rfl ?_
  refine nd_aload_n dX6_copy_51 1 rfl ?_
  refine nd_get dX6_copy_52 gf_X6_59 hso0.1 rfl ?_
  refine nd_putiN dX6_copy_55 pf_X6_59 hs.1 rfl h (fun σ6 h => ?_)
  refine nd_aload_n dX6_copy_58 0 rfl ?_
  refine nd_aload_n dX6_copy_59 1 rfl ?_
  refine nd_get dX6_copy_60 gf_X6_62 hso0.1 rfl ?_
  refine nd_putiN dX6_copy_63 pf_X6_62 hs.1 rfl h (fun σ7 h => ?_)
  refine nd_aload_n dX6_copy_66 0 rfl ?_
  refine nd_aload_n dX6_copy_67 1 rfl ?_
  refine nd_get dX6_copy_68 gf_X6_43 hso0.1 rfl ?_
  refine nd_putiN dX6_copy_71 pf_X6_43 hs.1 rfl h (fun σ8 h => ?_)
  refine nd_aload_n dX6_copy_74 0 rfl ?_
  refine nd_aload_n dX6_copy_75 1 rfl ?_
  refine nd_get dX6_copy_76 gf_X6_65 hso0.1 rfl ?_
  refine nd_putiN dX6_copy_79 pf_X6_65 hs.1 rfl h (fun σ9 h => ?_)
  exact nd_vret dX6_copy_82 (Nat.zero_le _) (Nat.zero_le _) trivial (by cases h; exact ⟨rfl, rfl, rfl⟩)
def f_X6_dowries_4_b (F : Nat) (rec4 : Int32 → Int32 → nd_Mem → nd_Res) (b a : Nat) (x1 : Int32) (x2 : Int32) (σ : nd_Mem) : nd_Res := (if (σ b 1) ≤ x2 then (some (x1, σ)) else (nd_bind (f_X6_get F b a x2 (2 : Int32) σ) fun r1 σ2 => (rec4 (x1 + r1) (x2 + (1 : Int32)) σ2)))
def f_X6_dowries_4 (F : Nat) (b a : Nat) : Nat → Int32 → Int32 → nd_Mem → nd_Res
  | 0, _, _, _ => none
  | m9 + 1, x1, x2, σ => f_X6_dowries_4_b F (f_X6_dowries_4 F b a m9) b a x1 x2 σ
def f_X6_dowries (F : Nat) (b a : Nat) (σ : nd_Mem) : nd_Res := (f_X6_dowries_4 F b a F (0 : Int32) (0 : Int32) σ)
set_option maxRecDepth 100000 in
set_option maxHeartbeats 4000000 in
theorem b_X6_dowries_4 (F : Nat) (b a : Nat) (sh : List nd_S) (hL : sh.length < nd_ro) (hs : is_Street sh b a) {z : Int32 × nd_Mem} (m9 : Nat) : ∀ (x1 : Int32) (x2 : Int32) (σ : nd_Mem), f_X6_dowries_4 F b a m9 x1 x2 σ = some z → nd_V M_X6_dowries (nd_rm 1) (nd_Pi sh z) 0 0 4 [(0, .ref b), (1, .int x1), (2, .int x2)] [] sh σ := by
  induction m9 with
  | zero =>
    intro x1 x2 σ h
    have h : none = some z := h
    cases h
  | succ m9 hrec4 =>
    intro x1 x2 σ h
    have h : f_X6_dowries_4_b F (f_X6_dowries_4 F b a m9) b a x1 x2 σ = some z := h
    unfold f_X6_dowries_4_b at h
    refine nd_iload_n dX6_dowries_4 2 rfl ?_
    refine nd_aload_n dX6_dowries_5 0 rfl ?_
    refine nd_get dX6_dowries_6 gf_X6_19 hs.1 rfl ?_
    refine nd_icmp_geN dX6_dowries_9 27 (by decide) h (fun h => ?_) (fun h => ?_)
    · refine nd_iload_n dX6_dowries_27 1 rfl ?_
      exact nd_iret dX6_dowries_28 (Nat.zero_le _) (Nat.zero_le _) (vp_nar_int _) (by cases h; exact ⟨rfl, rfl, rfl⟩)
    · refine nd_iload_n dX6_dowries_12 1 rfl ?_
      refine nd_aload_n dX6_dowries_13 0 rfl ?_
      refine nd_iload_n dX6_dowries_14 2 rfl ?_
      refine nd_iconst dX6_dowries_15 ic_2 ?_
      obtain ⟨r1, σ2, hc3, h⟩ := nd_bind_e h
      refine nd_cvi [.int x2, .int (2 : Int32)] [.int x1] dX6_dowries_16 cl_X6_33 hs.1 ⟨Nat.le_of_ble_eq_true rfl, Nat.le_of_ble_eq_true rfl⟩ rfl (Nat.le_of_ble_eq_true rfl) hL (t_X6_get F b a sh hL hs _ _ _ hc3) ?_
      refine nd_iadd dX6_dowries_19 ?_
      refine nd_istore_n (ls' := [(1, .int (x1 + r1)), (0, .ref b), (2, .int x2)]) dX6_dowries_20 (by decide) rfl ?_
      refine nd_iinc (v := (x2 + (1 : Int32))) (ls' := [(2, .int (x2 + (1 : Int32))), (1, .int (x1 + r1)), (0, .ref b)]) dX6_dowries_21 2 rfl (congrArg (HAdd.hAdd _) ic_1) (by decide) rfl ?_
      refine nd_goto dX6_dowries_24 4 (by decide) ?_
      refine nd_sub [2, 1, 0] rfl ?_
      exact hrec4 _ _ _ h
set_option maxRecDepth 100000 in
set_option maxHeartbeats 4000000 in
theorem t_X6_dowries (F : Nat) (b a : Nat) (sh : List nd_S) (hL : sh.length < nd_ro) (hs : is_Street sh b a) {z : Int32 × nd_Mem} (σ : nd_Mem) (h : f_X6_dowries F b a σ = some z) : nd_Fn M_X6_dowries (nd_rm 1) [.ref b] sh σ (nd_Pi sh z) := by
  refine nd_Fn.ofV (ls := [(0, .ref b)]) pl_X6_dowries rfl (fun _ => Nat.le_of_ble_eq_true rfl) (fun _ => rfl) ?_
  unfold f_X6_dowries at h
  refine nd_iconst dX6_dowries_0 ic_0 ?_
  refine nd_istore_n (ls' := [(1, .int (0 : Int32)), (0, .ref b)]) dX6_dowries_1 (by decide) rfl ?_
  refine nd_iconst dX6_dowries_2 ic_0 ?_
  refine nd_istore_n (ls' := [(2, .int (0 : Int32)), (1, .int (0 : Int32)), (0, .ref b)]) dX6_dowries_3 (by decide) rfl ?_
  refine nd_sub [2, 1, 0] rfl ?_
  exact b_X6_dowries_4 F b a sh hL hs F _ _ _ h
def f_X6_widows_28 (F : Nat) (rec4 : Int32 → Int32 → nd_Mem → nd_Res) (b a : Nat) (x1 : Int32) (x2 : Int32) (σ : nd_Mem) : nd_Res := (rec4 x1 (x2 + (1 : Int32)) σ)
def f_X6_widows_4_b (F : Nat) (rec4 : Int32 → Int32 → nd_Mem → nd_Res) (b a : Nat) (x1 : Int32) (x2 : Int32) (σ : nd_Mem) : nd_Res := (if (σ b 1) ≤ x2 then (some (x1, σ)) else (nd_bind (f_X6_get F b a x2 (4 : Int32) σ) fun r1 σ2 => (if r1 = (1 : Int32) then (f_X6_widows_28 F rec4 b a (x1 ||| ((1 : Int32) <<< (x2 &&& 31))) x2 σ2) else (f_X6_widows_28 F rec4 b a x1 x2 σ2))))
def f_X6_widows_4 (F : Nat) (b a : Nat) : Nat → Int32 → Int32 → nd_Mem → nd_Res
  | 0, _, _, _ => none
  | m9 + 1, x1, x2, σ => f_X6_widows_4_b F (f_X6_widows_4 F b a m9) b a x1 x2 σ
def f_X6_widows (F : Nat) (b a : Nat) (σ : nd_Mem) : nd_Res := (f_X6_widows_4 F b a F (0 : Int32) (0 : Int32) σ)
set_option maxRecDepth 100000 in
set_option maxHeartbeats 4000000 in
theorem b_X6_widows_28 (F : Nat) (rec4 : Int32 → Int32 → nd_Mem → nd_Res) (b a : Nat) (sh : List nd_S) (hL : sh.length < nd_ro) (hs : is_Street sh b a) {z : Int32 × nd_Mem} (hrec4 : ∀ (x1 : Int32) (x2 : Int32) (σ : nd_Mem), rec4 x1 x2 σ = some z → nd_V M_X6_widows (nd_rm 1) (nd_Pi sh z) 0 0 4 [(0, .ref b), (1, .int x1), (2, .int x2)] [] sh σ) (x1 : Int32) (x2 : Int32) (σ : nd_Mem) (h : f_X6_widows_28 F rec4 b a x1 x2 σ = some z) : nd_V M_X6_widows (nd_rm 1) (nd_Pi sh z) 0 0 28 [(0, .ref b), (1, .int x1), (2, .int x2)] [] sh σ := by
  unfold f_X6_widows_28 at h
  refine nd_iinc (v := (x2 + (1 : Int32))) (ls' := [(2, .int (x2 + (1 : Int32))), (0, .ref b), (1, .int x1)]) dX6_widows_28 2 rfl (congrArg (HAdd.hAdd _) ic_1) (by decide) rfl ?_
  refine nd_goto dX6_widows_31 4 (by decide) ?_
  refine nd_sub [1, 2, 0] rfl ?_
  exact hrec4 _ _ _ h
set_option maxRecDepth 100000 in
set_option maxHeartbeats 4000000 in
theorem b_X6_widows_4 (F : Nat) (b a : Nat) (sh : List nd_S) (hL : sh.length < nd_ro) (hs : is_Street sh b a) {z : Int32 × nd_Mem} (m9 : Nat) : ∀ (x1 : Int32) (x2 : Int32) (σ : nd_Mem), f_X6_widows_4 F b a m9 x1 x2 σ = some z → nd_V M_X6_widows (nd_rm 1) (nd_Pi sh z) 0 0 4 [(0, .ref b), (1, .int x1), (2, .int x2)] [] sh σ := by
  induction m9 with
  | zero =>
    intro x1 x2 σ h
    have h : none = some z := h
    cases h
  | succ m9 hrec4 =>
    intro x1 x2 σ h
    have h : f_X6_widows_4_b F (f_X6_widows_4 F b a m9) b a x1 x2 σ = some z := h
    unfold f_X6_widows_4_b at h
    refine nd_iload_n dX6_widows_4 2 rfl ?_
    refine nd_aload_n dX6_widows_5 0 rfl ?_
    refine nd_get dX6_widows_6 gf_X6_19 hs.1 rfl ?_
    refine nd_icmp_geN dX6_widows_9 34 (by decide) h (fun h => ?_) (fun h => ?_)
    · refine nd_iload_n dX6_widows_34 1 rfl ?_
      exact nd_iret dX6_widows_35 (Nat.zero_le _) (Nat.zero_le _) (vp_nar_int _) (by cases h; exact ⟨rfl, rfl, rfl⟩)
    · refine nd_aload_n dX6_widows_12 0 rfl ?_
      refine nd_iload_n dX6_widows_13 2 rfl ?_
      refine nd_iconst dX6_widows_14 ic_4 ?_
      obtain ⟨r1, σ2, hc3, h⟩ := nd_bind_e h
      refine nd_cvi [.int x2, .int (4 : Int32)] [] dX6_widows_15 cl_X6_33 hs.1 ⟨Nat.le_of_ble_eq_true rfl, Nat.le_of_ble_eq_true rfl⟩ rfl (Nat.le_of_ble_eq_true rfl) hL (t_X6_get F b a sh hL hs _ _ _ hc3) ?_
      refine nd_iconst dX6_widows_18 ic_1 ?_
      refine nd_icmp_neN dX6_widows_19 28 (by decide) h (fun h => ?_) (fun h => ?_)
      · exact b_X6_widows_28 F _ b a sh hL hs hrec4 _ _ _ h
      · refine nd_iload_n dX6_widows_22 1 rfl ?_
        refine nd_iconst dX6_widows_23 ic_1 ?_
        refine nd_iload_n dX6_widows_24 2 rfl ?_
        refine nd_ishl dX6_widows_25 ?_
        refine nd_ior dX6_widows_26 ?_
        refine nd_istore_n (ls' := [(1, .int (x1 ||| ((1 : Int32) <<< (x2 &&& 31)))), (0, .ref b), (2, .int x2)]) dX6_widows_27 (by decide) rfl ?_
        refine nd_sub [1, 0, 2] rfl ?_
        exact b_X6_widows_28 F _ b a sh hL hs hrec4 _ _ _ h
set_option maxRecDepth 100000 in
set_option maxHeartbeats 4000000 in
theorem t_X6_widows (F : Nat) (b a : Nat) (sh : List nd_S) (hL : sh.length < nd_ro) (hs : is_Street sh b a) {z : Int32 × nd_Mem} (σ : nd_Mem) (h : f_X6_widows F b a σ = some z) : nd_Fn M_X6_widows (nd_rm 1) [.ref b] sh σ (nd_Pi sh z) := by
  refine nd_Fn.ofV (ls := [(0, .ref b)]) pl_X6_widows rfl (fun _ => Nat.le_of_ble_eq_true rfl) (fun _ => rfl) ?_
  unfold f_X6_widows at h
  refine nd_iconst dX6_widows_0 ic_0 ?_
  refine nd_istore_n (ls' := [(1, .int (0 : Int32)), (0, .ref b)]) dX6_widows_1 (by decide) rfl ?_
  refine nd_iconst dX6_widows_2 ic_0 ?_
  refine nd_istore_n (ls' := [(2, .int (0 : Int32)), (1, .int (0 : Int32)), (0, .ref b)]) dX6_widows_3 (by decide) rfl ?_
  refine nd_sub [2, 1, 0] rfl ?_
  exact b_X6_widows_4 F b a sh hL hs F _ _ _ h
def f_X1_goBack (F : Nat) (o0b o0a : Nat) (σ : nd_Mem) : nd_Res := (if (σ 24 1) = 0 then (some ((0 : Int32), σ)) else (nd_let (nd_up σ 24 2 (q_rem (((σ 24 2) + (6 : Int32)) - (1 : Int32)) (6 : Int32))) fun σ1 => (nd_let (nd_up σ1 24 1 ((σ1 24 1) - (1 : Int32))) fun σ2 => (if (σ2 24 2) < 0 ∨ 6 ≤ ((σ2 24 2)).toNatClampNeg then none else (nd_bind (f_X6_copy F o0b o0a (26 + 2 * ((σ2 24 2)).toNatClampNeg) (27 + 2 * ((σ2 24 2)).toNatClampNeg) σ2) fun r4 σ5 => (some ((1 : Int32), σ5)))))))
set_option maxRecDepth 100000 in
set_option maxHeartbeats 4000000 in
theorem t_X1_goBack (F : Nat) (o0b o0a : Nat) (t : List nd_S) (hL : (nd_SH ++ t).length < nd_ro) (hso0 : is_Street (nd_SH ++ t) o0b o0a) {z : Int32 × nd_Mem} (σ : nd_Mem) (h : f_X1_goBack F o0b o0a σ = some z) : nd_Fn M_X1_goBack (nd_rm 2) [.ref 24, .ref o0b] (nd_SH ++ t) σ (nd_Pi (nd_SH ++ t) z) := by
  refine nd_Fn.ofV (ls := [(0, .ref 24), (1, .ref o0b)]) pl_X1_goBack rfl (fun _ => Nat.le_of_ble_eq_true rfl) (fun _ => rfl) ?_
  unfold f_X1_goBack at h
  refine nd_aload_n dX1_goBack_0 0 rfl ?_
  refine nd_get dX1_goBack_1 gf_X1_18 (sh_24 t) rfl ?_
  refine nd_if_neN dX1_goBack_4 9 (by decide) h (fun h => ?_) (fun h => ?_)
  · refine nd_aload_n dX1_goBack_9 0 rfl ?_
    refine nd_aload_n dX1_goBack_10 0 rfl ?_
    refine nd_get dX1_goBack_11 gf_X1_22 (sh_24 t) rfl ?_
    refine nd_bipush dX1_goBack_14 ib_6 ?_
    refine nd_iadd dX1_goBack_16 ?_
    refine nd_iconst dX1_goBack_17 ic_1 ?_
    refine nd_isub dX1_goBack_18 ?_
    refine nd_bipush dX1_goBack_19 ib_6 ?_
    refine nd_irem dX1_goBack_21 (by decide) ?_
    refine nd_putiN dX1_goBack_22 pf_X1_22 (sh_24 t) rfl h (fun σ1 h => ?_)
    refine nd_aload_n dX1_goBack_25 0 rfl ?_
    refine nd_dup dX1_goBack_26 rfl ?_
    refine nd_get dX1_goBack_27 gf_X1_18 (sh_24 t) rfl ?_
    refine nd_iconst dX1_goBack_30 ic_1 ?_
    refine nd_isub dX1_goBack_31 ?_
    refine nd_putiN dX1_goBack_32 pf_X1_18 (sh_24 t) rfl h (fun σ2 h => ?_)
    refine nd_aload_n dX1_goBack_35 1 rfl ?_
    refine nd_aload_n dX1_goBack_36 0 rfl ?_
    refine nd_get dX1_goBack_37 gf_X1_11 (sh_24 t) rfl ?_
    refine nd_aload_n dX1_goBack_40 0 rfl ?_
    refine nd_get dX1_goBack_41 gf_X1_22 (sh_24 t) rfl ?_
    have hk3 := nd_no_e h
    have h := hk3.2
    refine nd_aaload dX1_goBack_44 (sh_25 t) hk3.1 (nd_kept_at hk3.1) ?_
    obtain ⟨r4, σ5, hc6, h⟩ := nd_bind_e h
    refine nd_cvv [.ref (26 + 2 * ((σ2 24 2)).toNatClampNeg)] [] dX1_goBack_45 cl_X1_25 hso0.1 ⟨Nat.le_of_ble_eq_true rfl, Nat.le_of_ble_eq_true rfl⟩ rfl (Nat.le_of_ble_eq_true rfl) hL (t_X6_copy F o0b o0a (26 + 2 * ((σ2 24 2)).toNatClampNeg) (27 + 2 * ((σ2 24 2)).toNatClampNeg) (nd_SH ++ t) hL hso0 (is_Kept t hk3.1) _ hc6) ?_
    refine nd_iconst dX1_goBack_48 ic_1 ?_
    exact nd_iret dX1_goBack_49 (Nat.zero_le _) (Nat.zero_le _) rfl (by cases h; exact ⟨rfl, rfl, rfl⟩)
  · refine nd_iconst dX1_goBack_7 ic_0 ?_
    exact nd_iret dX1_goBack_8 (Nat.zero_le _) (Nat.zero_le _) rfl (by cases h; exact ⟨rfl, rfl, rfl⟩)
def f_X1_keep (F : Nat) (o0b o0a : Nat) (σ : nd_Mem) : nd_Res := (if (σ 24 2) < 0 ∨ 6 ≤ ((σ 24 2)).toNatClampNeg then none else (nd_bind (f_X6_copy F (26 + 2 * ((σ 24 2)).toNatClampNeg) (27 + 2 * ((σ 24 2)).toNatClampNeg) o0b o0a σ) fun r2 σ3 => (nd_let (nd_up σ3 24 2 (q_rem ((σ3 24 2) + (1 : Int32)) (6 : Int32))) fun σ5 => (nd_let (nd_up σ5 24 1 (if (6 : Int32) < ((σ5 24 1) + (1 : Int32)) then (6 : Int32) else ((σ5 24 1) + (1 : Int32)))) fun σ6 => (some (0, σ6))))))
set_option maxRecDepth 100000 in
set_option maxHeartbeats 4000000 in
theorem t_X1_keep (F : Nat) (o0b o0a : Nat) (t : List nd_S) (hL : (nd_SH ++ t).length < nd_ro) (hso0 : is_Street (nd_SH ++ t) o0b o0a) {z : Int32 × nd_Mem} (σ : nd_Mem) (h : f_X1_keep F o0b o0a σ = some z) : nd_Fn M_X1_keep (nd_rm 2) [.ref 24, .ref o0b] (nd_SH ++ t) σ (nd_Pv (nd_SH ++ t) z) := by
  refine nd_Fn.ofV (ls := [(0, .ref 24), (1, .ref o0b)]) pl_X1_keep rfl (fun _ => Nat.le_of_ble_eq_true rfl) (fun _ => rfl) ?_
  unfold f_X1_keep at h
  refine nd_aload_n dX1_keep_0 0 rfl ?_
  refine nd_get dX1_keep_1 gf_X1_11 (sh_24 t) rfl ?_
  refine nd_aload_n dX1_keep_4 0 rfl ?_
  refine nd_get dX1_keep_5 gf_X1_22 (sh_24 t) rfl ?_
  have hk1 := nd_no_e h
  have h := hk1.2
  refine nd_aaload dX1_keep_8 (sh_25 t) hk1.1 (nd_kept_at hk1.1) ?_
  refine nd_aload_n dX1_keep_9 1 rfl ?_
  obtain ⟨r2, σ3, hc4, h⟩ := nd_bind_e h
  refine nd_cvv [.ref o0b] [] dX1_keep_10 cl_X1_25 (is_Kept t hk1.1).1 ⟨Nat.le_of_ble_eq_true rfl, Nat.le_of_ble_eq_true rfl⟩ rfl (Nat.le_of_ble_eq_true rfl) hL (t_X6_copy F (26 + 2 * ((σ 24 2)).toNatClampNeg) (27 + 2 * ((σ 24 2)).toNatClampNeg) o0b o0a (nd_SH ++ t) hL (is_Kept t hk1.1) hso0 _ hc4) ?_
  refine nd_aload_n dX1_keep_13 0 rfl ?_
  refine nd_aload_n dX1_keep_14 0 rfl ?_
  refine nd_get dX1_keep_15 gf_X1_22 (sh_24 t) rfl ?_
  refine nd_iconst dX1_keep_18 ic_1 ?_
  refine nd_iadd dX1_keep_19 ?_
  refine nd_bipush dX1_keep_20 ib_6 ?_
  refine nd_irem dX1_keep_22 (by decide) ?_
  refine nd_putiN dX1_keep_23 pf_X1_22 (sh_24 t) rfl h (fun σ5 h => ?_)
  refine nd_aload_n dX1_keep_26 0 rfl ?_
  refine nd_aload_n dX1_keep_27 0 rfl ?_
  refine nd_get dX1_keep_28 gf_X1_18 (sh_24 t) rfl ?_
  refine nd_iconst dX1_keep_31 ic_1 ?_
  refine nd_iadd dX1_keep_32 ?_
  refine nd_bipush dX1_keep_33 ib_6 ?_
  refine nd_min dX1_keep_35 lk_X1_29 wmin_s wmin_i wmin_c ⟨by decide, by decide⟩ (Nat.le_refl _) (Nat.le_refl _) (Nat.le_of_ble_eq_true rfl) ?_
  refine nd_putiN dX1_keep_38 pf_X1_18 (sh_24 t) rfl h (fun σ6 h => ?_)
  exact nd_vret dX1_keep_41 (Nat.zero_le _) (Nat.zero_le _) trivial (by cases h; exact ⟨rfl, rfl, rfl⟩)
def f_X5_kings_55 (F : Nat) (rec4 : Int32 → Int32 → Int32 → nd_Mem → nd_Res) (rec27 : Int32 → Int32 → Int32 → Int32 → Int32 → Int32 → nd_Mem → nd_Res) (b : Nat) (x1 : Int32) (x2 : Int32) (x3 : Int32) (x4 : Int32) (x5 : Int32) (x6 : Int32) (σ : nd_Mem) : nd_Res := (rec27 x1 x2 x3 x4 x5 (x6 + (1 : Int32)) σ)
def f_X5_kings_77 (F : Nat) (rec4 : Int32 → Int32 → Int32 → nd_Mem → nd_Res) (b : Nat) (x1 : Int32) (x2 : Int32) (x3 : Int32) (σ : nd_Mem) : nd_Res := (rec4 x1 x2 (x3 + (1 : Int32)) σ)
def f_X5_kings_27_b (F : Nat) (rec4 : Int32 → Int32 → Int32 → nd_Mem → nd_Res) (rec27 : Int32 → Int32 → Int32 → Int32 → Int32 → Int32 → nd_Mem → nd_Res) (b : Nat) (x1 : Int32) (x2 : Int32) (x3 : Int32) (x4 : Int32) (x5 : Int32) (x6 : Int32) (σ : nd_Mem) : nd_Res := (if x1 ≤ x6 then (if x5 = (((1 : Int32) <<< (x1 &&& 31)) - (1 : Int32)) then (f_X5_kings_77 F rec4 b x1 (x2 ||| ((1 : Int32) <<< (x3 &&& 31))) x3 σ) else (f_X5_kings_77 F rec4 b x1 x2 x3 σ)) else (if ((x4 >>> (x6 &&& 31)) &&& (1 : Int32)) = (1 : Int32) then (nd_bind (f_X5_below F b x6 σ) fun r1 σ2 => (f_X5_kings_55 F rec4 rec27 b x1 x2 x3 x4 (x5 ||| r1) x6 σ2)) else (f_X5_kings_55 F rec4 rec27 b x1 x2 x3 x4 x5 x6 σ)))
def f_X5_kings_27 (F : Nat) (rec4 : Int32 → Int32 → Int32 → nd_Mem → nd_Res) (b : Nat) : Nat → Int32 → Int32 → Int32 → Int32 → Int32 → Int32 → nd_Mem → nd_Res
  | 0, _, _, _, _, _, _, _ => none
  | m9 + 1, x1, x2, x3, x4, x5, x6, σ => f_X5_kings_27_b F rec4 (f_X5_kings_27 F rec4 b m9) b x1 x2 x3 x4 x5 x6 σ
def f_X5_kings_4_b (F : Nat) (rec4 : Int32 → Int32 → Int32 → nd_Mem → nd_Res) (b : Nat) (x1 : Int32) (x2 : Int32) (x3 : Int32) (σ : nd_Mem) : nd_Res := (if x1 ≤ x3 then (some (x2, σ)) else (nd_bind (f_X5_below F b x3 σ) fun r1 σ2 => (f_X5_kings_27 F rec4 b F x1 x2 x3 r1 (r1 ||| ((1 : Int32) <<< (x3 &&& 31))) (0 : Int32) σ2)))
def f_X5_kings_4 (F : Nat) (b : Nat) : Nat → Int32 → Int32 → Int32 → nd_Mem → nd_Res
  | 0, _, _, _, _ => none
  | m9 + 1, x1, x2, x3, σ => f_X5_kings_4_b F (f_X5_kings_4 F b m9) b x1 x2 x3 σ
def f_X5_kings (F : Nat) (b : Nat) (x1 : Int32) (σ : nd_Mem) : nd_Res := (f_X5_kings_4 F b F x1 (0 : Int32) (0 : Int32) σ)
set_option maxRecDepth 100000 in
set_option maxHeartbeats 4000000 in
theorem b_X5_kings_55 (F : Nat) (rec4 : Int32 → Int32 → Int32 → nd_Mem → nd_Res) (rec27 : Int32 → Int32 → Int32 → Int32 → Int32 → Int32 → nd_Mem → nd_Res) (b : Nat) (sh : List nd_S) (hL : sh.length < nd_ro) (hs : is_Rules sh b) {z : Int32 × nd_Mem} (hrec4 : ∀ (x1 : Int32) (x2 : Int32) (x3 : Int32) (σ : nd_Mem), rec4 x1 x2 x3 σ = some z → nd_V M_X5_kings (nd_rm 2) (nd_Pi sh z) 0 0 4 [(0, .ref b), (1, .int x1), (2, .int x2), (3, .int x3)] [] sh σ) (hrec27 : ∀ (x1 : Int32) (x2 : Int32) (x3 : Int32) (x4 : Int32) (x5 : Int32) (x6 : Int32) (σ : nd_Mem), rec27 x1 x2 x3 x4 x5 x6 σ = some z → nd_V M_X5_kings (nd_rm 2) (nd_Pi sh z) 0 0 27 [(0, .ref b), (1, .int x1), (2, .int x2), (3, .int x3), (4, .int x4), (5, .int x5), (6, .int x6)] [] sh σ) (x1 : Int32) (x2 : Int32) (x3 : Int32) (x4 : Int32) (x5 : Int32) (x6 : Int32) (σ : nd_Mem) (h : f_X5_kings_55 F rec4 rec27 b x1 x2 x3 x4 x5 x6 σ = some z) : nd_V M_X5_kings (nd_rm 2) (nd_Pi sh z) 0 0 55 [(0, .ref b), (1, .int x1), (2, .int x2), (3, .int x3), (4, .int x4), (5, .int x5), (6, .int x6)] [] sh σ := by
  unfold f_X5_kings_55 at h
  refine nd_iinc (v := (x6 + (1 : Int32))) (ls' := [(6, .int (x6 + (1 : Int32))), (0, .ref b), (1, .int x1), (2, .int x2), (3, .int x3), (4, .int x4), (5, .int x5)]) dX5_kings_55 6 rfl (congrArg (HAdd.hAdd _) ic_1) (by decide) rfl ?_
  refine nd_goto dX5_kings_58 27 (by decide) ?_
  refine nd_sub [1, 2, 3, 4, 5, 6, 0] rfl ?_
  exact hrec27 _ _ _ _ _ _ _ h
set_option maxRecDepth 100000 in
set_option maxHeartbeats 4000000 in
theorem b_X5_kings_77 (F : Nat) (rec4 : Int32 → Int32 → Int32 → nd_Mem → nd_Res) (b : Nat) (sh : List nd_S) (hL : sh.length < nd_ro) (hs : is_Rules sh b) {z : Int32 × nd_Mem} (hrec4 : ∀ (x1 : Int32) (x2 : Int32) (x3 : Int32) (σ : nd_Mem), rec4 x1 x2 x3 σ = some z → nd_V M_X5_kings (nd_rm 2) (nd_Pi sh z) 0 0 4 [(0, .ref b), (1, .int x1), (2, .int x2), (3, .int x3)] [] sh σ) (x1 : Int32) (x2 : Int32) (x3 : Int32) (σ : nd_Mem) (h : f_X5_kings_77 F rec4 b x1 x2 x3 σ = some z) : nd_V M_X5_kings (nd_rm 2) (nd_Pi sh z) 0 0 77 [(0, .ref b), (1, .int x1), (2, .int x2), (3, .int x3)] [] sh σ := by
  unfold f_X5_kings_77 at h
  refine nd_iinc (v := (x3 + (1 : Int32))) (ls' := [(3, .int (x3 + (1 : Int32))), (0, .ref b), (1, .int x1), (2, .int x2)]) dX5_kings_77 3 rfl (congrArg (HAdd.hAdd _) ic_1) (by decide) rfl ?_
  refine nd_goto dX5_kings_80 4 (by decide) ?_
  refine nd_sub [1, 2, 3, 0] rfl ?_
  exact hrec4 _ _ _ _ h
set_option maxRecDepth 100000 in
set_option maxHeartbeats 4000000 in
theorem b_X5_kings_27 (F : Nat) (rec4 : Int32 → Int32 → Int32 → nd_Mem → nd_Res) (b : Nat) (sh : List nd_S) (hL : sh.length < nd_ro) (hs : is_Rules sh b) {z : Int32 × nd_Mem} (hrec4 : ∀ (x1 : Int32) (x2 : Int32) (x3 : Int32) (σ : nd_Mem), rec4 x1 x2 x3 σ = some z → nd_V M_X5_kings (nd_rm 2) (nd_Pi sh z) 0 0 4 [(0, .ref b), (1, .int x1), (2, .int x2), (3, .int x3)] [] sh σ) (m9 : Nat) : ∀ (x1 : Int32) (x2 : Int32) (x3 : Int32) (x4 : Int32) (x5 : Int32) (x6 : Int32) (σ : nd_Mem), f_X5_kings_27 F rec4 b m9 x1 x2 x3 x4 x5 x6 σ = some z → nd_V M_X5_kings (nd_rm 2) (nd_Pi sh z) 0 0 27 [(0, .ref b), (1, .int x1), (2, .int x2), (3, .int x3), (4, .int x4), (5, .int x5), (6, .int x6)] [] sh σ := by
  induction m9 with
  | zero =>
    intro x1 x2 x3 x4 x5 x6 σ h
    have h : none = some z := h
    cases h
  | succ m9 hrec27 =>
    intro x1 x2 x3 x4 x5 x6 σ h
    have h : f_X5_kings_27_b F rec4 (f_X5_kings_27 F rec4 b m9) b x1 x2 x3 x4 x5 x6 σ = some z := h
    unfold f_X5_kings_27_b at h
    refine nd_iload dX5_kings_27 6 rfl ?_
    refine nd_iload_n dX5_kings_29 1 rfl ?_
    refine nd_icmp_geN dX5_kings_30 61 (by decide) h (fun h => ?_) (fun h => ?_)
    · refine nd_iload dX5_kings_61 5 rfl ?_
      refine nd_iconst dX5_kings_63 ic_1 ?_
      refine nd_iload_n dX5_kings_64 1 rfl ?_
      refine nd_ishl dX5_kings_65 ?_
      refine nd_iconst dX5_kings_66 ic_1 ?_
      refine nd_isub dX5_kings_67 ?_
      refine nd_icmp_neN dX5_kings_68 77 (by decide) h (fun h => ?_) (fun h => ?_)
      · refine nd_sub [0, 1, 2, 3] rfl ?_
        exact b_X5_kings_77 F _ b sh hL hs hrec4 _ _ _ _ h
      · refine nd_iload_n dX5_kings_71 2 rfl ?_
        refine nd_iconst dX5_kings_72 ic_1 ?_
        refine nd_iload_n dX5_kings_73 3 rfl ?_
        refine nd_ishl dX5_kings_74 ?_
        refine nd_ior dX5_kings_75 ?_
        refine nd_istore_n (ls' := [(2, .int (x2 ||| ((1 : Int32) <<< (x3 &&& 31)))), (0, .ref b), (1, .int x1), (3, .int x3), (4, .int x4), (5, .int x5), (6, .int x6)]) dX5_kings_76 (by decide) rfl ?_
        refine nd_sub [1, 2, 0, 3] rfl ?_
        exact b_X5_kings_77 F _ b sh hL hs hrec4 _ _ _ _ h
    · refine nd_iload dX5_kings_33 4 rfl ?_
      refine nd_iload dX5_kings_35 6 rfl ?_
      refine nd_ishr dX5_kings_37 ?_
      refine nd_iconst dX5_kings_38 ic_1 ?_
      refine nd_iand dX5_kings_39 ?_
      refine nd_iconst dX5_kings_40 ic_1 ?_
      refine nd_icmp_neN dX5_kings_41 55 (by decide) h (fun h => ?_) (fun h => ?_)
      · exact b_X5_kings_55 F _ _ b sh hL hs hrec4 hrec27 _ _ _ _ _ _ _ h
      · refine nd_iload dX5_kings_44 5 rfl ?_
        refine nd_aload_n dX5_kings_46 0 rfl ?_
        refine nd_iload dX5_kings_47 6 rfl ?_
        obtain ⟨r1, σ2, hc3, h⟩ := nd_bind_e h
        refine nd_cvi [.int x6] [.int x5] dX5_kings_49 cl_X5_74 hs.1 ⟨Nat.le_of_ble_eq_true rfl, Nat.le_of_ble_eq_true rfl⟩ rfl (Nat.le_of_ble_eq_true rfl) hL (t_X5_below F b sh hL hs _ _ hc3) ?_
        refine nd_ior dX5_kings_52 ?_
        refine nd_istore (ls' := [(5, .int (x5 ||| r1)), (0, .ref b), (1, .int x1), (2, .int x2), (3, .int x3), (4, .int x4), (6, .int x6)]) dX5_kings_53 (by decide) rfl ?_
        refine nd_sub [1, 2, 3, 4, 5, 0, 6] rfl ?_
        exact b_X5_kings_55 F _ _ b sh hL hs hrec4 hrec27 _ _ _ _ _ _ _ h
set_option maxRecDepth 100000 in
set_option maxHeartbeats 4000000 in
theorem b_X5_kings_4 (F : Nat) (b : Nat) (sh : List nd_S) (hL : sh.length < nd_ro) (hs : is_Rules sh b) {z : Int32 × nd_Mem} (m9 : Nat) : ∀ (x1 : Int32) (x2 : Int32) (x3 : Int32) (σ : nd_Mem), f_X5_kings_4 F b m9 x1 x2 x3 σ = some z → nd_V M_X5_kings (nd_rm 2) (nd_Pi sh z) 0 0 4 [(0, .ref b), (1, .int x1), (2, .int x2), (3, .int x3)] [] sh σ := by
  induction m9 with
  | zero =>
    intro x1 x2 x3 σ h
    have h : none = some z := h
    cases h
  | succ m9 hrec4 =>
    intro x1 x2 x3 σ h
    have h : f_X5_kings_4_b F (f_X5_kings_4 F b m9) b x1 x2 x3 σ = some z := h
    unfold f_X5_kings_4_b at h
    refine nd_iload_n dX5_kings_4 3 rfl ?_
    refine nd_iload_n dX5_kings_5 1 rfl ?_
    refine nd_icmp_geN dX5_kings_6 83 (by decide) h (fun h => ?_) (fun h => ?_)
    · refine nd_iload_n dX5_kings_83 2 rfl ?_
      exact nd_iret dX5_kings_84 (Nat.zero_le _) (Nat.zero_le _) (vp_nar_int _) (by cases h; exact ⟨rfl, rfl, rfl⟩)
    · refine nd_aload_n dX5_kings_9 0 rfl ?_
      refine nd_iload_n dX5_kings_10 3 rfl ?_
      obtain ⟨r1, σ2, hc3, h⟩ := nd_bind_e h
      refine nd_cvi [.int x3] [] dX5_kings_11 cl_X5_74 hs.1 ⟨Nat.le_of_ble_eq_true rfl, Nat.le_of_ble_eq_true rfl⟩ rfl (Nat.le_of_ble_eq_true rfl) hL (t_X5_below F b sh hL hs _ _ hc3) ?_
      refine nd_istore (ls' := [(4, .int r1), (0, .ref b), (1, .int x1), (2, .int x2), (3, .int x3)]) dX5_kings_14 (by decide) rfl ?_
      refine nd_iload dX5_kings_16 0 rfl ?_
      refine nd_iconst dX5_kings_18 ic_1 ?_
      refine nd_iload_n dX5_kings_19 4 rfl ?_
      refine nd_ishl dX5_kings_20 ?_
      refine nd_ior dX5_kings_21 ?_
      refine nd_istore (ls' := [(5, .int (r1 ||| ((1 : Int32) <<< (x3 &&& 31)))), (4, .int r1), (0, .ref b), (1, .int x1), (2, .int x2), (3, .int x3)]) dX5_kings_22 (by decide) rfl ?_
      refine nd_iconst dX5_kings_24 ic_0 ?_
      refine nd_istore (ls' := [(6, .int (0 : Int32)), (5, .int (r1 ||| ((1 : Int32) <<< (x3 &&& 31)))), (4, .int r1), (0, .ref b), (1, .int x1), (2, .int x2), (3, .int x3)]) dX5_kings_25 (by decide) rfl ?_
      refine nd_sub [3, 4, 5, 6, 2, 1, 0] rfl ?_
      exact b_X5_kings_27 F _ b sh hL hs hrec4 F _ _ _ _ _ _ _ h
set_option maxRecDepth 100000 in
set_option maxHeartbeats 4000000 in
theorem t_X5_kings (F : Nat) (b : Nat) (sh : List nd_S) (hL : sh.length < nd_ro) (hs : is_Rules sh b) {z : Int32 × nd_Mem} (x1 : Int32) (σ : nd_Mem) (h : f_X5_kings F b x1 σ = some z) : nd_Fn M_X5_kings (nd_rm 2) [.ref b, .int x1] sh σ (nd_Pi sh z) := by
  refine nd_Fn.ofV (ls := [(0, .ref b), (1, .int x1)]) pl_X5_kings rfl (fun _ => Nat.le_of_ble_eq_true rfl) (fun _ => rfl) ?_
  unfold f_X5_kings at h
  refine nd_iconst dX5_kings_0 ic_0 ?_
  refine nd_istore_n (ls' := [(2, .int (0 : Int32)), (0, .ref b), (1, .int x1)]) dX5_kings_1 (by decide) rfl ?_
  refine nd_iconst dX5_kings_2 ic_0 ?_
  refine nd_istore_n (ls' := [(3, .int (0 : Int32)), (2, .int (0 : Int32)), (0, .ref b), (1, .int x1)]) dX5_kings_3 (by decide) rfl ?_
  refine nd_sub [2, 3, 1, 0] rfl ?_
  exact b_X5_kings_4 F b sh hL hs F _ _ _ _ h
def f_X5_take (F : Nat) (b o1b : Nat) (x1 : Int32) (σ : nd_Mem) : nd_Res := (if x1 = (0 : Int32) then (nd_bind (f_X4_copy F (b + 1) (b + 2) 64 (o1b + 1) (o1b + 2) 64 σ) fun r2 σ3 => (nd_bind (f_X4_copy F (b + 3) (b + 4) 400 (o1b + 3) (o1b + 4) 400 σ3) fun r5 σ6 => (some (0, σ6)))) else (if x1 = (1 : Int32) then (nd_bind (f_X4_copy F (b + 5) (b + 6) 64 (o1b + 5) (o1b + 6) 64 σ) fun r9 σ10 => (some (0, σ10))) else (if x1 = (2 : Int32) then (if (0 : Int32) < 0 ∨ (0 : Int32) < 0 ∨ (16 : Int32) < 0 ∨ 16 < ((0 : Int32)).toNatClampNeg + ((16 : Int32)).toNatClampNeg ∨ 16 < ((0 : Int32)).toNatClampNeg + ((16 : Int32)).toNatClampNeg then none else (nd_let (nd_row σ (b + 7) (va_cpy (σ (o1b + 7)) (σ (b + 7)) ((0 : Int32)).toNatClampNeg ((0 : Int32)).toNatClampNeg ((16 : Int32)).toNatClampNeg)) fun σ13 => (nd_let (nd_up σ13 b 4 (σ13 o1b 4)) fun σ14 => (some (0, σ14))))) else (nd_let (nd_up σ b 5 (σ o1b 5)) fun σ15 => (nd_let (nd_up σ15 b 6 (σ15 o1b 6)) fun σ16 => (some (0, σ16)))))))
set_option maxRecDepth 100000 in
set_option maxHeartbeats 4000000 in
theorem t_X5_take (F : Nat) (b o1b : Nat) (sh : List nd_S) (hL : sh.length < nd_ro) (hs : is_Rules sh b) (hso1 : is_Rules sh o1b) {z : Int32 × nd_Mem} (x1 : Int32) (σ : nd_Mem) (h : f_X5_take F b o1b x1 σ = some z) : nd_Fn M_X5_take (nd_rm 2) [.ref b, .int x1, .ref o1b] sh σ (nd_Pv sh z) := by
  refine nd_Fn.ofV (ls := [(0, .ref b), (1, .int x1), (2, .ref o1b)]) pl_X5_take rfl (fun _ => Nat.le_of_ble_eq_true rfl) (fun _ => rfl) ?_
  unfold f_X5_take at h
  refine nd_iload_n dX5_take_0 1 rfl ?_
  rcases nd_ite_e h with ⟨c1, h⟩ | ⟨c1, h⟩
  · refine nd_tin dX5_take_1 0 (by rw [c1] <;> decide) (by rw [c1] <;> decide) rfl 28 (by decide) ?_
    refine nd_aload_n dX5_take_28 0 rfl ?_
    refine nd_get dX5_take_29 gf_X5_14 hs.1 rfl ?_
    refine nd_aload_n dX5_take_32 2 rfl ?_
    refine nd_get dX5_take_33 gf_X5_14 hso1.1 rfl ?_
    obtain ⟨r2, σ3, hc4, h⟩ := nd_bind_e h
    refine nd_cvv [.ref (o1b + 1)] [] dX5_take_36 cl_X5_50 hs.2.1.1 ⟨Nat.le_of_ble_eq_true rfl, Nat.le_of_ble_eq_true rfl⟩ rfl (Nat.le_of_ble_eq_true rfl) hL (t_X4_copy F (b + 1) (b + 2) 64 (o1b + 1) (o1b + 2) 64 sh hL hs.2.1 hso1.2.1 _ hc4) ?_
    refine nd_aload_n dX5_take_39 0 rfl ?_
    refine nd_get dX5_take_40 gf_X5_20 hs.1 rfl ?_
    refine nd_aload_n dX5_take_43 2 rfl ?_
    refine nd_get dX5_take_44 gf_X5_20 hso1.1 rfl ?_
    obtain ⟨r5, σ6, hc7, h⟩ := nd_bind_e h
    refine nd_cvv [.ref (o1b + 3)] [] dX5_take_47 cl_X5_50 hs.2.2.1.1 ⟨Nat.le_of_ble_eq_true rfl, Nat.le_of_ble_eq_true rfl⟩ rfl (Nat.le_of_ble_eq_true rfl) hL (t_X4_copy F (b + 3) (b + 4) 400 (o1b + 3) (o1b + 4) 400 sh hL hs.2.2.1 hso1.2.2.1 _ hc7) ?_
    refine nd_goto dX5_take_50 112 (by decide) ?_
    exact nd_vret dX5_take_112 (Nat.zero_le _) (Nat.zero_le _) trivial (by cases h; exact ⟨rfl, rfl, rfl⟩)
  rcases nd_ite_e h with ⟨c8, h⟩ | ⟨c8, h⟩
  · refine nd_tin dX5_take_1 1 (by rw [c8] <;> decide) (by rw [c8] <;> decide) rfl 53 (by decide) ?_
    refine nd_aload_n dX5_take_53 0 rfl ?_
    refine nd_get dX5_take_54 gf_X5_23 hs.1 rfl ?_
    refine nd_aload_n dX5_take_57 2 rfl ?_
    refine nd_get dX5_take_58 gf_X5_23 hso1.1 rfl ?_
    obtain ⟨r9, σ10, hc11, h⟩ := nd_bind_e h
    refine nd_cvv [.ref (o1b + 5)] [] dX5_take_61 cl_X5_50 hs.2.2.2.1.1 ⟨Nat.le_of_ble_eq_true rfl, Nat.le_of_ble_eq_true rfl⟩ rfl (Nat.le_of_ble_eq_true rfl) hL (t_X4_copy F (b + 5) (b + 6) 64 (o1b + 5) (o1b + 6) 64 sh hL hs.2.2.2.1 hso1.2.2.2.1 _ hc11) ?_
    refine nd_goto dX5_take_64 112 (by decide) ?_
    exact nd_vret dX5_take_112 (Nat.zero_le _) (Nat.zero_le _) trivial (by cases h; exact ⟨rfl, rfl, rfl⟩)
  rcases nd_ite_e h with ⟨c12, h⟩ | ⟨c12, h⟩
  · refine nd_tin dX5_take_1 2 (by rw [c12] <;> decide) (by rw [c12] <;> decide) rfl 67 (by decide) ?_
    refine nd_aload_n dX5_take_67 2 rfl ?_
    refine nd_get dX5_take_68 gf_X5_26 hso1.1 rfl ?_
    refine nd_iconst dX5_take_71 ic_0 ?_
    refine nd_aload_n dX5_take_72 0 rfl ?_
    refine nd_get dX5_take_73 gf_X5_26 hs.1 rfl ?_
    refine nd_iconst dX5_take_76 ic_0 ?_
    refine nd_aload_n dX5_take_77 0 rfl ?_
    refine nd_get dX5_take_78 gf_X5_26 hs.1 rfl ?_
    refine nd_alen (v := (16 : Int32)) dX5_take_81 hs.2.2.2.2 rfl ?_
    refine nd_copyN dX5_take_82 lk_X5_54 wcp_n wcp_s wcp_i hso1.2.2.2.2 hs.2.2.2.2 ⟨by decide, by decide⟩ (Nat.le_of_ble_eq_true rfl) h (fun σ13 h => ?_)
    refine nd_aload_n dX5_take_85 0 rfl ?_
    refine nd_aload_n dX5_take_86 2 rfl ?_
    refine nd_get dX5_take_87 gf_X5_40 hso1.1 rfl ?_
    refine nd_putiN dX5_take_90 pf_X5_40 hs.1 rfl h (fun σ14 h => ?_)
    refine nd_goto dX5_take_93 112 (by decide) ?_
    exact nd_vret dX5_take_112 (Nat.zero_le _) (Nat.zero_le _) trivial (by cases h; exact ⟨rfl, rfl, rfl⟩)
  refine nd_tout dX5_take_1 (fun j h1 h2 => ?_) 96 (by decide) ?_
  · rcases (show j = 0 ∨ j = 1 ∨ j = 2 by omega) with rfl | rfl | rfl
    · exact fun e => c1 (e.trans ic_0)
    · exact fun e => c8 (e.trans ic_1)
    · exact fun e => c12 (e.trans ic_2)
  · refine nd_aload_n dX5_take_96 0 rfl ?_
    refine nd_aload_n dX5_take_97 2 rfl ?_
    refine nd_get dX5_take_98 gf_X5_44 hso1.1 rfl ?_
    refine nd_putiN dX5_take_101 pf_X5_44 hs.1 rfl h (fun σ15 h => ?_)
    refine nd_aload_n dX5_take_104 0 rfl ?_
    refine nd_aload_n dX5_take_105 2 rfl ?_
    refine nd_get dX5_take_106 gf_X5_47 hso1.1 rfl ?_
    refine nd_putiN dX5_take_109 pf_X5_47 hs.1 rfl h (fun σ16 h => ?_)
    exact nd_vret dX5_take_112 (Nat.zero_le _) (Nat.zero_le _) trivial (by cases h; exact ⟨rfl, rfl, rfl⟩)
def f_X8_copy (F : Nat) (b o0b : Nat) (σ : nd_Mem) : nd_Res := (nd_bind (f_X4_copy F (b + 1) (b + 2) 12 (o0b + 1) (o0b + 2) 12 σ) fun r1 σ2 => (nd_bind (f_X4_copy F (b + 3) (b + 4) 6 (o0b + 3) (o0b + 4) 6 σ2) fun r4 σ5 => (nd_bind (f_X4_copy F (b + 5) (b + 6) 10 (o0b + 5) (o0b + 6) 10 σ5) fun r7 σ8 => (nd_bind (f_X4_copy F (b + 7) (b + 8) 14 (o0b + 7) (o0b + 8) 14 σ8) fun r10 σ11 => (nd_bind (f_X4_copy F (b + 9) (b + 10) 10 (o0b + 9) (o0b + 10) 10 σ11) fun r13 σ14 => (if (0 : Int32) < 0 ∨ (0 : Int32) < 0 ∨ (10 : Int32) < 0 ∨ 10 < ((0 : Int32)).toNatClampNeg + ((10 : Int32)).toNatClampNeg ∨ 10 < ((0 : Int32)).toNatClampNeg + ((10 : Int32)).toNatClampNeg then none else (nd_let (nd_row σ14 (b + 11) (va_cpy (σ14 (o0b + 11)) (σ14 (b + 11)) ((0 : Int32)).toNatClampNeg ((0 : Int32)).toNatClampNeg ((10 : Int32)).toNatClampNeg)) fun σ16 => (some (0, σ16)))))))))
set_option maxRecDepth 100000 in
set_option maxHeartbeats 4000000 in
theorem t_X8_copy (F : Nat) (b o0b : Nat) (sh : List nd_S) (hL : sh.length < nd_ro) (hs : is_Told sh b) (hso0 : is_Told sh o0b) {z : Int32 × nd_Mem} (σ : nd_Mem) (h : f_X8_copy F b o0b σ = some z) : nd_Fn M_X8_copy (nd_rm 2) [.ref b, .ref o0b] sh σ (nd_Pv sh z) := by
  refine nd_Fn.ofV (ls := [(0, .ref b), (1, .ref o0b)]) pl_X8_copy rfl (fun _ => Nat.le_of_ble_eq_true rfl) (fun _ => rfl) ?_
  unfold f_X8_copy at h
  refine nd_aload_n dX8_copy_0 0 rfl ?_
  refine nd_get dX8_copy_1 gf_X8_14 hs.1 rfl ?_
  refine nd_aload_n dX8_copy_4 1 rfl ?_
  refine nd_get dX8_copy_5 gf_X8_14 hso0.1 rfl ?_
  obtain ⟨r1, σ2, hc3, h⟩ := nd_bind_e h
  refine nd_cvv [.ref (o0b + 1)] [] dX8_copy_8 cl_X8_42 hs.2.1.1 ⟨Nat.le_of_ble_eq_true rfl, Nat.le_of_ble_eq_true rfl⟩ rfl (Nat.le_of_ble_eq_true rfl) hL (t_X4_copy F (b + 1) (b + 2) 12 (o0b + 1) (o0b + 2) 12 sh hL hs.2.1 hso0.2.1 _ hc3) ?_
  refine nd_aload_n dX8_copy_11 0 rfl ?_
  refine nd_get dX8_copy_12 gf_X8_20 hs.1 rfl ?_
  refine nd_aload_n dX8_copy_15 1 rfl ?_
  refine nd_get dX8_copy_16 gf_X8_20 hso0.1 rfl ?_
  obtain ⟨r4, σ5, hc6, h⟩ := nd_bind_e h
  refine nd_cvv [.ref (o0b + 3)] [] dX8_copy_19 cl_X8_42 hs.2.2.1.1 ⟨Nat.le_of_ble_eq_true rfl, Nat.le_of_ble_eq_true rfl⟩ rfl (Nat.le_of_ble_eq_true rfl) hL (t_X4_copy F (b + 3) (b + 4) 6 (o0b + 3) (o0b + 4) 6 sh hL hs.2.2.1 hso0.2.2.1 _ hc6) ?_
  refine nd_aload_n dX8_copy_22 0 rfl ?_
  refine nd_get dX8_copy_23 gf_X8_23 hs.1 rfl ?_
  refine nd_aload_n dX8_copy_26 1 rfl ?_
  refine nd_get dX8_copy_27 gf_X8_23 hso0.1 rfl ?_
  obtain ⟨r7, σ8, hc9, h⟩ := nd_bind_e h
  refine nd_cvv [.ref (o0b + 5)] [] dX8_copy_30 cl_X8_42 hs.2.2.2.1.1 ⟨Nat.le_of_ble_eq_true rfl, Nat.le_of_ble_eq_true rfl⟩ rfl (Nat.le_of_ble_eq_true rfl) hL (t_X4_copy F (b + 5) (b + 6) 10 (o0b + 5) (o0b + 6) 10 sh hL hs.2.2.2.1 hso0.2.2.2.1 _ hc9) ?_
  refine nd_aload_n dX8_copy_33 0 rfl ?_
  refine nd_get dX8_copy_34 gf_X8_26 hs.1 rfl ?_
  refine nd_aload_n dX8_copy_37 1 rfl ?_
  refine nd_get dX8_copy_38 gf_X8_26 hso0.1 rfl ?_
  obtain ⟨r10, σ11, hc12, h⟩ := nd_bind_e h
  refine nd_cvv [.ref (o0b + 7)] [] dX8_copy_41 cl_X8_42 hs.2.2.2.2.1.1 ⟨Nat.le_of_ble_eq_true rfl, Nat.le_of_ble_eq_true rfl⟩ rfl (Nat.le_of_ble_eq_true rfl) hL (t_X4_copy F (b + 7) (b + 8) 14 (o0b + 7) (o0b + 8) 14 sh hL hs.2.2.2.2.1 hso0.2.2.2.2.1 _ hc12) ?_
  refine nd_aload_n dX8_copy_44 0 rfl ?_
  refine nd_get dX8_copy_45 gf_X8_29 hs.1 rfl ?_
  refine nd_aload_n dX8_copy_48 1 rfl ?_
  refine nd_get dX8_copy_49 gf_X8_29 hso0.1 rfl ?_
  obtain ⟨r13, σ14, hc15, h⟩ := nd_bind_e h
  refine nd_cvv [.ref (o0b + 9)] [] dX8_copy_52 cl_X8_42 hs.2.2.2.2.2.1.1 ⟨Nat.le_of_ble_eq_true rfl, Nat.le_of_ble_eq_true rfl⟩ rfl (Nat.le_of_ble_eq_true rfl) hL (t_X4_copy F (b + 9) (b + 10) 10 (o0b + 9) (o0b + 10) 10 sh hL hs.2.2.2.2.2.1 hso0.2.2.2.2.2.1 _ hc15) ?_
  refine nd_aload_n dX8_copy_55 1 rfl ?_
  refine nd_get dX8_copy_56 gf_X8_32 hso0.1 rfl ?_
  refine nd_iconst dX8_copy_59 ic_0 ?_
  refine nd_aload_n dX8_copy_60 0 rfl ?_
  refine nd_get dX8_copy_61 gf_X8_32 hs.1 rfl ?_
  refine nd_iconst dX8_copy_64 ic_0 ?_
  refine nd_bipush dX8_copy_65 ib_10 ?_
  refine nd_copyN dX8_copy_67 lk_X8_46 wcp_n wcp_s wcp_i hso0.2.2.2.2.2.2 hs.2.2.2.2.2.2 ⟨by decide, by decide⟩ (Nat.le_of_ble_eq_true rfl) h (fun σ16 h => ?_)
  exact nd_vret dX8_copy_70 (Nat.zero_le _) (Nat.zero_le _) trivial (by cases h; exact ⟨rfl, rfl, rfl⟩)
def f_X5_copy_2_b (F : Nat) (rec2 : Int32 → nd_Mem → nd_Res) (b o0b : Nat) (x2 : Int32) (σ : nd_Mem) : nd_Res := (if (3 : Int32) < x2 then (some (0, σ)) else (nd_bind (f_X5_take F b o0b x2 σ) fun r1 σ2 => (rec2 (x2 + (1 : Int32)) σ2)))
def f_X5_copy_2 (F : Nat) (b o0b : Nat) : Nat → Int32 → nd_Mem → nd_Res
  | 0, _, _ => none
  | m9 + 1, x2, σ => f_X5_copy_2_b F (f_X5_copy_2 F b o0b m9) b o0b x2 σ
def f_X5_copy (F : Nat) (b o0b : Nat) (σ : nd_Mem) : nd_Res := (f_X5_copy_2 F b o0b F (0 : Int32) σ)
set_option maxRecDepth 100000 in
set_option maxHeartbeats 4000000 in
theorem b_X5_copy_2 (F : Nat) (b o0b : Nat) (sh : List nd_S) (hL : sh.length < nd_ro) (hs : is_Rules sh b) (hso0 : is_Rules sh o0b) {z : Int32 × nd_Mem} (m9 : Nat) : ∀ (x2 : Int32) (σ : nd_Mem), f_X5_copy_2 F b o0b m9 x2 σ = some z → nd_V M_X5_copy (nd_rm 3) (nd_Pv sh z) 0 0 2 [(0, .ref b), (1, .ref o0b), (2, .int x2)] [] sh σ := by
  induction m9 with
  | zero =>
    intro x2 σ h
    have h : none = some z := h
    cases h
  | succ m9 hrec2 =>
    intro x2 σ h
    have h : f_X5_copy_2_b F (f_X5_copy_2 F b o0b m9) b o0b x2 σ = some z := h
    unfold f_X5_copy_2_b at h
    refine nd_iload_n dX5_copy_2 2 rfl ?_
    refine nd_iconst dX5_copy_3 ic_3 ?_
    refine nd_icmp_gtN dX5_copy_4 19 (by decide) h (fun h => ?_) (fun h => ?_)
    · exact nd_vret dX5_copy_19 (Nat.zero_le _) (Nat.zero_le _) trivial (by cases h; exact ⟨rfl, rfl, rfl⟩)
    · refine nd_aload_n dX5_copy_7 0 rfl ?_
      refine nd_iload_n dX5_copy_8 2 rfl ?_
      refine nd_aload_n dX5_copy_9 1 rfl ?_
      obtain ⟨r1, σ2, hc3, h⟩ := nd_bind_e h
      refine nd_cvv [.int x2, .ref o0b] [] dX5_copy_10 cl_X5_60 hs.1 ⟨Nat.le_of_ble_eq_true rfl, Nat.le_of_ble_eq_true rfl⟩ rfl (Nat.le_of_ble_eq_true rfl) hL (t_X5_take F b o0b sh hL hs hso0 _ _ hc3) ?_
      refine nd_iinc (v := (x2 + (1 : Int32))) (ls' := [(2, .int (x2 + (1 : Int32))), (0, .ref b), (1, .ref o0b)]) dX5_copy_13 2 rfl (congrArg (HAdd.hAdd _) ic_1) (by decide) rfl ?_
      refine nd_goto dX5_copy_16 2 (by decide) ?_
      refine nd_sub [1, 2, 0] rfl ?_
      exact hrec2 _ _ h
set_option maxRecDepth 100000 in
set_option maxHeartbeats 4000000 in
theorem t_X5_copy (F : Nat) (b o0b : Nat) (sh : List nd_S) (hL : sh.length < nd_ro) (hs : is_Rules sh b) (hso0 : is_Rules sh o0b) {z : Int32 × nd_Mem} (σ : nd_Mem) (h : f_X5_copy F b o0b σ = some z) : nd_Fn M_X5_copy (nd_rm 3) [.ref b, .ref o0b] sh σ (nd_Pv sh z) := by
  refine nd_Fn.ofV (ls := [(0, .ref b), (1, .ref o0b)]) pl_X5_copy rfl (fun _ => Nat.le_of_ble_eq_true rfl) (fun _ => rfl) ?_
  unfold f_X5_copy at h
  refine nd_iconst dX5_copy_0 ic_0 ?_
  refine nd_istore_n (ls' := [(2, .int (0 : Int32)), (0, .ref b), (1, .ref o0b)]) dX5_copy_1 (by decide) rfl ?_
  refine nd_sub [1, 2, 0] rfl ?_
  exact b_X5_copy_2 F b o0b sh hL hs hso0 F _ _ h
