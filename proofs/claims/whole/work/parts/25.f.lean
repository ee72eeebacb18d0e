def f_X10_book_24 (F : Nat) (σ : nd_Mem) : nd_Res := (some ((-1 : Int32), σ))
def f_X10_book (F : Nat) (x1 : Int32) (x2 : Int32) (σ : nd_Mem) : nd_Res := (if x1 < 0 then (f_X10_book_24 F σ) else (if (σ 1 8) ≤ x1 then (f_X10_book_24 F σ) else (if x2 < 0 then (f_X10_book_24 F σ) else (if x2 < (4 : Int32) then (if ((x1 * (4 : Int32)) + x2) < 0 ∨ 600 ≤ (((x1 * (4 : Int32)) + x2)).toNatClampNeg then none else (some ((σ 11 (((x1 * (4 : Int32)) + x2)).toNatClampNeg), σ))) else (f_X10_book_24 F σ)))))
set_option maxRecDepth 100000 in
set_option maxHeartbeats 4000000 in
theorem b_X10_book_24 (F : Nat) (t : List nd_S) (hL : (nd_SH ++ t).length < nd_ro) {z : Int32 × nd_Mem} (σ : nd_Mem) (h : f_X10_book_24 F σ = some z) : nd_V M_X10_book (nd_rm 0) (nd_Pi (nd_SH ++ t) z) 0 0 24 [(0, .ref 0)] [] (nd_SH ++ t) σ := by
  unfold f_X10_book_24 at h
  refine nd_iconst dX10_book_24 ic_m1 ?_
  exact nd_iret dX10_book_25 (Nat.zero_le _) (Nat.zero_le _) (vp_nar_int _) (by cases h; exact ⟨rfl, rfl, rfl⟩)
set_option maxRecDepth 100000 in
set_option maxHeartbeats 4000000 in
theorem t_X10_book (F : Nat) (t : List nd_S) (hL : (nd_SH ++ t).length < nd_ro) {z : Int32 × nd_Mem} (x1 : Int32) (x2 : Int32) (σ : nd_Mem) (h : f_X10_book F x1 x2 σ = some z) : nd_Fn M_X10_book (nd_rm 0) [.ref 0, .int x1, .int x2] (nd_SH ++ t) σ (nd_Pi (nd_SH ++ t) z) := by
  refine nd_Fn.ofV (ls := [(0, .ref 0), (1, .int x1), (2, .int x2)]) pl_X10_book rfl (fun _ => Nat.le_of_ble_eq_true rfl) (fun _ => rfl) ?_
  unfold f_X10_book at h
  refine nd_iload_n dX10_book_0 1 rfl ?_
  refine nd_if_ltN dX10_book_1 24 (by decide) h (fun h => ?_) (fun h => ?_)
  · refine nd_sub [0] rfl ?_
    exact b_X10_book_24 F t hL _ h
  · refine nd_iload_n dX10_book_4 1 rfl ?_
    refine nd_aload_n dX10_book_5 0 rfl ?_
    refine nd_get dX10_book_6 gf_X10_10 (sh_0 t) rfl ?_
    refine nd_get dX10_book_9 gf_X10_163 (sh_1 t) rfl ?_
    refine nd_icmp_geN dX10_book_12 24 (by decide) h (fun h => ?_) (fun h => ?_)
    · refine nd_sub [0] rfl ?_
      exact b_X10_book_24 F t hL _ h
    · refine nd_iload_n dX10_book_15 2 rfl ?_
      refine nd_if_ltN dX10_book_16 24 (by decide) h (fun h => ?_) (fun h => ?_)
      · refine nd_sub [0] rfl ?_
        exact b_X10_book_24 F t hL _ h
      · refine nd_iload_n dX10_book_19 2 rfl ?_
        refine nd_iconst dX10_book_20 ic_4 ?_
        refine nd_icmp_ltN dX10_book_21 26 (by decide) h (fun h => ?_) (fun h => ?_)
        · refine nd_aload_n dX10_book_26 0 rfl ?_
          refine nd_get dX10_book_27 gf_X10_23 (sh_0 t) rfl ?_
          refine nd_iload_n dX10_book_30 1 rfl ?_
          refine nd_iconst dX10_book_31 ic_4 ?_
          refine nd_imul dX10_book_32 ?_
          refine nd_iload_n dX10_book_33 2 rfl ?_
          refine nd_iadd dX10_book_34 ?_
          refine nd_ialoadN dX10_book_35 (sh_11 t) h (fun h => ?_)
          exact nd_iret dX10_book_36 (Nat.zero_le _) (Nat.zero_le _) (vp_nar_int _) (by cases h; exact ⟨rfl, rfl, rfl⟩)
        · refine nd_sub [0] rfl ?_
          exact b_X10_book_24 F t hL _ h
def f_X10_fault (F : Nat) (x1 : Int32) (σ : nd_Mem) : nd_Res := (if x1 = (0 : Int32) then (some ((σ 38 3), σ)) else (if x1 = (1 : Int32) then (some ((σ 38 4), σ)) else (some ((-1 : Int32), σ))))
set_option maxRecDepth 100000 in
set_option maxHeartbeats 4000000 in
theorem t_X10_fault (F : Nat) (t : List nd_S) (hL : (nd_SH ++ t).length < nd_ro) {z : Int32 × nd_Mem} (x1 : Int32) (σ : nd_Mem) (h : f_X10_fault F x1 σ = some z) : nd_Fn M_X10_fault (nd_rm 0) [.ref 0, .int x1] (nd_SH ++ t) σ (nd_Pi (nd_SH ++ t) z) := by
  refine nd_Fn.ofV (ls := [(0, .ref 0), (1, .int x1)]) pl_X10_fault rfl (fun _ => Nat.le_of_ble_eq_true rfl) (fun _ => rfl) ?_
  unfold f_X10_fault at h
  refine nd_iload_n dX10_fault_0 1 rfl ?_
  rcases nd_ite_e h with ⟨c1, h⟩ | ⟨c1, h⟩
  · refine nd_look dX10_fault_1 (by decide) (by rw [c1] <;> decide) 28 (by decide) ?_
    refine nd_aload_n dX10_fault_28 0 rfl ?_
    refine nd_get dX10_fault_29 gf_X10_44 (sh_0 t) rfl ?_
    refine nd_get dX10_fault_32 gf_X10_142 (sh_38 t) rfl ?_
    exact nd_iret dX10_fault_35 (Nat.zero_le _) (Nat.zero_le _) (vp_nar_int _) (by cases h; exact ⟨rfl, rfl, rfl⟩)
  rcases nd_ite_e h with ⟨c2, h⟩ | ⟨c2, h⟩
  · refine nd_look dX10_fault_1 (by decide) (by rw [c2] <;> decide) 36 (by decide) ?_
    refine nd_aload_n dX10_fault_36 0 rfl ?_
    refine nd_get dX10_fault_37 gf_X10_44 (sh_0 t) rfl ?_
    refine nd_get dX10_fault_40 gf_X10_145 (sh_38 t) rfl ?_
    exact nd_iret dX10_fault_43 (Nat.zero_le _) (Nat.zero_le _) (vp_nar_int _) (by cases h; exact ⟨rfl, rfl, rfl⟩)
  refine nd_look dX10_fault_1 (by decide) (nd_lookD _ ?_) 44 (by decide) ?_
  · intro q hq
    simp only [List.mem_cons, List.not_mem_nil, or_false] at hq
    rcases hq with rfl | rfl
    · exact fun e => c1 (e.trans ic_0)
    · exact fun e => c2 (e.trans ic_1)
  · refine nd_iconst dX10_fault_44 ic_m1 ?_
    exact nd_iret dX10_fault_45 (Nat.zero_le _) (Nat.zero_le _) (vp_nar_int _) (by cases h; exact ⟨rfl, rfl, rfl⟩)
def f_X10_moved_47 (F : Nat) (x3 : Int32) (σ : nd_Mem) : nd_Res := (if ¬ (x3 = 0 ∨ x3 = 1) then none else (some (x3, σ)))
def f_X10_moved_32 (F : Nat) (x1 : Int32) (x2 : Int32) (s0 : Int32) (σ : nd_Mem) : nd_Res := (if s0 = 0 then (f_X10_moved_47 F s0 σ) else (if x1 < 0 ∨ 10 ≤ (x1).toNatClampNeg then none else (nd_let (nd_up σ 23 (x1).toNatClampNeg x2) fun σ1 => (f_X10_moved_47 F s0 σ1))))
def f_X10_moved_31 (F : Nat) (x1 : Int32) (x2 : Int32) (σ : nd_Mem) : nd_Res := (f_X10_moved_32 F x1 x2 (0 : Int32) σ)
def f_X10_moved (F : Nat) (x1 : Int32) (x2 : Int32) (σ : nd_Mem) : nd_Res := (if x1 < 0 then (f_X10_moved_31 F x1 x2 σ) else (if (9 : Int32) < x1 then (f_X10_moved_31 F x1 x2 σ) else (if x2 < (-2 : Int32) then (f_X10_moved_31 F x1 x2 σ) else (if (9 : Int32) < x2 then (f_X10_moved_31 F x1 x2 σ) else (if x1 = x2 then (f_X10_moved_31 F x1 x2 σ) else (f_X10_moved_32 F x1 x2 (1 : Int32) σ))))))
set_option maxRecDepth 100000 in
set_option maxHeartbeats 4000000 in
theorem b_X10_moved_47 (F : Nat) (t : List nd_S) (hL : (nd_SH ++ t).length < nd_ro) {z : Int32 × nd_Mem} (x3 : Int32) (σ : nd_Mem) (h : f_X10_moved_47 F x3 σ = some z) : nd_V M_X10_moved (nd_rm 0) (nd_Pi (nd_SH ++ t) z) 0 0 47 [(0, .ref 0), (3, .int x3)] [] (nd_SH ++ t) σ := by
  unfold f_X10_moved_47 at h
  refine nd_iload_n dX10_moved_47 1 rfl ?_
  have hz1 := nd_no_e h
  have h := hz1.2
  exact nd_iret dX10_moved_48 (Nat.zero_le _) (Nat.zero_le _) (nd_zok rfl (Classical.not_not.mp hz1.1)) (by cases h; exact ⟨rfl, rfl, rfl⟩)
set_option maxRecDepth 100000 in
set_option maxHeartbeats 4000000 in
theorem b_X10_moved_32 (F : Nat) (t : List nd_S) (hL : (nd_SH ++ t).length < nd_ro) {z : Int32 × nd_Mem} (x1 : Int32) (x2 : Int32) (s0 : Int32) (σ : nd_Mem) (h : f_X10_moved_32 F x1 x2 s0 σ = some z) : nd_V M_X10_moved (nd_rm 0) (nd_Pi (nd_SH ++ t) z) 0 0 32 [(0, .ref 0), (1, .int x1), (2, .int x2)] [.int s0] (nd_SH ++ t) σ := by
  unfold f_X10_moved_32 at h
  refine nd_istore_n (ls' := [(3, .int s0), (0, .ref 0), (1, .int x1), (2, .int x2)]) dX10_moved_32 (by decide) rfl ?_
  refine nd_iload_n dX10_moved_33 0 rfl ?_
  refine nd_if_eqN dX10_moved_34 47 (by decide) h (fun h => ?_) (fun h => ?_)
  · refine nd_sub [1, 0] rfl ?_
    exact b_X10_moved_47 F t hL _ _ h
  · refine nd_aload_n dX10_moved_37 1 rfl ?_
    refine nd_get dX10_moved_38 gf_X10_30 (sh_0 t) rfl ?_
    refine nd_get dX10_moved_41 gf_X10_277 (sh_12 t) rfl ?_
    refine nd_iload_n dX10_moved_44 2 rfl ?_
    refine nd_iload_n dX10_moved_45 3 rfl ?_
    refine nd_iastoreN dX10_moved_46 (sh_23 t) h (fun σ1 h => ?_)
    refine nd_sub [1, 0] rfl ?_
    exact b_X10_moved_47 F t hL _ _ h
set_option maxRecDepth 100000 in
set_option maxHeartbeats 4000000 in
theorem b_X10_moved_31 (F : Nat) (t : List nd_S) (hL : (nd_SH ++ t).length < nd_ro) {z : Int32 × nd_Mem} (x1 : Int32) (x2 : Int32) (σ : nd_Mem) (h : f_X10_moved_31 F x1 x2 σ = some z) : nd_V M_X10_moved (nd_rm 0) (nd_Pi (nd_SH ++ t) z) 0 0 31 [(0, .ref 0), (1, .int x1), (2, .int x2)] [] (nd_SH ++ t) σ := by
  unfold f_X10_moved_31 at h
  refine nd_iconst dX10_moved_31 ic_0 ?_
  exact b_X10_moved_32 F t hL _ _ _ _ h
set_option maxRecDepth 100000 in
set_option maxHeartbeats 4000000 in
theorem t_X10_moved (F : Nat) (t : List nd_S) (hL : (nd_SH ++ t).length < nd_ro) {z : Int32 × nd_Mem} (x1 : Int32) (x2 : Int32) (σ : nd_Mem) (h : f_X10_moved F x1 x2 σ = some z) : nd_Fn M_X10_moved (nd_rm 0) [.ref 0, .int x1, .int x2] (nd_SH ++ t) σ (nd_Pi (nd_SH ++ t) z) := by
  refine nd_Fn.ofV (ls := [(0, .ref 0), (1, .int x1), (2, .int x2)]) pl_X10_moved rfl (fun _ => Nat.le_of_ble_eq_true rfl) (fun _ => rfl) ?_
  unfold f_X10_moved at h
  refine nd_iload_n dX10_moved_0 1 rfl ?_
  refine nd_if_ltN dX10_moved_1 31 (by decide) h (fun h => ?_) (fun h => ?_)
  · exact b_X10_moved_31 F t hL _ _ _ h
  · refine nd_iload_n dX10_moved_4 1 rfl ?_
    refine nd_bipush dX10_moved_5 ib_9 ?_
    refine nd_icmp_gtN dX10_moved_7 31 (by decide) h (fun h => ?_) (fun h => ?_)
    · exact b_X10_moved_31 F t hL _ _ _ h
    · refine nd_iload_n dX10_moved_10 2 rfl ?_
      refine nd_bipush dX10_moved_11 ib_m2 ?_
      refine nd_icmp_ltN dX10_moved_13 31 (by decide) h (fun h => ?_) (fun h => ?_)
      · exact b_X10_moved_31 F t hL _ _ _ h
      · refine nd_iload_n dX10_moved_16 2 rfl ?_
        refine nd_bipush dX10_moved_17 ib_9 ?_
        refine nd_icmp_gtN dX10_moved_19 31 (by decide) h (fun h => ?_) (fun h => ?_)
        · exact b_X10_moved_31 F t hL _ _ _ h
        · refine nd_iload_n dX10_moved_22 1 rfl ?_
          refine nd_iload_n dX10_moved_23 2 rfl ?_
          refine nd_icmp_eqN dX10_moved_24 31 (by decide) h (fun h => ?_) (fun h => ?_)
          · exact b_X10_moved_31 F t hL _ _ _ h
          · refine nd_iconst dX10_moved_27 ic_1 ?_
            refine nd_goto dX10_moved_28 32 (by decide) ?_
            exact b_X10_moved_32 F t hL _ _ _ _ h
def f_X10_bought_46 (F : Nat) (x1 : Int32) (x2 : Int32) (s0 : Int32) (σ : nd_Mem) : nd_Res := (if s0 = 0 then (some ((-1 : Int32), σ)) else (nd_bind (f_X4_add F 15 16 6 ((x1 * (16 : Int32)) + x2) σ) fun r1 σ2 => (some (r1, σ2))))
def f_X10_bought_45 (F : Nat) (x1 : Int32) (x2 : Int32) (σ : nd_Mem) : nd_Res := (f_X10_bought_46 F x1 x2 (0 : Int32) σ)
def f_X10_bought (F : Nat) (x1 : Int32) (x2 : Int32) (σ : nd_Mem) : nd_Res := (if x1 = (-1 : Int32) then (nd_bind (f_X4_clear F 15 16 6 σ) fun r1 σ2 => (some (r1, σ2))) else (if x1 < 0 then (f_X10_bought_45 F x1 x2 σ) else (if (8 : Int32) < x1 then (f_X10_bought_45 F x1 x2 σ) else (if x2 < 0 then (f_X10_bought_45 F x1 x2 σ) else (if (8 : Int32) < x2 then (f_X10_bought_45 F x1 x2 σ) else (if x1 = x2 then (f_X10_bought_45 F x1 x2 σ) else (f_X10_bought_46 F x1 x2 (1 : Int32) σ)))))))
set_option maxRecDepth 100000 in
set_option maxHeartbeats 4000000 in
theorem b_X10_bought_46 (F : Nat) (t : List nd_S) (hL : (nd_SH ++ t).length < nd_ro) {z : Int32 × nd_Mem} (x1 : Int32) (x2 : Int32) (s0 : Int32) (σ : nd_Mem) (h : f_X10_bought_46 F x1 x2 s0 σ = some z) : nd_V M_X10_bought (nd_rm 1) (nd_Pi (nd_SH ++ t) z) 0 0 46 [(0, .ref 0), (1, .int x1), (2, .int x2)] [.int s0] (nd_SH ++ t) σ := by
  unfold f_X10_bought_46 at h
  refine nd_istore_n (ls' := [(3, .int s0), (0, .ref 0), (1, .int x1), (2, .int x2)]) dX10_bought_46 (by decide) rfl ?_
  refine nd_iload_n dX10_bought_47 0 rfl ?_
  refine nd_if_eqN dX10_bought_48 70 (by decide) h (fun h => ?_) (fun h => ?_)
  · refine nd_iconst dX10_bought_70 ic_m1 ?_
    exact nd_iret dX10_bought_71 (Nat.zero_le _) (Nat.zero_le _) (vp_nar_int _) (by cases h; exact ⟨rfl, rfl, rfl⟩)
  · refine nd_aload_n dX10_bought_51 1 rfl ?_
    refine nd_get dX10_bought_52 gf_X10_30 (sh_0 t) rfl ?_
    refine nd_get dX10_bought_55 gf_X10_219 (sh_12 t) rfl ?_
    refine nd_iload_n dX10_bought_58 2 rfl ?_
    refine nd_bipush dX10_bought_59 ib_16 ?_
    refine nd_imul dX10_bought_61 ?_
    refine nd_iload_n dX10_bought_62 3 rfl ?_
    refine nd_iadd dX10_bought_63 ?_
    obtain ⟨r1, σ2, hc3, h⟩ := nd_bind_e h
    refine nd_cvi [.int ((x1 * (16 : Int32)) + x2)] [] dX10_bought_64 cl_X10_225 (sh_15 t) ⟨Nat.le_of_ble_eq_true rfl, Nat.le_of_ble_eq_true rfl⟩ rfl (Nat.le_of_ble_eq_true rfl) hL (t_X4_add F 15 16 6 (nd_SH ++ t) hL (is_Row_15 t) _ _ hc3) ?_
    refine nd_goto dX10_bought_67 71 (by decide) ?_
    exact nd_iret dX10_bought_71 (Nat.zero_le _) (Nat.zero_le _) (vp_nar_int _) (by cases h; exact ⟨rfl, rfl, rfl⟩)
set_option maxRecDepth 100000 in
set_option maxHeartbeats 4000000 in
theorem b_X10_bought_45 (F : Nat) (t : List nd_S) (hL : (nd_SH ++ t).length < nd_ro) {z : Int32 × nd_Mem} (x1 : Int32) (x2 : Int32) (σ : nd_Mem) (h : f_X10_bought_45 F x1 x2 σ = some z) : nd_V M_X10_bought (nd_rm 1) (nd_Pi (nd_SH ++ t) z) 0 0 45 [(0, .ref 0), (1, .int x1), (2, .int x2)] [] (nd_SH ++ t) σ := by
  unfold f_X10_bought_45 at h
  refine nd_iconst dX10_bought_45 ic_0 ?_
  exact b_X10_bought_46 F t hL _ _ _ _ h
set_option maxRecDepth 100000 in
set_option maxHeartbeats 4000000 in
theorem t_X10_bought (F : Nat) (t : List nd_S) (hL : (nd_SH ++ t).length < nd_ro) {z : Int32 × nd_Mem} (x1 : Int32) (x2 : Int32) (σ : nd_Mem) (h : f_X10_bought F x1 x2 σ = some z) : nd_Fn M_X10_bought (nd_rm 1) [.ref 0, .int x1, .int x2] (nd_SH ++ t) σ (nd_Pi (nd_SH ++ t) z) := by
  refine nd_Fn.ofV (ls := [(0, .ref 0), (1, .int x1), (2, .int x2)]) pl_X10_bought rfl (fun _ => Nat.le_of_ble_eq_true rfl) (fun _ => rfl) ?_
  unfold f_X10_bought at h
  refine nd_iload_n dX10_bought_0 1 rfl ?_
  refine nd_iconst dX10_bought_1 ic_m1 ?_
  refine nd_icmp_neN dX10_bought_2 16 (by decide) h (fun h => ?_) (fun h => ?_)
  · refine nd_iload_n dX10_bought_16 1 rfl ?_
    refine nd_if_ltN dX10_bought_17 45 (by decide) h (fun h => ?_) (fun h => ?_)
    · exact b_X10_bought_45 F t hL _ _ _ h
    · refine nd_iload_n dX10_bought_20 1 rfl ?_
      refine nd_bipush dX10_bought_21 ib_8 ?_
      refine nd_icmp_gtN dX10_bought_23 45 (by decide) h (fun h => ?_) (fun h => ?_)
      · exact b_X10_bought_45 F t hL _ _ _ h
      · refine nd_iload_n dX10_bought_26 2 rfl ?_
        refine nd_if_ltN dX10_bought_27 45 (by decide) h (fun h => ?_) (fun h => ?_)
        · exact b_X10_bought_45 F t hL _ _ _ h
        · refine nd_iload_n dX10_bought_30 2 rfl ?_
          refine nd_bipush dX10_bought_31 ib_8 ?_
          refine nd_icmp_gtN dX10_bought_33 45 (by decide) h (fun h => ?_) (fun h => ?_)
          · exact b_X10_bought_45 F t hL _ _ _ h
          · refine nd_iload_n dX10_bought_36 1 rfl ?_
            refine nd_iload_n dX10_bought_37 2 rfl ?_
            refine nd_icmp_eqN dX10_bought_38 45 (by decide) h (fun h => ?_) (fun h => ?_)
            · exact b_X10_bought_45 F t hL _ _ _ h
            · refine nd_iconst dX10_bought_41 ic_1 ?_
              refine nd_goto dX10_bought_42 46 (by decide) ?_
              exact b_X10_bought_46 F t hL _ _ _ _ h
  · refine nd_aload_n dX10_bought_5 0 rfl ?_
    refine nd_get dX10_bought_6 gf_X10_30 (sh_0 t) rfl ?_
    refine nd_get dX10_bought_9 gf_X10_219 (sh_12 t) rfl ?_
    obtain ⟨r1, σ2, hc3, h⟩ := nd_bind_e h
    refine nd_cvi [] [] dX10_bought_12 cl_X10_222 (sh_15 t) ⟨Nat.le_of_ble_eq_true rfl, Nat.le_of_ble_eq_true rfl⟩ rfl (Nat.le_of_ble_eq_true rfl) hL (t_X4_clear F 15 16 6 (nd_SH ++ t) hL (is_Row_15 t) _ hc3) ?_
    exact nd_iret dX10_bought_15 (Nat.zero_le _) (Nat.zero_le _) (vp_nar_int _) (by cases h; exact ⟨rfl, rfl, rfl⟩)
def f_X10_end (F : Nat) (x1 : Int32) (σ : nd_Mem) : nd_Res := (nd_bind (f_X3_cut F x1 σ) fun r1 σ2 => (if ¬ (r1 = 0 ∨ r1 = 1) then none else (some (r1, σ2))))
set_option maxRecDepth 100000 in
set_option maxHeartbeats 4000000 in
theorem t_X10_end (F : Nat) (t : List nd_S) (hL : (nd_SH ++ t).length < nd_ro) {z : Int32 × nd_Mem} (x1 : Int32) (σ : nd_Mem) (h : f_X10_end F x1 σ = some z) : nd_Fn M_X10_end (nd_rm 1) [.ref 0, .int x1] (nd_SH ++ t) σ (nd_Pi (nd_SH ++ t) z) := by
  refine nd_Fn.ofV (ls := [(0, .ref 0), (1, .int x1)]) pl_X10_end rfl (fun _ => Nat.le_of_ble_eq_true rfl) (fun _ => rfl) ?_
  unfold f_X10_end at h
  refine nd_aload_n dX10_end_0 0 rfl ?_
  refine nd_get dX10_end_1 gf_X10_44 (sh_0 t) rfl ?_
  refine nd_iload_n dX10_end_4 1 rfl ?_
  obtain ⟨r1, σ2, hc3, h⟩ := nd_bind_e h
  refine nd_cvi [.int x1] [] dX10_end_5 cl_X10_126 (sh_38 t) ⟨Nat.le_of_ble_eq_true rfl, Nat.le_of_ble_eq_true rfl⟩ rfl (Nat.le_of_ble_eq_true rfl) hL (t_X3_cut F t hL _ _ hc3) ?_
  have hz4 := nd_no_e h
  have h := hz4.2
  exact nd_iret dX10_end_8 (Nat.zero_le _) (Nat.zero_le _) (nd_zok rfl (Classical.not_not.mp hz4.1)) (by cases h; exact ⟨rfl, rfl, rfl⟩)
def f_X10_feed (F : Nat) (x1 : Int32) (x2 : Int32) (x3 : Int32) (x4 : Int32) (x5 : Int32) (σ : nd_Mem) : nd_Res := (nd_bind (f_X3_hasRoom F (20 : Int32) σ) fun r1 σ2 => (if r1 = 0 then (some ((-1 : Int32), σ2)) else (nd_bind (f_X3_take F x1 σ2) fun r4 σ5 => (nd_bind (f_X3_take F x2 σ5) fun r7 σ8 => (nd_bind (f_X3_take F x3 σ8) fun r10 σ11 => (nd_bind (f_X3_take F x4 σ11) fun r13 σ14 => (nd_bind (f_X3_take F x5 σ14) fun r16 σ17 => (some (r16, σ17)))))))))
set_option maxRecDepth 100000 in
set_option maxHeartbeats 4000000 in
theorem t_X10_feed (F : Nat) (t : List nd_S) (hL : (nd_SH ++ t).length < nd_ro) {z : Int32 × nd_Mem} (x1 : Int32) (x2 : Int32) (x3 : Int32) (x4 : Int32) (x5 : Int32) (σ : nd_Mem) (h : f_X10_feed F x1 x2 x3 x4 x5 σ = some z) : nd_Fn M_X10_feed (nd_rm 1) [.ref 0, .int x1, .int x2, .int x3, .int x4, .int x5] (nd_SH ++ t) σ (nd_Pi (nd_SH ++ t) z) := by
  refine nd_Fn.ofV (ls := [(0, .ref 0), (1, .int x1), (2, .int x2), (3, .int x3), (4, .int x4), (5, .int x5)]) pl_X10_feed rfl (fun _ => Nat.le_of_ble_eq_true rfl) (fun _ => rfl) ?_
  unfold f_X10_feed at h
  refine nd_aload_n dX10_feed_0 0 rfl ?_
  refine nd_get dX10_feed_1 gf_X10_44 (sh_0 t) rfl ?_
  refine nd_bipush dX10_feed_4 ib_20 ?_
  obtain ⟨r1, σ2, hc3, h⟩ := nd_bind_e h
  refine nd_cvi [.int (20 : Int32)] [] dX10_feed_6 cl_X10_119 (sh_38 t) ⟨Nat.le_of_ble_eq_true rfl, Nat.le_of_ble_eq_true rfl⟩ rfl (Nat.le_of_ble_eq_true rfl) hL (t_X3_hasRoom F t hL _ _ hc3) ?_
  refine nd_if_neN dX10_feed_9 14 (by decide) h (fun h => ?_) (fun h => ?_)
  · refine nd_aload_n dX10_feed_14 0 rfl ?_
    refine nd_get dX10_feed_15 gf_X10_44 (sh_0 t) rfl ?_
    refine nd_iload_n dX10_feed_18 1 rfl ?_
    obtain ⟨r4, σ5, hc6, h⟩ := nd_bind_e h
    refine nd_cvi [.int x1] [] dX10_feed_19 cl_X10_122 (sh_38 t) ⟨Nat.le_of_ble_eq_true rfl, Nat.le_of_ble_eq_true rfl⟩ rfl (Nat.le_of_ble_eq_true rfl) hL (t_X3_take F t hL _ _ hc6) ?_
    refine nd_pop dX10_feed_22 rfl ?_
    refine nd_aload_n dX10_feed_23 0 rfl ?_
    refine nd_get dX10_feed_24 gf_X10_44 (sh_0 t) rfl ?_
    refine nd_iload_n dX10_feed_27 2 rfl ?_
    obtain ⟨r7, σ8, hc9, h⟩ := nd_bind_e h
    refine nd_cvi [.int x2] [] dX10_feed_28 cl_X10_122 (sh_38 t) ⟨Nat.le_of_ble_eq_true rfl, Nat.le_of_ble_eq_true rfl⟩ rfl (Nat.le_of_ble_eq_true rfl) hL (t_X3_take F t hL _ _ hc9) ?_
    refine nd_pop dX10_feed_31 rfl ?_
    refine nd_aload_n dX10_feed_32 0 rfl ?_
    refine nd_get dX10_feed_33 gf_X10_44 (sh_0 t) rfl ?_
    refine nd_iload_n dX10_feed_36 3 rfl ?_
    obtain ⟨r10, σ11, hc12, h⟩ := nd_bind_e h
    refine nd_cvi [.int x3] [] dX10_feed_37 cl_X10_122 (sh_38 t) ⟨Nat.le_of_ble_eq_true rfl, Nat.le_of_ble_eq_true rfl⟩ rfl (Nat.le_of_ble_eq_true rfl) hL (t_X3_take F t hL _ _ hc12) ?_
    refine nd_pop dX10_feed_40 rfl ?_
    refine nd_aload_n dX10_feed_41 0 rfl ?_
    refine nd_get dX10_feed_42 gf_X10_44 (sh_0 t) rfl ?_
    refine nd_iload dX10_feed_45 4 rfl ?_
    obtain ⟨r13, σ14, hc15, h⟩ := nd_bind_e h
    refine nd_cvi [.int x4] [] dX10_feed_47 cl_X10_122 (sh_38 t) ⟨Nat.le_of_ble_eq_true rfl, Nat.le_of_ble_eq_true rfl⟩ rfl (Nat.le_of_ble_eq_true rfl) hL (t_X3_take F t hL _ _ hc15) ?_
    refine nd_pop dX10_feed_50 rfl ?_
    refine nd_aload_n dX10_feed_51 0 rfl ?_
    refine nd_get dX10_feed_52 gf_X10_44 (sh_0 t) rfl ?_
    refine nd_iload dX10_feed_55 5 rfl ?_
    obtain ⟨r16, σ17, hc18, h⟩ := nd_bind_e h
    refine nd_cvi [.int x5] [] dX10_feed_57 cl_X10_122 (sh_38 t) ⟨Nat.le_of_ble_eq_true rfl, Nat.le_of_ble_eq_true rfl⟩ rfl (Nat.le_of_ble_eq_true rfl) hL (t_X3_take F t hL _ _ hc18) ?_
    exact nd_iret dX10_feed_60 (Nat.zero_le _) (Nat.zero_le _) (vp_nar_int _) (by cases h; exact ⟨rfl, rfl, rfl⟩)
  · refine nd_iconst dX10_feed_12 ic_m1 ?_
    exact nd_iret dX10_feed_13 (Nat.zero_le _) (Nat.zero_le _) (vp_nar_int _) (by cases h; exact ⟨rfl, rfl, rfl⟩)
def f_X10_person_109 (F : Nat) (s0 : Int32) (σ : nd_Mem) : nd_Res := (nd_bind (f_X4_add F 19 20 14 s0 σ) fun r1 σ2 => (if r1 = (-1 : Int32) then (some ((-1 : Int32), σ2)) else (some ((r1 - (1 : Int32)), σ2))))
def f_X10_person_87 (F : Nat) (x1 : Int32) (x2 : Int32) (x4 : Int32) (σ : nd_Mem) : nd_Res := (if x4 = 0 then (f_X10_person_109 F ((x1 * (16 : Int32)) + x2) σ) else (f_X10_person_109 F (-1 : Int32) σ))
def f_X10_person_73 (F : Nat) (x1 : Int32) (x2 : Int32) (x4 : Int32) (s0 : Int32) (σ : nd_Mem) : nd_Res := (if x4 = 0 then (if s0 = 0 then (some ((-1 : Int32), σ)) else (f_X10_person_87 F x1 x2 x4 σ)) else (f_X10_person_87 F x1 x2 x4 σ))
def f_X10_person_72 (F : Nat) (x1 : Int32) (x2 : Int32) (x4 : Int32) (σ : nd_Mem) : nd_Res := (f_X10_person_73 F x1 x2 x4 (0 : Int32) σ)
def f_X10_person_43 (F : Nat) (x1 : Int32) (x2 : Int32) (x3 : Int32) (s0 : Int32) (σ : nd_Mem) : nd_Res := (if x1 < 0 then (f_X10_person_72 F x1 x2 s0 σ) else (if x3 ≤ x1 then (f_X10_person_72 F x1 x2 s0 σ) else (if x2 < 0 then (f_X10_person_72 F x1 x2 s0 σ) else (if x3 ≤ x2 then (f_X10_person_72 F x1 x2 s0 σ) else (if x1 = x2 then (f_X10_person_72 F x1 x2 s0 σ) else (f_X10_person_73 F x1 x2 s0 (1 : Int32) σ))))))
def f_X10_person_42 (F : Nat) (x1 : Int32) (x2 : Int32) (x3 : Int32) (σ : nd_Mem) : nd_Res := (f_X10_person_43 F x1 x2 x3 (0 : Int32) σ)
def f_X10_person (F : Nat) (x1 : Int32) (x2 : Int32) (σ : nd_Mem) : nd_Res := (if x1 = (-10 : Int32) then (nd_bind (f_X4_clear F 19 20 14 σ) fun r1 σ2 => (some (r1, σ2))) else (if x1 = (-1 : Int32) then (if x2 = (-1 : Int32) then (f_X10_person_43 F x1 x2 (σ 19 1) (1 : Int32) σ) else (f_X10_person_42 F x1 x2 (σ 19 1) σ)) else (f_X10_person_42 F x1 x2 (σ 19 1) σ)))
set_option maxRecDepth 100000 in
set_option maxHeartbeats 4000000 in
theorem b_X10_person_109 (F : Nat) (t : List nd_S) (hL : (nd_SH ++ t).length < nd_ro) {z : Int32 × nd_Mem} (s0 : Int32) (σ : nd_Mem) (h : f_X10_person_109 F s0 σ = some z) : nd_V M_X10_person (nd_rm 1) (nd_Pi (nd_SH ++ t) z) 0 0 109 [(0, .ref 0)] [.int s0, .ref 19] (nd_SH ++ t) σ := by
  unfold f_X10_person_109 at h
  obtain ⟨r1, σ2, hc3, h⟩ := nd_bind_e h
  refine nd_cvi [.int s0] [] dX10_person_109 cl_X10_225 (sh_19 t) ⟨Nat.le_of_ble_eq_true rfl, Nat.le_of_ble_eq_true rfl⟩ rfl (Nat.le_of_ble_eq_true rfl) hL (t_X4_add F 19 20 14 (nd_SH ++ t) hL (is_Row_19 t) _ _ hc3) ?_
  refine nd_istore (ls' := [(6, .int r1), (0, .ref 0)]) dX10_person_112 (by decide) rfl ?_
  refine nd_iload dX10_person_114 0 rfl ?_
  refine nd_iconst dX10_person_116 ic_m1 ?_
  refine nd_icmp_neN dX10_person_117 124 (by decide) h (fun h => ?_) (fun h => ?_)
  · refine nd_iload dX10_person_124 0 rfl ?_
    refine nd_iconst dX10_person_126 ic_1 ?_
    refine nd_isub dX10_person_127 ?_
    exact nd_iret dX10_person_128 (Nat.zero_le _) (Nat.zero_le _) (vp_nar_int _) (by cases h; exact ⟨rfl, rfl, rfl⟩)
  · refine nd_iconst dX10_person_120 ic_m1 ?_
    refine nd_goto dX10_person_121 128 (by decide) ?_
    exact nd_iret dX10_person_128 (Nat.zero_le _) (Nat.zero_le _) (vp_nar_int _) (by cases h; exact ⟨rfl, rfl, rfl⟩)
set_option maxRecDepth 100000 in
set_option maxHeartbeats 4000000 in
theorem b_X10_person_87 (F : Nat) (t : List nd_S) (hL : (nd_SH ++ t).length < nd_ro) {z : Int32 × nd_Mem} (x1 : Int32) (x2 : Int32) (x4 : Int32) (σ : nd_Mem) (h : f_X10_person_87 F x1 x2 x4 σ = some z) : nd_V M_X10_person (nd_rm 1) (nd_Pi (nd_SH ++ t) z) 0 0 87 [(0, .ref 0), (1, .int x1), (2, .int x2), (4, .int x4)] [] (nd_SH ++ t) σ := by
  unfold f_X10_person_87 at h
  refine nd_aload_n dX10_person_87 0 rfl ?_
  refine nd_get dX10_person_88 gf_X10_30 (sh_0 t) rfl ?_
  refine nd_get dX10_person_91 gf_X10_251 (sh_12 t) rfl ?_
  refine nd_iload dX10_person_94 3 rfl ?_
  refine nd_if_eqN dX10_person_96 103 (by decide) h (fun h => ?_) (fun h => ?_)
  · refine nd_iload_n dX10_person_103 1 rfl ?_
    refine nd_bipush dX10_person_104 ib_16 ?_
    refine nd_imul dX10_person_106 ?_
    refine nd_iload_n dX10_person_107 2 rfl ?_
    refine nd_iadd dX10_person_108 ?_
    refine nd_sub [0] rfl ?_
    exact b_X10_person_109 F t hL _ _ h
  · refine nd_iconst dX10_person_99 ic_m1 ?_
    refine nd_goto dX10_person_100 109 (by decide) ?_
    refine nd_sub [0] rfl ?_
    exact b_X10_person_109 F t hL _ _ h
set_option maxRecDepth 100000 in
set_option maxHeartbeats 4000000 in
theorem b_X10_person_73 (F : Nat) (t : List nd_S) (hL : (nd_SH ++ t).length < nd_ro) {z : Int32 × nd_Mem} (x1 : Int32) (x2 : Int32) (x4 : Int32) (s0 : Int32) (σ : nd_Mem) (h : f_X10_person_73 F x1 x2 x4 s0 σ = some z) : nd_V M_X10_person (nd_rm 1) (nd_Pi (nd_SH ++ t) z) 0 0 73 [(0, .ref 0), (1, .int x1), (2, .int x2), (4, .int x4)] [.int s0] (nd_SH ++ t) σ := by
  unfold f_X10_person_73 at h
  refine nd_istore (ls' := [(5, .int s0), (0, .ref 0), (1, .int x1), (2, .int x2), (4, .int x4)]) dX10_person_73 (by decide) rfl ?_
  refine nd_iload dX10_person_75 4 rfl ?_
  refine nd_if_neN dX10_person_77 87 (by decide) h (fun h => ?_) (fun h => ?_)
  · refine nd_sub [1, 2, 3, 4] rfl ?_
    exact b_X10_person_87 F t hL _ _ _ _ h
  · refine nd_iload dX10_person_80 0 rfl ?_
    refine nd_if_neN dX10_person_82 87 (by decide) h (fun h => ?_) (fun h => ?_)
    · refine nd_sub [1, 2, 3, 4] rfl ?_
      exact b_X10_person_87 F t hL _ _ _ _ h
    · refine nd_iconst dX10_person_85 ic_m1 ?_
      exact nd_iret dX10_person_86 (Nat.zero_le _) (Nat.zero_le _) (vp_nar_int _) (by cases h; exact ⟨rfl, rfl, rfl⟩)
set_option maxRecDepth 100000 in
set_option maxHeartbeats 4000000 in
theorem b_X10_person_72 (F : Nat) (t : List nd_S) (hL : (nd_SH ++ t).length < nd_ro) {z : Int32 × nd_Mem} (x1 : Int32) (x2 : Int32) (x4 : Int32) (σ : nd_Mem) (h : f_X10_person_72 F x1 x2 x4 σ = some z) : nd_V M_X10_person (nd_rm 1) (nd_Pi (nd_SH ++ t) z) 0 0 72 [(0, .ref 0), (1, .int x1), (2, .int x2), (4, .int x4)] [] (nd_SH ++ t) σ := by
  unfold f_X10_person_72 at h
  refine nd_iconst dX10_person_72 ic_0 ?_
  exact b_X10_person_73 F t hL _ _ _ _ _ h
set_option maxRecDepth 100000 in
set_option maxHeartbeats 4000000 in
theorem b_X10_person_43 (F : Nat) (t : List nd_S) (hL : (nd_SH ++ t).length < nd_ro) {z : Int32 × nd_Mem} (x1 : Int32) (x2 : Int32) (x3 : Int32) (s0 : Int32) (σ : nd_Mem) (h : f_X10_person_43 F x1 x2 x3 s0 σ = some z) : nd_V M_X10_person (nd_rm 1) (nd_Pi (nd_SH ++ t) z) 0 0 43 [(0, .ref 0), (1, .int x1), (2, .int x2), (3, .int x3)] [.int s0] (nd_SH ++ t) σ := by
  unfold f_X10_person_43 at h
  refine nd_istore (ls' := [(4, .int s0), (0, .ref 0), (1, .int x1), (2, .int x2), (3, .int x3)]) dX10_person_43 (by decide) rfl ?_
  refine nd_iload_n dX10_person_45 2 rfl ?_
  refine nd_if_ltN dX10_person_46 72 (by decide) h (fun h => ?_) (fun h => ?_)
  · refine nd_sub [1, 2, 3, 0] rfl ?_
    exact b_X10_person_72 F t hL _ _ _ _ h
  · refine nd_iload_n dX10_person_49 2 rfl ?_
    refine nd_iload_n dX10_person_50 4 rfl ?_
    refine nd_icmp_geN dX10_person_51 72 (by decide) h (fun h => ?_) (fun h => ?_)
    · refine nd_sub [1, 2, 3, 0] rfl ?_
      exact b_X10_person_72 F t hL _ _ _ _ h
    · refine nd_iload_n dX10_person_54 3 rfl ?_
      refine nd_if_ltN dX10_person_55 72 (by decide) h (fun h => ?_) (fun h => ?_)
      · refine nd_sub [1, 2, 3, 0] rfl ?_
        exact b_X10_person_72 F t hL _ _ _ _ h
      · refine nd_iload_n dX10_person_58 3 rfl ?_
        refine nd_iload_n dX10_person_59 4 rfl ?_
        refine nd_icmp_geN dX10_person_60 72 (by decide) h (fun h => ?_) (fun h => ?_)
        · refine nd_sub [1, 2, 3, 0] rfl ?_
          exact b_X10_person_72 F t hL _ _ _ _ h
        · refine nd_iload_n dX10_person_63 2 rfl ?_
          refine nd_iload_n dX10_person_64 3 rfl ?_
          refine nd_icmp_eqN dX10_person_65 72 (by decide) h (fun h => ?_) (fun h => ?_)
          · refine nd_sub [1, 2, 3, 0] rfl ?_
            exact b_X10_person_72 F t hL _ _ _ _ h
          · refine nd_iconst dX10_person_68 ic_1 ?_
            refine nd_goto dX10_person_69 73 (by decide) ?_
            refine nd_sub [1, 2, 3, 0] rfl ?_
            exact b_X10_person_73 F t hL _ _ _ _ _ h
set_option maxRecDepth 100000 in
set_option maxHeartbeats 4000000 in
theorem b_X10_person_42 (F : Nat) (t : List nd_S) (hL : (nd_SH ++ t).length < nd_ro) {z : Int32 × nd_Mem} (x1 : Int32) (x2 : Int32) (x3 : Int32) (σ : nd_Mem) (h : f_X10_person_42 F x1 x2 x3 σ = some z) : nd_V M_X10_person (nd_rm 1) (nd_Pi (nd_SH ++ t) z) 0 0 42 [(0, .ref 0), (1, .int x1), (2, .int x2), (3, .int x3)] [] (nd_SH ++ t) σ := by
  unfold f_X10_person_42 at h
  refine nd_iconst dX10_person_42 ic_0 ?_
  exact b_X10_person_43 F t hL _ _ _ _ _ h
set_option maxRecDepth 100000 in
set_option maxHeartbeats 4000000 in
theorem t_X10_person (F : Nat) (t : List nd_S) (hL : (nd_SH ++ t).length < nd_ro) {z : Int32 × nd_Mem} (x1 : Int32) (x2 : Int32) (σ : nd_Mem) (h : f_X10_person F x1 x2 σ = some z) : nd_Fn M_X10_person (nd_rm 1) [.ref 0, .int x1, .int x2] (nd_SH ++ t) σ (nd_Pi (nd_SH ++ t) z) := by
  refine nd_Fn.ofV (ls := [(0, .ref 0), (1, .int x1), (2, .int x2)]) pl_X10_person rfl (fun _ => Nat.le_of_ble_eq_true rfl) (fun _ => rfl) ?_
  unfold f_X10_person at h
  refine nd_iload_n dX10_person_0 1 rfl ?_
  refine nd_bipush dX10_person_1 ib_m10 ?_
  refine nd_icmp_neN dX10_person_3 17 (by decide) h (fun h => ?_) (fun h => ?_)
  · refine nd_aload_n dX10_person_17 0 rfl ?_
    refine nd_get dX10_person_18 gf_X10_30 (sh_0 t) rfl ?_
    refine nd_get dX10_person_21 gf_X10_251 (sh_12 t) rfl ?_
    refine nd_get dX10_person_24 gf_X10_236 (sh_19 t) rfl ?_
    refine nd_istore_n (ls' := [(3, .int (σ 19 1)), (0, .ref 0), (1, .int x1), (2, .int x2)]) dX10_person_27 (by decide) rfl ?_
    refine nd_iload_n dX10_person_28 2 rfl ?_
    refine nd_iconst dX10_person_29 ic_m1 ?_
    refine nd_icmp_neN dX10_person_30 42 (by decide) h (fun h => ?_) (fun h => ?_)
    · refine nd_sub [1, 2, 3, 0] rfl ?_
      exact b_X10_person_42 F t hL _ _ _ _ h
    · refine nd_iload_n dX10_person_33 3 rfl ?_
      refine nd_iconst dX10_person_34 ic_m1 ?_
      refine nd_icmp_neN dX10_person_35 42 (by decide) h (fun h => ?_) (fun h => ?_)
      · refine nd_sub [1, 2, 3, 0] rfl ?_
        exact b_X10_person_42 F t hL _ _ _ _ h
      · refine nd_iconst dX10_person_38 ic_1 ?_
        refine nd_goto dX10_person_39 43 (by decide) ?_
        refine nd_sub [1, 2, 3, 0] rfl ?_
        exact b_X10_person_43 F t hL _ _ _ _ _ h
  · refine nd_aload_n dX10_person_6 0 rfl ?_
    refine nd_get dX10_person_7 gf_X10_30 (sh_0 t) rfl ?_
    refine nd_get dX10_person_10 gf_X10_251 (sh_12 t) rfl ?_
    obtain ⟨r1, σ2, hc3, h⟩ := nd_bind_e h
    refine nd_cvi [] [] dX10_person_13 cl_X10_222 (sh_19 t) ⟨Nat.le_of_ble_eq_true rfl, Nat.le_of_ble_eq_true rfl⟩ rfl (Nat.le_of_ble_eq_true rfl) hL (t_X4_clear F 19 20 14 (nd_SH ++ t) hL (is_Row_19 t) _ hc3) ?_
    exact nd_iret dX10_person_16 (Nat.zero_le _) (Nat.zero_le _) (vp_nar_int _) (by cases h; exact ⟨rfl, rfl, rfl⟩)
def f_X10_set_19 (F : Nat) (σ : nd_Mem) : nd_Res := (some ((0 : Int32), σ))
def f_X10_set (F : Nat) (x1 : Int32) (x2 : Int32) (x3 : Int32) (σ : nd_Mem) : nd_Res := (nd_bind (f_X6_has F 1 2 x2 σ) fun r1 σ2 => (if r1 = 0 then (f_X10_set_19 F σ2) else (nd_bind (f_X10_canBe F x1 x3 σ2) fun r4 σ5 => (if r4 = 0 then (f_X10_set_19 F σ5) else (nd_bind (f_X6_put F 1 2 x2 x1 x3 σ5) fun r7 σ8 => (nd_bind (f_X1_forget F σ8) fun r10 σ11 => (some ((1 : Int32), σ11))))))))
set_option maxRecDepth 100000 in
set_option maxHeartbeats 4000000 in
theorem b_X10_set_19 (F : Nat) (t : List nd_S) (hL : (nd_SH ++ t).length < nd_ro) {z : Int32 × nd_Mem} (σ : nd_Mem) (h : f_X10_set_19 F σ = some z) : nd_V M_X10_set (nd_rm 1) (nd_Pi (nd_SH ++ t) z) 0 0 19 [(0, .ref 0)] [] (nd_SH ++ t) σ := by
  unfold f_X10_set_19 at h
  refine nd_iconst dX10_set_19 ic_0 ?_
  exact nd_iret dX10_set_20 (Nat.zero_le _) (Nat.zero_le _) rfl (by cases h; exact ⟨rfl, rfl, rfl⟩)
set_option maxRecDepth 100000 in
set_option maxHeartbeats 4000000 in
theorem t_X10_set (F : Nat) (t : List nd_S) (hL : (nd_SH ++ t).length < nd_ro) {z : Int32 × nd_Mem} (x1 : Int32) (x2 : Int32) (x3 : Int32) (σ : nd_Mem) (h : f_X10_set F x1 x2 x3 σ = some z) : nd_Fn M_X10_set (nd_rm 1) [.ref 0, .int x1, .int x2, .int x3] (nd_SH ++ t) σ (nd_Pi (nd_SH ++ t) z) := by
  refine nd_Fn.ofV (ls := [(0, .ref 0), (1, .int x1), (2, .int x2), (3, .int x3)]) pl_X10_set rfl (fun _ => Nat.le_of_ble_eq_true rfl) (fun _ => rfl) ?_
  unfold f_X10_set at h
  refine nd_aload_n dX10_set_0 0 rfl ?_
  refine nd_get dX10_set_1 gf_X10_10 (sh_0 t) rfl ?_
  refine nd_iload_n dX10_set_4 2 rfl ?_
  obtain ⟨r1, σ2, hc3, h⟩ := nd_bind_e h
  refine nd_cvi [.int x2] [] dX10_set_5 cl_X10_87 (sh_1 t) ⟨Nat.le_of_ble_eq_true rfl, Nat.le_of_ble_eq_true rfl⟩ rfl (Nat.le_of_ble_eq_true rfl) hL (t_X6_has F 1 2 (nd_SH ++ t) hL (is_Street_1 t) _ _ hc3) ?_
  refine nd_if_eqN dX10_set_8 19 (by decide) h (fun h => ?_) (fun h => ?_)
  · refine nd_sub [0] rfl ?_
    exact b_X10_set_19 F t hL _ h
  · refine nd_iload_n dX10_set_11 1 rfl ?_
    refine nd_iload_n dX10_set_12 3 rfl ?_
    obtain ⟨r4, σ5, hc6, h⟩ := nd_bind_e h
    refine nd_csi [.int x1, .int x3] [] dX10_set_13 cl_X10_91 ⟨Nat.le_of_ble_eq_true rfl, Nat.le_of_ble_eq_true rfl⟩ rfl (Nat.le_of_ble_eq_true rfl) hL (t_X10_canBe F (nd_SH ++ t) hL _ _ _ hc6) ?_
    refine nd_if_neN dX10_set_16 21 (by decide) h (fun h => ?_) (fun h => ?_)
    · refine nd_aload_n dX10_set_21 0 rfl ?_
      refine nd_get dX10_set_22 gf_X10_10 (sh_0 t) rfl ?_
      refine nd_iload_n dX10_set_25 2 rfl ?_
      refine nd_iload_n dX10_set_26 1 rfl ?_
      refine nd_iload_n dX10_set_27 3 rfl ?_
      obtain ⟨r7, σ8, hc9, h⟩ := nd_bind_e h
      refine nd_cvv [.int x2, .int x1, .int x3] [] dX10_set_28 cl_X10_95 (sh_1 t) ⟨Nat.le_of_ble_eq_true rfl, Nat.le_of_ble_eq_true rfl⟩ rfl (Nat.le_of_ble_eq_true rfl) hL (t_X6_put F 1 2 (nd_SH ++ t) hL (is_Street_1 t) _ _ _ _ hc9) ?_
      refine nd_aload_n dX10_set_31 0 rfl ?_
      refine nd_get dX10_set_32 gf_X10_37 (sh_0 t) rfl ?_
      obtain ⟨r10, σ11, hc12, h⟩ := nd_bind_e h
      refine nd_cvv [] [] dX10_set_35 cl_X10_80 (sh_24 t) ⟨Nat.le_of_ble_eq_true rfl, Nat.le_of_ble_eq_true rfl⟩ rfl (Nat.le_of_ble_eq_true rfl) hL (t_X1_forget F t hL _ hc12) ?_
      refine nd_iconst dX10_set_38 ic_1 ?_
      exact nd_iret dX10_set_39 (Nat.zero_le _) (Nat.zero_le _) rfl (by cases h; exact ⟨rfl, rfl, rfl⟩)
    · refine nd_sub [0] rfl ?_
      exact b_X10_set_19 F t hL _ h
def f_X10_state (F : Nat) (x1 : Int32) (σ : nd_Mem) : nd_Res := (nd_let (nd_up σ 1 7 x1) fun σ1 => (nd_bind (f_X1_forget F σ1) fun r2 σ3 => (some ((σ 1 7), σ3))))
set_option maxRecDepth 100000 in
set_option maxHeartbeats 4000000 in
theorem t_X10_state (F : Nat) (t : List nd_S) (hL : (nd_SH ++ t).length < nd_ro) {z : Int32 × nd_Mem} (x1 : Int32) (σ : nd_Mem) (h : f_X10_state F x1 σ = some z) : nd_Fn M_X10_state (nd_rm 1) [.ref 0, .int x1] (nd_SH ++ t) σ (nd_Pi (nd_SH ++ t) z) := by
  refine nd_Fn.ofV (ls := [(0, .ref 0), (1, .int x1)]) pl_X10_state rfl (fun _ => Nat.le_of_ble_eq_true rfl) (fun _ => rfl) ?_
  unfold f_X10_state at h
  refine nd_aload_n dX10_state_0 0 rfl ?_
  refine nd_get dX10_state_1 gf_X10_10 (sh_0 t) rfl ?_
  refine nd_get dX10_state_4 gf_X10_76 (sh_1 t) rfl ?_
  refine nd_istore_n (ls' := [(2, .int (σ 1 7)), (0, .ref 0), (1, .int x1)]) dX10_state_7 (by decide) rfl ?_
  refine nd_aload_n dX10_state_8 1 rfl ?_
  refine nd_get dX10_state_9 gf_X10_10 (sh_0 t) rfl ?_
  refine nd_iload_n dX10_state_12 2 rfl ?_
  refine nd_putiN dX10_state_13 pf_X10_76 (sh_1 t) rfl h (fun σ1 h => ?_)
  refine nd_aload_n dX10_state_16 1 rfl ?_
  refine nd_get dX10_state_17 gf_X10_37 (sh_0 t) rfl ?_
  obtain ⟨r2, σ3, hc4, h⟩ := nd_bind_e h
  refine nd_cvv [] [] dX10_state_20 cl_X10_80 (sh_24 t) ⟨Nat.le_of_ble_eq_true rfl, Nat.le_of_ble_eq_true rfl⟩ rfl (Nat.le_of_ble_eq_true rfl) hL (t_X1_forget F t hL _ hc4) ?_
  refine nd_iload_n dX10_state_23 0 rfl ?_
  exact nd_iret dX10_state_24 (Nat.zero_le _) (Nat.zero_le _) (vp_nar_int _) (by cases h; exact ⟨rfl, rfl, rfl⟩)
def f_X10_chain (F : Nat) (σ : nd_Mem) : nd_Res := (nd_bind (f_X7_mostThatMove F σ) fun r1 σ2 => (some (r1, σ2)))
set_option maxRecDepth 100000 in
set_option maxHeartbeats 4000000 in
theorem t_X10_chain (F : Nat) (t : List nd_S) (hL : (nd_SH ++ t).length < nd_ro) {z : Int32 × nd_Mem} (σ : nd_Mem) (h : f_X10_chain F σ = some z) : nd_Fn M_X10_chain (nd_rm 2) [.ref 0] (nd_SH ++ t) σ (nd_Pi (nd_SH ++ t) z) := by
  refine nd_Fn.ofV (ls := [(0, .ref 0)]) pl_X10_chain rfl (fun _ => Nat.le_of_ble_eq_true rfl) (fun _ => rfl) ?_
  unfold f_X10_chain at h
  refine nd_aload_n dX10_chain_0 0 rfl ?_
  refine nd_get dX10_chain_1 gf_X10_68 (sh_0 t) rfl ?_
  obtain ⟨r1, σ2, hc3, h⟩ := nd_bind_e h
  refine nd_cvi [] [] dX10_chain_4 cl_X10_280 (sh_57 t) ⟨Nat.le_of_ble_eq_true rfl, Nat.le_of_ble_eq_true rfl⟩ rfl (Nat.le_of_ble_eq_true rfl) hL (t_X7_mostThatMove F t hL _ hc3) ?_
  exact nd_iret dX10_chain_7 (Nat.zero_le _) (Nat.zero_le _) (vp_nar_int _) (by cases h; exact ⟨rfl, rfl, rfl⟩)
def f_X10_child (F : Nat) (x1 : Int32) (σ : nd_Mem) : nd_Res := (nd_bind (f_X4_tell F 13 14 12 x1 (0 : Int32) (1 : Int32) σ) fun r1 σ2 => (some (r1, σ2)))
set_option maxRecDepth 100000 in
set_option maxHeartbeats 4000000 in
theorem t_X10_child (F : Nat) (t : List nd_S) (hL : (nd_SH ++ t).length < nd_ro) {z : Int32 × nd_Mem} (x1 : Int32) (σ : nd_Mem) (h : f_X10_child F x1 σ = some z) : nd_Fn M_X10_child (nd_rm 2) [.ref 0, .int x1] (nd_SH ++ t) σ (nd_Pi (nd_SH ++ t) z) := by
  refine nd_Fn.ofV (ls := [(0, .ref 0), (1, .int x1)]) pl_X10_child rfl (fun _ => Nat.le_of_ble_eq_true rfl) (fun _ => rfl) ?_
  unfold f_X10_child at h
  refine nd_aload_n dX10_child_0 0 rfl ?_
  refine nd_get dX10_child_1 gf_X10_30 (sh_0 t) rfl ?_
  refine nd_get dX10_child_4 gf_X10_195 (sh_12 t) rfl ?_
  refine nd_iload_n dX10_child_7 1 rfl ?_
  refine nd_iconst dX10_child_8 ic_0 ?_
  refine nd_iconst dX10_child_9 ic_1 ?_
  obtain ⟨r1, σ2, hc3, h⟩ := nd_bind_e h
  refine nd_cvi [.int x1, .int (0 : Int32), .int (1 : Int32)] [] dX10_child_10 cl_X10_199 (sh_13 t) ⟨Nat.le_of_ble_eq_true rfl, Nat.le_of_ble_eq_true rfl⟩ rfl (Nat.le_of_ble_eq_true rfl) hL (t_X4_tell F 13 14 12 (nd_SH ++ t) hL (is_Row_13 t) _ _ _ _ hc3) ?_
  exact nd_iret dX10_child_13 (Nat.zero_le _) (Nat.zero_le _) (vp_nar_int _) (by cases h; exact ⟨rfl, rfl, rfl⟩)
def f_X10_dowry (F : Nat) (x1 : Int32) (σ : nd_Mem) : nd_Res := (nd_bind (f_X4_tell F 17 18 10 x1 (0 : Int32) (60 : Int32) σ) fun r1 σ2 => (some (r1, σ2)))
set_option maxRecDepth 100000 in
set_option maxHeartbeats 4000000 in
theorem t_X10_dowry (F : Nat) (t : List nd_S) (hL : (nd_SH ++ t).length < nd_ro) {z : Int32 × nd_Mem} (x1 : Int32) (σ : nd_Mem) (h : f_X10_dowry F x1 σ = some z) : nd_Fn M_X10_dowry (nd_rm 2) [.ref 0, .int x1] (nd_SH ++ t) σ (nd_Pi (nd_SH ++ t) z) := by
  refine nd_Fn.ofV (ls := [(0, .ref 0), (1, .int x1)]) pl_X10_dowry rfl (fun _ => Nat.le_of_ble_eq_true rfl) (fun _ => rfl) ?_
  unfold f_X10_dowry at h
  refine nd_aload_n dX10_dowry_0 0 rfl ?_
  refine nd_get dX10_dowry_1 gf_X10_30 (sh_0 t) rfl ?_
  refine nd_get dX10_dowry_4 gf_X10_234 (sh_12 t) rfl ?_
  refine nd_iload_n dX10_dowry_7 1 rfl ?_
  refine nd_iconst dX10_dowry_8 ic_0 ?_
  refine nd_bipush dX10_dowry_9 ib_60 ?_
  obtain ⟨r1, σ2, hc3, h⟩ := nd_bind_e h
  refine nd_cvi [.int x1, .int (0 : Int32), .int (60 : Int32)] [] dX10_dowry_11 cl_X10_199 (sh_17 t) ⟨Nat.le_of_ble_eq_true rfl, Nat.le_of_ble_eq_true rfl⟩ rfl (Nat.le_of_ble_eq_true rfl) hL (t_X4_tell F 17 18 10 (nd_SH ++ t) hL (is_Row_17 t) _ _ _ _ hc3) ?_
  exact nd_iret dX10_dowry_14 (Nat.zero_le _) (Nat.zero_le _) (vp_nar_int _) (by cases h; exact ⟨rfl, rfl, rfl⟩)
def f_X10_height (F : Nat) (x1 : Int32) (σ : nd_Mem) : nd_Res := (nd_bind (f_X4_tell F 21 22 10 x1 (1 : Int32) (60 : Int32) σ) fun r1 σ2 => (some (r1, σ2)))
set_option maxRecDepth 100000 in
set_option maxHeartbeats 4000000 in
theorem t_X10_height (F : Nat) (t : List nd_S) (hL : (nd_SH ++ t).length < nd_ro) {z : Int32 × nd_Mem} (x1 : Int32) (σ : nd_Mem) (h : f_X10_height F x1 σ = some z) : nd_Fn M_X10_height (nd_rm 2) [.ref 0, .int x1] (nd_SH ++ t) σ (nd_Pi (nd_SH ++ t) z) := by
  refine nd_Fn.ofV (ls := [(0, .ref 0), (1, .int x1)]) pl_X10_height rfl (fun _ => Nat.le_of_ble_eq_true rfl) (fun _ => rfl) ?_
  unfold f_X10_height at h
  refine nd_aload_n dX10_height_0 0 rfl ?_
  refine nd_get dX10_height_1 gf_X10_30 (sh_0 t) rfl ?_
  refine nd_get dX10_height_4 gf_X10_289 (sh_12 t) rfl ?_
  refine nd_iload_n dX10_height_7 1 rfl ?_
  refine nd_iconst dX10_height_8 ic_1 ?_
  refine nd_bipush dX10_height_9 ib_60 ?_
  obtain ⟨r1, σ2, hc3, h⟩ := nd_bind_e h
  refine nd_cvi [.int x1, .int (1 : Int32), .int (60 : Int32)] [] dX10_height_11 cl_X10_199 (sh_21 t) ⟨Nat.le_of_ble_eq_true rfl, Nat.le_of_ble_eq_true rfl⟩ rfl (Nat.le_of_ble_eq_true rfl) hL (t_X4_tell F 21 22 10 (nd_SH ++ t) hL (is_Row_21 t) _ _ _ _ hc3) ?_
  exact nd_iret dX10_height_14 (Nat.zero_le _) (Nat.zero_le _) (vp_nar_int _) (by cases h; exact ⟨rfl, rfl, rfl⟩)
def f_X10_home_87 (F : Nat) (σ : nd_Mem) : nd_Res := (some ((-1 : Int32), σ))
def f_X10_home_69 (F : Nat) (x1 : Int32) (x2 : Int32) (x4 : Int32) (x5 : Int32) (x6 : Int32) (s0 : Int32) (σ : nd_Mem) : nd_Res := (if s0 = 0 then (f_X10_home_87 F σ) else (if x4 < 0 then (f_X10_home_87 F σ) else (if x4 ≤ (1 : Int32) then (nd_bind (f_X0_weight F x1 x2 x5 (x6 - x5) σ) fun r1 σ2 => (nd_bind (f_X0_weight F x2 x2 x5 (x6 - x5) σ2) fun r4 σ5 => (nd_bind (f_X0_lowest F r1 r4 x4 σ5) fun r7 σ8 => (some (r7, σ8))))) else (f_X10_home_87 F σ))))
def f_X10_home_68 (F : Nat) (x1 : Int32) (x2 : Int32) (x4 : Int32) (x5 : Int32) (x6 : Int32) (σ : nd_Mem) : nd_Res := (f_X10_home_69 F x1 x2 x4 x5 x6 (0 : Int32) σ)
def f_X10_home (F : Nat) (x1 : Int32) (x2 : Int32) (x3 : Int32) (x4 : Int32) (σ : nd_Mem) : nd_Res := (if x2 < (1 : Int32) then (f_X10_home_68 F x1 x2 x4 (x3 / (10 : Int32)) (q_rem x3 (10 : Int32)) σ) else (if (8 : Int32) < x2 then (f_X10_home_68 F x1 x2 x4 (x3 / (10 : Int32)) (q_rem x3 (10 : Int32)) σ) else (if x1 < 0 then (f_X10_home_68 F x1 x2 x4 (x3 / (10 : Int32)) (q_rem x3 (10 : Int32)) σ) else (if x2 < x1 then (f_X10_home_68 F x1 x2 x4 (x3 / (10 : Int32)) (q_rem x3 (10 : Int32)) σ) else (if (x3 / (10 : Int32)) < (1 : Int32) then (f_X10_home_68 F x1 x2 x4 (x3 / (10 : Int32)) (q_rem x3 (10 : Int32)) σ) else (if (5 : Int32) < (x3 / (10 : Int32)) then (f_X10_home_68 F x1 x2 x4 (x3 / (10 : Int32)) (q_rem x3 (10 : Int32)) σ) else (if (q_rem x3 (10 : Int32)) < (2 : Int32) then (f_X10_home_68 F x1 x2 x4 (x3 / (10 : Int32)) (q_rem x3 (10 : Int32)) σ) else (if (6 : Int32) < (q_rem x3 (10 : Int32)) then (f_X10_home_68 F x1 x2 x4 (x3 / (10 : Int32)) (q_rem x3 (10 : Int32)) σ) else (if (q_rem x3 (10 : Int32)) ≤ (x3 / (10 : Int32)) then (f_X10_home_68 F x1 x2 x4 (x3 / (10 : Int32)) (q_rem x3 (10 : Int32)) σ) else (f_X10_home_69 F x1 x2 x4 (x3 / (10 : Int32)) (q_rem x3 (10 : Int32)) (1 : Int32) σ))))))))))
set_option maxRecDepth 100000 in
set_option maxHeartbeats 4000000 in
theorem b_X10_home_87 (F : Nat) (t : List nd_S) (hL : (nd_SH ++ t).length < nd_ro) {z : Int32 × nd_Mem} (σ : nd_Mem) (h : f_X10_home_87 F σ = some z) : nd_V M_X10_home (nd_rm 2) (nd_Pi (nd_SH ++ t) z) 0 0 87 [(0, .ref 0)] [] (nd_SH ++ t) σ := by
  unfold f_X10_home_87 at h
  refine nd_iconst dX10_home_87 ic_m1 ?_
  exact nd_iret dX10_home_88 (Nat.zero_le _) (Nat.zero_le _) (vp_nar_int _) (by cases h; exact ⟨rfl, rfl, rfl⟩)
set_option maxRecDepth 100000 in
set_option maxHeartbeats 4000000 in
theorem b_X10_home_69 (F : Nat) (t : List nd_S) (hL : (nd_SH ++ t).length < nd_ro) {z : Int32 × nd_Mem} (x1 : Int32) (x2 : Int32) (x4 : Int32) (x5 : Int32) (x6 : Int32) (s0 : Int32) (σ : nd_Mem) (h : f_X10_home_69 F x1 x2 x4 x5 x6 s0 σ = some z) : nd_V M_X10_home (nd_rm 2) (nd_Pi (nd_SH ++ t) z) 0 0 69 [(0, .ref 0), (1, .int x1), (2, .int x2), (4, .int x4), (5, .int x5), (6, .int x6)] [.int s0] (nd_SH ++ t) σ := by
  unfold f_X10_home_69 at h
  refine nd_istore (ls' := [(7, .int s0), (0, .ref 0), (1, .int x1), (2, .int x2), (4, .int x4), (5, .int x5), (6, .int x6)]) dX10_home_69 (by decide) rfl ?_
  refine nd_iload dX10_home_71 0 rfl ?_
  refine nd_if_eqN dX10_home_73 87 (by decide) h (fun h => ?_) (fun h => ?_)
  · refine nd_sub [1] rfl ?_
    exact b_X10_home_87 F t hL _ h
  · refine nd_iload dX10_home_76 4 rfl ?_
    refine nd_if_ltN dX10_home_78 87 (by decide) h (fun h => ?_) (fun h => ?_)
    · refine nd_sub [1] rfl ?_
      exact b_X10_home_87 F t hL _ h
    · refine nd_iload dX10_home_81 4 rfl ?_
      refine nd_iconst dX10_home_83 ic_1 ?_
      refine nd_icmp_leN dX10_home_84 89 (by decide) h (fun h => ?_) (fun h => ?_)
      · refine nd_iload_n dX10_home_89 2 rfl ?_
        refine nd_iload_n dX10_home_90 3 rfl ?_
        refine nd_iload dX10_home_91 5 rfl ?_
        refine nd_iload dX10_home_93 6 rfl ?_
        refine nd_iload dX10_home_95 5 rfl ?_
        refine nd_isub dX10_home_97 ?_
        obtain ⟨r1, σ2, hc3, h⟩ := nd_bind_e h
        refine nd_csi [.int x1, .int x2, .int x5, .int (x6 - x5)] [] dX10_home_98 cl_X10_267 ⟨Nat.le_of_ble_eq_true rfl, Nat.le_of_ble_eq_true rfl⟩ rfl (Nat.le_of_ble_eq_true rfl) hL (t_X0_weight F (nd_SH ++ t) hL _ _ _ _ _ hc3) ?_
        refine nd_istore (ls' := [(8, .int r1), (7, .int s0), (0, .ref 0), (1, .int x1), (2, .int x2), (4, .int x4), (5, .int x5), (6, .int x6)]) dX10_home_101 (by decide) rfl ?_
        refine nd_iload_n dX10_home_103 4 rfl ?_
        refine nd_iload_n dX10_home_104 4 rfl ?_
        refine nd_iload dX10_home_105 6 rfl ?_
        refine nd_iload dX10_home_107 7 rfl ?_
        refine nd_iload dX10_home_109 6 rfl ?_
        refine nd_isub dX10_home_111 ?_
        obtain ⟨r4, σ5, hc6, h⟩ := nd_bind_e h
        refine nd_csi [.int x2, .int x2, .int x5, .int (x6 - x5)] [] dX10_home_112 cl_X10_267 ⟨Nat.le_of_ble_eq_true rfl, Nat.le_of_ble_eq_true rfl⟩ rfl (Nat.le_of_ble_eq_true rfl) hL (t_X0_weight F (nd_SH ++ t) hL _ _ _ _ _ hc6) ?_
        refine nd_istore (ls' := [(9, .int r4), (8, .int r1), (7, .int s0), (0, .ref 0), (1, .int x1), (2, .int x2), (4, .int x4), (5, .int x5), (6, .int x6)]) dX10_home_115 (by decide) rfl ?_
        refine nd_iload dX10_home_117 1 rfl ?_
        refine nd_iload dX10_home_119 0 rfl ?_
        refine nd_iload dX10_home_121 6 rfl ?_
        obtain ⟨r7, σ8, hc9, h⟩ := nd_bind_e h
        refine nd_csi [.int r1, .int r4, .int x4] [] dX10_home_123 cl_X10_264 ⟨Nat.le_of_ble_eq_true rfl, Nat.le_of_ble_eq_true rfl⟩ rfl (Nat.le_of_ble_eq_true rfl) hL (t_X0_lowest F (nd_SH ++ t) hL _ _ _ _ hc9) ?_
        exact nd_iret dX10_home_126 (Nat.zero_le _) (Nat.zero_le _) (vp_nar_int _) (by cases h; exact ⟨rfl, rfl, rfl⟩)
      · refine nd_sub [1] rfl ?_
        exact b_X10_home_87 F t hL _ h
set_option maxRecDepth 100000 in
set_option maxHeartbeats 4000000 in
theorem b_X10_home_68 (F : Nat) (t : List nd_S) (hL : (nd_SH ++ t).length < nd_ro) {z : Int32 × nd_Mem} (x1 : Int32) (x2 : Int32) (x4 : Int32) (x5 : Int32) (x6 : Int32) (σ : nd_Mem) (h : f_X10_home_68 F x1 x2 x4 x5 x6 σ = some z) : nd_V M_X10_home (nd_rm 2) (nd_Pi (nd_SH ++ t) z) 0 0 68 [(0, .ref 0), (1, .int x1), (2, .int x2), (4, .int x4), (5, .int x5), (6, .int x6)] [] (nd_SH ++ t) σ := by
  unfold f_X10_home_68 at h
  refine nd_iconst dX10_home_68 ic_0 ?_
  exact b_X10_home_69 F t hL _ _ _ _ _ _ _ h
set_option maxRecDepth 100000 in
set_option maxHeartbeats 4000000 in
theorem t_X10_home (F : Nat) (t : List nd_S) (hL : (nd_SH ++ t).length < nd_ro) {z : Int32 × nd_Mem} (x1 : Int32) (x2 : Int32) (x3 : Int32) (x4 : Int32) (σ : nd_Mem) (h : f_X10_home F x1 x2 x3 x4 σ = some z) : nd_Fn M_X10_home (nd_rm 2) [.ref 0, .int x1, .int x2, .int x3, .int x4] (nd_SH ++ t) σ (nd_Pi (nd_SH ++ t) z) := by
  refine nd_Fn.ofV (ls := [(0, .ref 0), (1, .int x1), (2, .int x2), (3, .int x3), (4, .int x4)]) pl_X10_home rfl (fun _ => Nat.le_of_ble_eq_true rfl) (fun _ => rfl) ?_
  unfold f_X10_home at h
  refine nd_iload_n dX10_home_0 3 rfl ?_
  refine nd_bipush dX10_home_1 ib_10 ?_
  refine nd_idiv dX10_home_3 (by decide) ?_
  refine nd_istore (ls' := [(5, .int (x3 / (10 : Int32))), (0, .ref 0), (1, .int x1), (2, .int x2), (3, .int x3), (4, .int x4)]) dX10_home_4 (by decide) rfl ?_
  refine nd_iload_n dX10_home_6 4 rfl ?_
  refine nd_bipush dX10_home_7 ib_10 ?_
  refine nd_irem dX10_home_9 (by decide) ?_
  refine nd_istore (ls' := [(6, .int (q_rem x3 (10 : Int32))), (5, .int (x3 / (10 : Int32))), (0, .ref 0), (1, .int x1), (2, .int x2), (3, .int x3), (4, .int x4)]) dX10_home_10 (by decide) rfl ?_
  refine nd_iload_n dX10_home_12 4 rfl ?_
  refine nd_iconst dX10_home_13 ic_1 ?_
  refine nd_icmp_ltN dX10_home_14 68 (by decide) h (fun h => ?_) (fun h => ?_)
  · refine nd_sub [2, 3, 4, 6, 1, 0] rfl ?_
    exact b_X10_home_68 F t hL _ _ _ _ _ _ h
  · refine nd_iload_n dX10_home_17 4 rfl ?_
    refine nd_bipush dX10_home_18 ib_8 ?_
    refine nd_icmp_gtN dX10_home_20 68 (by decide) h (fun h => ?_) (fun h => ?_)
    · refine nd_sub [2, 3, 4, 6, 1, 0] rfl ?_
      exact b_X10_home_68 F t hL _ _ _ _ _ _ h
    · refine nd_iload_n dX10_home_23 3 rfl ?_
      refine nd_if_ltN dX10_home_24 68 (by decide) h (fun h => ?_) (fun h => ?_)
      · refine nd_sub [2, 3, 4, 6, 1, 0] rfl ?_
        exact b_X10_home_68 F t hL _ _ _ _ _ _ h
      · refine nd_iload_n dX10_home_27 3 rfl ?_
        refine nd_iload_n dX10_home_28 4 rfl ?_
        refine nd_icmp_gtN dX10_home_29 68 (by decide) h (fun h => ?_) (fun h => ?_)
        · refine nd_sub [2, 3, 4, 6, 1, 0] rfl ?_
          exact b_X10_home_68 F t hL _ _ _ _ _ _ h
        · refine nd_iload dX10_home_32 1 rfl ?_
          refine nd_iconst dX10_home_34 ic_1 ?_
          refine nd_icmp_ltN dX10_home_35 68 (by decide) h (fun h => ?_) (fun h => ?_)
          · refine nd_sub [2, 3, 4, 6, 1, 0] rfl ?_
            exact b_X10_home_68 F t hL _ _ _ _ _ _ h
          · refine nd_iload dX10_home_38 1 rfl ?_
            refine nd_iconst dX10_home_40 ic_5 ?_
            refine nd_icmp_gtN dX10_home_41 68 (by decide) h (fun h => ?_) (fun h => ?_)
            · refine nd_sub [2, 3, 4, 6, 1, 0] rfl ?_
              exact b_X10_home_68 F t hL _ _ _ _ _ _ h
            · refine nd_iload dX10_home_44 0 rfl ?_
              refine nd_iconst dX10_home_46 ic_2 ?_
              refine nd_icmp_ltN dX10_home_47 68 (by decide) h (fun h => ?_) (fun h => ?_)
              · refine nd_sub [2, 3, 4, 6, 1, 0] rfl ?_
                exact b_X10_home_68 F t hL _ _ _ _ _ _ h
              · refine nd_iload dX10_home_50 0 rfl ?_
                refine nd_bipush dX10_home_52 ib_6 ?_
                refine nd_icmp_gtN dX10_home_54 68 (by decide) h (fun h => ?_) (fun h => ?_)
                · refine nd_sub [2, 3, 4, 6, 1, 0] rfl ?_
                  exact b_X10_home_68 F t hL _ _ _ _ _ _ h
                · refine nd_iload dX10_home_57 1 rfl ?_
                  refine nd_iload dX10_home_59 0 rfl ?_
                  refine nd_icmp_geN dX10_home_61 68 (by decide) h (fun h => ?_) (fun h => ?_)
                  · refine nd_sub [2, 3, 4, 6, 1, 0] rfl ?_
                    exact b_X10_home_68 F t hL _ _ _ _ _ _ h
                  · refine nd_iconst dX10_home_64 ic_1 ?_
                    refine nd_goto dX10_home_65 69 (by decide) ?_
                    refine nd_sub [2, 3, 4, 6, 1, 0] rfl ?_
                    exact b_X10_home_69 F t hL _ _ _ _ _ _ _ h
def f_X10_house_25 (F : Nat) (x4 : Int32) (σ : nd_Mem) : nd_Res := (some (x4, σ))
def f_X10_house (F : Nat) (x1 : Int32) (x2 : Int32) (x3 : Int32) (σ : nd_Mem) : nd_Res := (nd_bind (f_X6_build F 1 2 x1 x2 x3 σ) fun r1 σ2 => (if r1 = (-1 : Int32) then (f_X10_house_25 F r1 σ2) else (nd_bind (f_X1_forget F σ2) fun r4 σ5 => (f_X10_house_25 F r1 σ5))))
set_option maxRecDepth 100000 in
set_option maxHeartbeats 4000000 in
theorem b_X10_house_25 (F : Nat) (t : List nd_S) (hL : (nd_SH ++ t).length < nd_ro) {z : Int32 × nd_Mem} (x4 : Int32) (σ : nd_Mem) (h : f_X10_house_25 F x4 σ = some z) : nd_V M_X10_house (nd_rm 2) (nd_Pi (nd_SH ++ t) z) 0 0 25 [(0, .ref 0), (4, .int x4)] [] (nd_SH ++ t) σ := by
  unfold f_X10_house_25 at h
  refine nd_iload dX10_house_25 1 rfl ?_
  exact nd_iret dX10_house_27 (Nat.zero_le _) (Nat.zero_le _) (vp_nar_int _) (by cases h; exact ⟨rfl, rfl, rfl⟩)
set_option maxRecDepth 100000 in
set_option maxHeartbeats 4000000 in
theorem t_X10_house (F : Nat) (t : List nd_S) (hL : (nd_SH ++ t).length < nd_ro) {z : Int32 × nd_Mem} (x1 : Int32) (x2 : Int32) (x3 : Int32) (σ : nd_Mem) (h : f_X10_house F x1 x2 x3 σ = some z) : nd_Fn M_X10_house (nd_rm 2) [.ref 0, .int x1, .int x2, .int x3] (nd_SH ++ t) σ (nd_Pi (nd_SH ++ t) z) := by
  refine nd_Fn.ofV (ls := [(0, .ref 0), (1, .int x1), (2, .int x2), (3, .int x3)]) pl_X10_house rfl (fun _ => Nat.le_of_ble_eq_true rfl) (fun _ => rfl) ?_
  unfold f_X10_house at h
  refine nd_aload_n dX10_house_0 0 rfl ?_
  refine nd_get dX10_house_1 gf_X10_10 (sh_0 t) rfl ?_
  refine nd_iload_n dX10_house_4 1 rfl ?_
  refine nd_iload_n dX10_house_5 2 rfl ?_
  refine nd_iload_n dX10_house_6 3 rfl ?_
  obtain ⟨r1, σ2, hc3, h⟩ := nd_bind_e h
  refine nd_cvi [.int x1, .int x2, .int x3] [] dX10_house_7 cl_X10_83 (sh_1 t) ⟨Nat.le_of_ble_eq_true rfl, Nat.le_of_ble_eq_true rfl⟩ rfl (Nat.le_of_ble_eq_true rfl) hL (t_X6_build F 1 2 (nd_SH ++ t) hL (is_Street_1 t) _ _ _ _ hc3) ?_
  refine nd_istore (ls' := [(4, .int r1), (0, .ref 0), (1, .int x1), (2, .int x2), (3, .int x3)]) dX10_house_10 (by decide) rfl ?_
  refine nd_iload dX10_house_12 0 rfl ?_
  refine nd_iconst dX10_house_14 ic_m1 ?_
  refine nd_icmp_eqN dX10_house_15 25 (by decide) h (fun h => ?_) (fun h => ?_)
  · refine nd_sub [1, 0] rfl ?_
    exact b_X10_house_25 F t hL _ _ h
  · refine nd_aload_n dX10_house_18 1 rfl ?_
    refine nd_get dX10_house_19 gf_X10_37 (sh_0 t) rfl ?_
    obtain ⟨r4, σ5, hc6, h⟩ := nd_bind_e h
    refine nd_cvv [] [] dX10_house_22 cl_X10_80 (sh_24 t) ⟨Nat.le_of_ble_eq_true rfl, Nat.le_of_ble_eq_true rfl⟩ rfl (Nat.le_of_ble_eq_true rfl) hL (t_X1_forget F t hL _ hc6) ?_
    refine nd_sub [1, 0] rfl ?_
    exact b_X10_house_25 F t hL _ _ h
def f_X10_look (F : Nat) (x1 : Int32) (σ : nd_Mem) : nd_Res := (if x1 = (0 : Int32) then (some ((σ 1 1), σ)) else (if x1 = (1 : Int32) then (some ((σ 1 5), σ)) else (if x1 = (2 : Int32) then (some ((σ 1 3), σ)) else (if x1 = (3 : Int32) then (some ((σ 1 4), σ)) else (if x1 = (4 : Int32) then (some ((σ 1 2), σ)) else (if x1 = (5 : Int32) then (nd_bind (f_X6_widows F 1 2 σ) fun r7 σ8 => (some (r7, σ8))) else (if x1 = (6 : Int32) then (some ((σ 1 6), σ)) else (if x1 = (7 : Int32) then (some ((σ 1 8), σ)) else (if x1 = (8 : Int32) then (some ((σ 1 7), σ)) else (if x1 = (9 : Int32) then (nd_bind (f_X5_linesOf F 3 (x1 - (9 : Int32)) σ) fun r14 σ15 => (some (r14, σ15))) else (if x1 = (10 : Int32) then (nd_bind (f_X5_linesOf F 3 (x1 - (9 : Int32)) σ) fun r18 σ19 => (some (r18, σ19))) else (if x1 = (11 : Int32) then (nd_bind (f_X5_linesOf F 3 (x1 - (9 : Int32)) σ) fun r22 σ23 => (some (r22, σ23))) else (if x1 = (12 : Int32) then (nd_bind (f_X5_linesOf F 3 (x1 - (9 : Int32)) σ) fun r26 σ27 => (some (r26, σ27))) else (if x1 = (13 : Int32) then (some ((σ 24 1), σ)) else (some ((-100000 : Int32), σ))))))))))))))))
set_option maxRecDepth 100000 in
set_option maxHeartbeats 4000000 in
theorem t_X10_look (F : Nat) (t : List nd_S) (hL : (nd_SH ++ t).length < nd_ro) {z : Int32 × nd_Mem} (x1 : Int32) (σ : nd_Mem) (h : f_X10_look F x1 σ = some z) : nd_Fn M_X10_look (nd_rm 2) [.ref 0, .int x1] (nd_SH ++ t) σ (nd_Pi (nd_SH ++ t) z) := by
  refine nd_Fn.ofV (ls := [(0, .ref 0), (1, .int x1)]) pl_X10_look rfl (fun _ => Nat.le_of_ble_eq_true rfl) (fun _ => rfl) ?_
  unfold f_X10_look at h
  refine nd_iload_n dX10_look_0 1 rfl ?_
  rcases nd_ite_e h with ⟨c1, h⟩ | ⟨c1, h⟩
  · refine nd_tin dX10_look_1 0 (by rw [c1] <;> decide) (by rw [c1] <;> decide) rfl 72 (by decide) ?_
    refine nd_aload_n dX10_look_72 0 rfl ?_
    refine nd_get dX10_look_73 gf_X10_10 (sh_0 t) rfl ?_
    refine nd_get dX10_look_76 gf_X10_129 (sh_1 t) rfl ?_
    exact nd_iret dX10_look_79 (Nat.zero_le _) (Nat.zero_le _) (vp_nar_int _) (by cases h; exact ⟨rfl, rfl, rfl⟩)
  rcases nd_ite_e h with ⟨c2, h⟩ | ⟨c2, h⟩
  · refine nd_tin dX10_look_1 1 (by rw [c2] <;> decide) (by rw [c2] <;> decide) rfl 80 (by decide) ?_
    refine nd_aload_n dX10_look_80 0 rfl ?_
    refine nd_get dX10_look_81 gf_X10_10 (sh_0 t) rfl ?_
    refine nd_get dX10_look_84 gf_X10_113 (sh_1 t) rfl ?_
    exact nd_iret dX10_look_87 (Nat.zero_le _) (Nat.zero_le _) (vp_nar_int _) (by cases h; exact ⟨rfl, rfl, rfl⟩)
  rcases nd_ite_e h with ⟨c3, h⟩ | ⟨c3, h⟩
  · refine nd_tin dX10_look_1 2 (by rw [c3] <;> decide) (by rw [c3] <;> decide) rfl 88 (by decide) ?_
    refine nd_aload_n dX10_look_88 0 rfl ?_
    refine nd_get dX10_look_89 gf_X10_10 (sh_0 t) rfl ?_
    refine nd_get dX10_look_92 gf_X10_169 (sh_1 t) rfl ?_
    exact nd_iret dX10_look_95 (Nat.zero_le _) (Nat.zero_le _) (vp_nar_int _) (by cases h; exact ⟨rfl, rfl, rfl⟩)
  rcases nd_ite_e h with ⟨c4, h⟩ | ⟨c4, h⟩
  · refine nd_tin dX10_look_1 3 (by rw [c4] <;> decide) (by rw [c4] <;> decide) rfl 96 (by decide) ?_
    refine nd_aload_n dX10_look_96 0 rfl ?_
    refine nd_get dX10_look_97 gf_X10_10 (sh_0 t) rfl ?_
    refine nd_get dX10_look_100 gf_X10_172 (sh_1 t) rfl ?_
    exact nd_iret dX10_look_103 (Nat.zero_le _) (Nat.zero_le _) (vp_nar_int _) (by cases h; exact ⟨rfl, rfl, rfl⟩)
  rcases nd_ite_e h with ⟨c5, h⟩ | ⟨c5, h⟩
  · refine nd_tin dX10_look_1 4 (by rw [c5] <;> decide) (by rw [c5] <;> decide) rfl 104 (by decide) ?_
    refine nd_aload_n dX10_look_104 0 rfl ?_
    refine nd_get dX10_look_105 gf_X10_10 (sh_0 t) rfl ?_
    refine nd_get dX10_look_108 gf_X10_179 (sh_1 t) rfl ?_
    exact nd_iret dX10_look_111 (Nat.zero_le _) (Nat.zero_le _) (vp_nar_int _) (by cases h; exact ⟨rfl, rfl, rfl⟩)
  rcases nd_ite_e h with ⟨c6, h⟩ | ⟨c6, h⟩
  · refine nd_tin dX10_look_1 5 (by rw [c6] <;> decide) (by rw [c6] <;> decide) rfl 112 (by decide) ?_
    refine nd_aload_n dX10_look_112 0 rfl ?_
    refine nd_get dX10_look_113 gf_X10_10 (sh_0 t) rfl ?_
    obtain ⟨r7, σ8, hc9, h⟩ := nd_bind_e h
    refine nd_cvi [] [] dX10_look_116 cl_X10_320 (sh_1 t) ⟨Nat.le_of_ble_eq_true rfl, Nat.le_of_ble_eq_true rfl⟩ rfl (Nat.le_of_ble_eq_true rfl) hL (t_X6_widows F 1 2 (nd_SH ++ t) hL (is_Street_1 t) _ hc9) ?_
    exact nd_iret dX10_look_119 (Nat.zero_le _) (Nat.zero_le _) (vp_nar_int _) (by cases h; exact ⟨rfl, rfl, rfl⟩)
  rcases nd_ite_e h with ⟨c10, h⟩ | ⟨c10, h⟩
  · refine nd_tin dX10_look_1 6 (by rw [c10] <;> decide) (by rw [c10] <;> decide) rfl 120 (by decide) ?_
    refine nd_aload_n dX10_look_120 0 rfl ?_
    refine nd_get dX10_look_121 gf_X10_10 (sh_0 t) rfl ?_
    refine nd_get dX10_look_124 gf_X10_110 (sh_1 t) rfl ?_
    exact nd_iret dX10_look_127 (Nat.zero_le _) (Nat.zero_le _) (vp_nar_int _) (by cases h; exact ⟨rfl, rfl, rfl⟩)
  rcases nd_ite_e h with ⟨c11, h⟩ | ⟨c11, h⟩
  · refine nd_tin dX10_look_1 7 (by rw [c11] <;> decide) (by rw [c11] <;> decide) rfl 128 (by decide) ?_
    refine nd_aload_n dX10_look_128 0 rfl ?_
    refine nd_get dX10_look_129 gf_X10_10 (sh_0 t) rfl ?_
    refine nd_get dX10_look_132 gf_X10_163 (sh_1 t) rfl ?_
    exact nd_iret dX10_look_135 (Nat.zero_le _) (Nat.zero_le _) (vp_nar_int _) (by cases h; exact ⟨rfl, rfl, rfl⟩)
  rcases nd_ite_e h with ⟨c12, h⟩ | ⟨c12, h⟩
  · refine nd_tin dX10_look_1 8 (by rw [c12] <;> decide) (by rw [c12] <;> decide) rfl 136 (by decide) ?_
    refine nd_aload_n dX10_look_136 0 rfl ?_
    refine nd_get dX10_look_137 gf_X10_10 (sh_0 t) rfl ?_
    refine nd_get dX10_look_140 gf_X10_76 (sh_1 t) rfl ?_
    exact nd_iret dX10_look_143 (Nat.zero_le _) (Nat.zero_le _) (vp_nar_int _) (by cases h; exact ⟨rfl, rfl, rfl⟩)
  rcases nd_ite_e h with ⟨c13, h⟩ | ⟨c13, h⟩
  · refine nd_tin dX10_look_1 9 (by rw [c13] <;> decide) (by rw [c13] <;> decide) rfl 144 (by decide) ?_
    refine nd_aload_n dX10_look_144 0 rfl ?_
    refine nd_get dX10_look_145 gf_X10_19 (sh_0 t) rfl ?_
    refine nd_iload_n dX10_look_148 1 rfl ?_
    refine nd_bipush dX10_look_149 ib_9 ?_
    refine nd_isub dX10_look_151 ?_
    obtain ⟨r14, σ15, hc16, h⟩ := nd_bind_e h
    refine nd_cvi [.int (x1 - (9 : Int32))] [] dX10_look_152 cl_X10_323 (sh_3 t) ⟨Nat.le_of_ble_eq_true rfl, Nat.le_of_ble_eq_true rfl⟩ rfl (Nat.le_of_ble_eq_true rfl) hL (t_X5_linesOf F 3 (nd_SH ++ t) hL (is_Rules_3 t) _ _ hc16) ?_
    exact nd_iret dX10_look_155 (Nat.zero_le _) (Nat.zero_le _) (vp_nar_int _) (by cases h; exact ⟨rfl, rfl, rfl⟩)
  rcases nd_ite_e h with ⟨c17, h⟩ | ⟨c17, h⟩
  · refine nd_tin dX10_look_1 10 (by rw [c17] <;> decide) (by rw [c17] <;> decide) rfl 144 (by decide) ?_
    refine nd_aload_n dX10_look_144 0 rfl ?_
    refine nd_get dX10_look_145 gf_X10_19 (sh_0 t) rfl ?_
    refine nd_iload_n dX10_look_148 1 rfl ?_
    refine nd_bipush dX10_look_149 ib_9 ?_
    refine nd_isub dX10_look_151 ?_
    obtain ⟨r18, σ19, hc20, h⟩ := nd_bind_e h
    refine nd_cvi [.int (x1 - (9 : Int32))] [] dX10_look_152 cl_X10_323 (sh_3 t) ⟨Nat.le_of_ble_eq_true rfl, Nat.le_of_ble_eq_true rfl⟩ rfl (Nat.le_of_ble_eq_true rfl) hL (t_X5_linesOf F 3 (nd_SH ++ t) hL (is_Rules_3 t) _ _ hc20) ?_
    exact nd_iret dX10_look_155 (Nat.zero_le _) (Nat.zero_le _) (vp_nar_int _) (by cases h; exact ⟨rfl, rfl, rfl⟩)
  rcases nd_ite_e h with ⟨c21, h⟩ | ⟨c21, h⟩
  · refine nd_tin dX10_look_1 11 (by rw [c21] <;> decide) (by rw [c21] <;> decide) rfl 144 (by decide) ?_
    refine nd_aload_n dX10_look_144 0 rfl ?_
    refine nd_get dX10_look_145 gf_X10_19 (sh_0 t) rfl ?_
    refine nd_iload_n dX10_look_148 1 rfl ?_
    refine nd_bipush dX10_look_149 ib_9 ?_
    refine nd_isub dX10_look_151 ?_
    obtain ⟨r22, σ23, hc24, h⟩ := nd_bind_e h
    refine nd_cvi [.int (x1 - (9 : Int32))] [] dX10_look_152 cl_X10_323 (sh_3 t) ⟨Nat.le_of_ble_eq_true rfl, Nat.le_of_ble_eq_true rfl⟩ rfl (Nat.le_of_ble_eq_true rfl) hL (t_X5_linesOf F 3 (nd_SH ++ t) hL (is_Rules_3 t) _ _ hc24) ?_
    exact nd_iret dX10_look_155 (Nat.zero_le _) (Nat.zero_le _) (vp_nar_int _) (by cases h; exact ⟨rfl, rfl, rfl⟩)
  rcases nd_ite_e h with ⟨c25, h⟩ | ⟨c25, h⟩
  · refine nd_tin dX10_look_1 12 (by rw [c25] <;> decide) (by rw [c25] <;> decide) rfl 144 (by decide) ?_
    refine nd_aload_n dX10_look_144 0 rfl ?_
    refine nd_get dX10_look_145 gf_X10_19 (sh_0 t) rfl ?_
    refine nd_iload_n dX10_look_148 1 rfl ?_
    refine nd_bipush dX10_look_149 ib_9 ?_
    refine nd_isub dX10_look_151 ?_
    obtain ⟨r26, σ27, hc28, h⟩ := nd_bind_e h
    refine nd_cvi [.int (x1 - (9 : Int32))] [] dX10_look_152 cl_X10_323 (sh_3 t) ⟨Nat.le_of_ble_eq_true rfl, Nat.le_of_ble_eq_true rfl⟩ rfl (Nat.le_of_ble_eq_true rfl) hL (t_X5_linesOf F 3 (nd_SH ++ t) hL (is_Rules_3 t) _ _ hc28) ?_
    exact nd_iret dX10_look_155 (Nat.zero_le _) (Nat.zero_le _) (vp_nar_int _) (by cases h; exact ⟨rfl, rfl, rfl⟩)
  rcases nd_ite_e h with ⟨c29, h⟩ | ⟨c29, h⟩
  · refine nd_tin dX10_look_1 13 (by rw [c29] <;> decide) (by rw [c29] <;> decide) rfl 156 (by decide) ?_
    refine nd_aload_n dX10_look_156 0 rfl ?_
    refine nd_get dX10_look_157 gf_X10_37 (sh_0 t) rfl ?_
    refine nd_get dX10_look_160 gf_X10_326 (sh_24 t) rfl ?_
    exact nd_iret dX10_look_163 (Nat.zero_le _) (Nat.zero_le _) (vp_nar_int _) (by cases h; exact ⟨rfl, rfl, rfl⟩)
  refine nd_tout dX10_look_1 (fun j h1 h2 => ?_) 164 (by decide) ?_
  · rcases (show j = 0 ∨ j = 1 ∨ j = 2 ∨ j = 3 ∨ j = 4 ∨ j = 5 ∨ j = 6 ∨ j = 7 ∨ j = 8 ∨ j = 9 ∨ j = 10 ∨ j = 11 ∨ j = 12 ∨ j = 13 by omega) with rfl | rfl | rfl | rfl | rfl | rfl | rfl | rfl | rfl | rfl | rfl | rfl | rfl | rfl
    · exact fun e => c1 (e.trans ic_0)
    · exact fun e => c2 (e.trans ic_1)
    · exact fun e => c3 (e.trans ic_2)
    · exact fun e => c4 (e.trans ic_3)
    · exact fun e => c5 (e.trans ic_4)
    · exact fun e => c6 (e.trans ic_5)
    · exact fun e => c10 (e.trans ic_6)
    · exact fun e => c11 (e.trans ic_7)
    · exact fun e => c12 (e.trans ic_8)
    · exact fun e => c13 (e.trans ic_9)
    · exact fun e => c17 (e.trans ic_10)
    · exact fun e => c21 (e.trans ic_11)
    · exact fun e => c25 (e.trans ic_12)
    · exact fun e => c29 (e.trans ic_13)
  · refine nd_ldcw dX10_look_164 kc_X10_327 ?_
    exact nd_iret dX10_look_167 (Nat.zero_le _) (Nat.zero_le _) (vp_nar_int _) (by cases h; exact ⟨rfl, rfl, rfl⟩)
def f_X10_order_11 (F : Nat) (σ : nd_Mem) : nd_Res := (some ((-1 : Int32), σ))
def f_X10_order_48 (F : Nat) (x1 : Int32) (x2 : Int32) (x3 : Int32) (s0 : Int32) (σ : nd_Mem) : nd_Res := (if s0 = 0 then (some ((-1 : Int32), σ)) else (nd_bind (f_X0_placeBehind F x1 x2 x3 σ) fun r1 σ2 => (some (r1, σ2))))
def f_X10_order_47 (F : Nat) (x1 : Int32) (x2 : Int32) (x3 : Int32) (σ : nd_Mem) : nd_Res := (f_X10_order_48 F x1 x2 x3 (0 : Int32) σ)
def f_X10_order (F : Nat) (x1 : Int32) (x2 : Int32) (x3 : Int32) (σ : nd_Mem) : nd_Res := (if x1 < (1 : Int32) then (f_X10_order_11 F σ) else (if x1 ≤ (52 : Int32) then (if x2 = (-1 : Int32) then (nd_bind (f_X0_inOrderBehind F x1 σ) fun r1 σ2 => (some (r1, σ2))) else (if x2 < 0 then (f_X10_order_47 F x1 x2 x3 σ) else (if x1 ≤ x2 then (f_X10_order_47 F x1 x2 x3 σ) else (if x3 < 0 then (f_X10_order_47 F x1 x2 x3 σ) else (if (1000 : Int32) < x3 then (f_X10_order_47 F x1 x2 x3 σ) else (f_X10_order_48 F x1 x2 x3 (1 : Int32) σ)))))) else (f_X10_order_11 F σ)))
set_option maxRecDepth 100000 in
set_option maxHeartbeats 4000000 in
theorem b_X10_order_11 (F : Nat) (t : List nd_S) (hL : (nd_SH ++ t).length < nd_ro) {z : Int32 × nd_Mem} (σ : nd_Mem) (h : f_X10_order_11 F σ = some z) : nd_V M_X10_order (nd_rm 2) (nd_Pi (nd_SH ++ t) z) 0 0 11 [(0, .ref 0)] [] (nd_SH ++ t) σ := by
  unfold f_X10_order_11 at h
  refine nd_iconst dX10_order_11 ic_m1 ?_
  exact nd_iret dX10_order_12 (Nat.zero_le _) (Nat.zero_le _) (vp_nar_int _) (by cases h; exact ⟨rfl, rfl, rfl⟩)
set_option maxRecDepth 100000 in
set_option maxHeartbeats 4000000 in
theorem b_X10_order_48 (F : Nat) (t : List nd_S) (hL : (nd_SH ++ t).length < nd_ro) {z : Int32 × nd_Mem} (x1 : Int32) (x2 : Int32) (x3 : Int32) (s0 : Int32) (σ : nd_Mem) (h : f_X10_order_48 F x1 x2 x3 s0 σ = some z) : nd_V M_X10_order (nd_rm 2) (nd_Pi (nd_SH ++ t) z) 0 0 48 [(0, .ref 0), (1, .int x1), (2, .int x2), (3, .int x3)] [.int s0] (nd_SH ++ t) σ := by
  unfold f_X10_order_48 at h
  refine nd_istore (ls' := [(4, .int s0), (0, .ref 0), (1, .int x1), (2, .int x2), (3, .int x3)]) dX10_order_48 (by decide) rfl ?_
  refine nd_iload dX10_order_50 0 rfl ?_
  refine nd_if_eqN dX10_order_52 64 (by decide) h (fun h => ?_) (fun h => ?_)
  · refine nd_iconst dX10_order_64 ic_m1 ?_
    exact nd_iret dX10_order_65 (Nat.zero_le _) (Nat.zero_le _) (vp_nar_int _) (by cases h; exact ⟨rfl, rfl, rfl⟩)
  · refine nd_iload_n dX10_order_55 2 rfl ?_
    refine nd_iload_n dX10_order_56 3 rfl ?_
    refine nd_iload_n dX10_order_57 4 rfl ?_
    obtain ⟨r1, σ2, hc3, h⟩ := nd_bind_e h
    refine nd_csi [.int x1, .int x2, .int x3] [] dX10_order_58 cl_X10_286 ⟨Nat.le_of_ble_eq_true rfl, Nat.le_of_ble_eq_true rfl⟩ rfl (Nat.le_of_ble_eq_true rfl) hL (t_X0_placeBehind F (nd_SH ++ t) hL _ _ _ _ hc3) ?_
    refine nd_goto dX10_order_61 65 (by decide) ?_
    exact nd_iret dX10_order_65 (Nat.zero_le _) (Nat.zero_le _) (vp_nar_int _) (by cases h; exact ⟨rfl, rfl, rfl⟩)
set_option maxRecDepth 100000 in
set_option maxHeartbeats 4000000 in
theorem b_X10_order_47 (F : Nat) (t : List nd_S) (hL : (nd_SH ++ t).length < nd_ro) {z : Int32 × nd_Mem} (x1 : Int32) (x2 : Int32) (x3 : Int32) (σ : nd_Mem) (h : f_X10_order_47 F x1 x2 x3 σ = some z) : nd_V M_X10_order (nd_rm 2) (nd_Pi (nd_SH ++ t) z) 0 0 47 [(0, .ref 0), (1, .int x1), (2, .int x2), (3, .int x3)] [] (nd_SH ++ t) σ := by
  unfold f_X10_order_47 at h
  refine nd_iconst dX10_order_47 ic_0 ?_
  exact b_X10_order_48 F t hL _ _ _ _ _ h
set_option maxRecDepth 100000 in
set_option maxHeartbeats 4000000 in
theorem t_X10_order (F : Nat) (t : List nd_S) (hL : (nd_SH ++ t).length < nd_ro) {z : Int32 × nd_Mem} (x1 : Int32) (x2 : Int32) (x3 : Int32) (σ : nd_Mem) (h : f_X10_order F x1 x2 x3 σ = some z) : nd_Fn M_X10_order (nd_rm 2) [.ref 0, .int x1, .int x2, .int x3] (nd_SH ++ t) σ (nd_Pi (nd_SH ++ t) z) := by
  refine nd_Fn.ofV (ls := [(0, .ref 0), (1, .int x1), (2, .int x2), (3, .int x3)]) pl_X10_order rfl (fun _ => Nat.le_of_ble_eq_true rfl) (fun _ => rfl) ?_
  unfold f_X10_order at h
  refine nd_iload_n dX10_order_0 1 rfl ?_
  refine nd_iconst dX10_order_1 ic_1 ?_
  refine nd_icmp_ltN dX10_order_2 11 (by decide) h (fun h => ?_) (fun h => ?_)
  · refine nd_sub [0] rfl ?_
    exact b_X10_order_11 F t hL _ h
  · refine nd_iload_n dX10_order_5 1 rfl ?_
    refine nd_bipush dX10_order_6 ib_52 ?_
    refine nd_icmp_leN dX10_order_8 13 (by decide) h (fun h => ?_) (fun h => ?_)
    · refine nd_iload_n dX10_order_13 2 rfl ?_
      refine nd_iconst dX10_order_14 ic_m1 ?_
      refine nd_icmp_neN dX10_order_15 23 (by decide) h (fun h => ?_) (fun h => ?_)
      · refine nd_iload_n dX10_order_23 2 rfl ?_
        refine nd_if_ltN dX10_order_24 47 (by decide) h (fun h => ?_) (fun h => ?_)
        · exact b_X10_order_47 F t hL _ _ _ _ h
        · refine nd_iload_n dX10_order_27 2 rfl ?_
          refine nd_iload_n dX10_order_28 1 rfl ?_
          refine nd_icmp_geN dX10_order_29 47 (by decide) h (fun h => ?_) (fun h => ?_)
          · exact b_X10_order_47 F t hL _ _ _ _ h
          · refine nd_iload_n dX10_order_32 3 rfl ?_
            refine nd_if_ltN dX10_order_33 47 (by decide) h (fun h => ?_) (fun h => ?_)
            · exact b_X10_order_47 F t hL _ _ _ _ h
            · refine nd_iload_n dX10_order_36 3 rfl ?_
              refine nd_sipush dX10_order_37 is_1000 ?_
              refine nd_icmp_gtN dX10_order_40 47 (by decide) h (fun h => ?_) (fun h => ?_)
              · exact b_X10_order_47 F t hL _ _ _ _ h
              · refine nd_iconst dX10_order_43 ic_1 ?_
                refine nd_goto dX10_order_44 48 (by decide) ?_
                exact b_X10_order_48 F t hL _ _ _ _ _ h
      · refine nd_iload_n dX10_order_18 1 rfl ?_
        obtain ⟨r1, σ2, hc3, h⟩ := nd_bind_e h
        refine nd_csi [.int x1] [] dX10_order_19 cl_X10_283 ⟨Nat.le_of_ble_eq_true rfl, Nat.le_of_ble_eq_true rfl⟩ rfl (Nat.le_of_ble_eq_true rfl) hL (t_X0_inOrderBehind F (nd_SH ++ t) hL _ _ hc3) ?_
        exact nd_iret dX10_order_22 (Nat.zero_le _) (Nat.zero_le _) (vp_nar_int _) (by cases h; exact ⟨rfl, rfl, rfl⟩)
    · refine nd_sub [0] rfl ?_
      exact b_X10_order_11 F t hL _ h
def f_X10_planned (F : Nat) (x1 : Int32) (σ : nd_Mem) : nd_Res := (if x1 = (0 : Int32) then (nd_bind (f_X7_changesForNoGirlsTogether F σ) fun r2 σ3 => (some (r2, σ3))) else (if x1 = (1 : Int32) then (nd_bind (f_X7_changesForTurns F σ) fun r6 σ7 => (some (r6, σ7))) else (some ((-1 : Int32), σ))))
set_option maxRecDepth 100000 in
set_option maxHeartbeats 4000000 in
theorem t_X10_planned (F : Nat) (t : List nd_S) (hL : (nd_SH ++ t).length < nd_ro) {z : Int32 × nd_Mem} (x1 : Int32) (σ : nd_Mem) (h : f_X10_planned F x1 σ = some z) : nd_Fn M_X10_planned (nd_rm 2) [.ref 0, .int x1] (nd_SH ++ t) σ (nd_Pi (nd_SH ++ t) z) := by
  refine nd_Fn.ofV (ls := [(0, .ref 0), (1, .int x1)]) pl_X10_planned rfl (fun _ => Nat.le_of_ble_eq_true rfl) (fun _ => rfl) ?_
  unfold f_X10_planned at h
  refine nd_iload_n dX10_planned_0 1 rfl ?_
  rcases nd_ite_e h with ⟨c1, h⟩ | ⟨c1, h⟩
  · refine nd_look dX10_planned_1 (by decide) (by rw [c1] <;> decide) 28 (by decide) ?_
    refine nd_aload_n dX10_planned_28 0 rfl ?_
    refine nd_get dX10_planned_29 gf_X10_68 (sh_0 t) rfl ?_
    obtain ⟨r2, σ3, hc4, h⟩ := nd_bind_e h
    refine nd_cvi [] [] dX10_planned_32 cl_X10_204 (sh_57 t) ⟨Nat.le_of_ble_eq_true rfl, Nat.le_of_ble_eq_true rfl⟩ rfl (Nat.le_of_ble_eq_true rfl) hL (t_X7_changesForNoGirlsTogether F t hL _ hc4) ?_
    exact nd_iret dX10_planned_35 (Nat.zero_le _) (Nat.zero_le _) (vp_nar_int _) (by cases h; exact ⟨rfl, rfl, rfl⟩)
  rcases nd_ite_e h with ⟨c5, h⟩ | ⟨c5, h⟩
  · refine nd_look dX10_planned_1 (by decide) (by rw [c5] <;> decide) 36 (by decide) ?_
    refine nd_aload_n dX10_planned_36 0 rfl ?_
    refine nd_get dX10_planned_37 gf_X10_68 (sh_0 t) rfl ?_
    obtain ⟨r6, σ7, hc8, h⟩ := nd_bind_e h
    refine nd_cvi [] [] dX10_planned_40 cl_X10_207 (sh_57 t) ⟨Nat.le_of_ble_eq_true rfl, Nat.le_of_ble_eq_true rfl⟩ rfl (Nat.le_of_ble_eq_true rfl) hL (t_X7_changesForTurns F t hL _ hc8) ?_
    exact nd_iret dX10_planned_43 (Nat.zero_le _) (Nat.zero_le _) (vp_nar_int _) (by cases h; exact ⟨rfl, rfl, rfl⟩)
  refine nd_look dX10_planned_1 (by decide) (nd_lookD _ ?_) 44 (by decide) ?_
  · intro q hq
    simp only [List.mem_cons, List.not_mem_nil, or_false] at hq
    rcases hq with rfl | rfl
    · exact fun e => c1 (e.trans ic_0)
    · exact fun e => c5 (e.trans ic_1)
  · refine nd_iconst dX10_planned_44 ic_m1 ?_
    exact nd_iret dX10_planned_45 (Nat.zero_le _) (Nat.zero_le _) (vp_nar_int _) (by cases h; exact ⟨rfl, rfl, rfl⟩)
def f_X10_pushed_18 (F : Nat) (σ : nd_Mem) : nd_Res := (some ((-1 : Int32), σ))
def f_X10_pushed (F : Nat) (x1 : Int32) (σ : nd_Mem) : nd_Res := (if x1 < 0 then (f_X10_pushed_18 F σ) else (if x1 ≤ (σ 17 1) then (nd_bind (f_X7_pushAll F σ) fun r1 σ2 => (if x1 = 0 then (some (r1, σ2)) else (nd_bind (f_X7_leftWith F (x1 - (1 : Int32)) σ2) fun r4 σ5 => (some (r4, σ5))))) else (f_X10_pushed_18 F σ)))
set_option maxRecDepth 100000 in
set_option maxHeartbeats 4000000 in
theorem b_X10_pushed_18 (F : Nat) (t : List nd_S) (hL : (nd_SH ++ t).length < nd_ro) {z : Int32 × nd_Mem} (σ : nd_Mem) (h : f_X10_pushed_18 F σ = some z) : nd_V M_X10_pushed (nd_rm 2) (nd_Pi (nd_SH ++ t) z) 0 0 18 [(0, .ref 0)] [] (nd_SH ++ t) σ := by
  unfold f_X10_pushed_18 at h
  refine nd_iconst dX10_pushed_18 ic_m1 ?_
  exact nd_iret dX10_pushed_19 (Nat.zero_le _) (Nat.zero_le _) (vp_nar_int _) (by cases h; exact ⟨rfl, rfl, rfl⟩)
set_option maxRecDepth 100000 in
set_option maxHeartbeats 4000000 in
theorem t_X10_pushed (F : Nat) (t : List nd_S) (hL : (nd_SH ++ t).length < nd_ro) {z : Int32 × nd_Mem} (x1 : Int32) (σ : nd_Mem) (h : f_X10_pushed F x1 σ = some z) : nd_Fn M_X10_pushed (nd_rm 2) [.ref 0, .int x1] (nd_SH ++ t) σ (nd_Pi (nd_SH ++ t) z) := by
  refine nd_Fn.ofV (ls := [(0, .ref 0), (1, .int x1)]) pl_X10_pushed rfl (fun _ => Nat.le_of_ble_eq_true rfl) (fun _ => rfl) ?_
  unfold f_X10_pushed at h
  refine nd_iload_n dX10_pushed_0 1 rfl ?_
  refine nd_if_ltN dX10_pushed_1 18 (by decide) h (fun h => ?_) (fun h => ?_)
  · refine nd_sub [0] rfl ?_
    exact b_X10_pushed_18 F t hL _ h
  · refine nd_iload_n dX10_pushed_4 1 rfl ?_
    refine nd_aload_n dX10_pushed_5 0 rfl ?_
    refine nd_get dX10_pushed_6 gf_X10_30 (sh_0 t) rfl ?_
    refine nd_get dX10_pushed_9 gf_X10_234 (sh_12 t) rfl ?_
    refine nd_get dX10_pushed_12 gf_X10_236 (sh_17 t) rfl ?_
    refine nd_icmp_leN dX10_pushed_15 20 (by decide) h (fun h => ?_) (fun h => ?_)
    · refine nd_aload_n dX10_pushed_20 0 rfl ?_
      refine nd_get dX10_pushed_21 gf_X10_68 (sh_0 t) rfl ?_
      obtain ⟨r1, σ2, hc3, h⟩ := nd_bind_e h
      refine nd_cvi [] [] dX10_pushed_24 cl_X10_239 (sh_57 t) ⟨Nat.le_of_ble_eq_true rfl, Nat.le_of_ble_eq_true rfl⟩ rfl (Nat.le_of_ble_eq_true rfl) hL (t_X7_pushAll F t hL _ hc3) ?_
      refine nd_istore_n (ls' := [(2, .int r1), (0, .ref 0), (1, .int x1)]) dX10_pushed_27 (by decide) rfl ?_
      refine nd_iload_n dX10_pushed_28 2 rfl ?_
      refine nd_if_neN dX10_pushed_29 36 (by decide) h (fun h => ?_) (fun h => ?_)
      · refine nd_aload_n dX10_pushed_36 1 rfl ?_
        refine nd_get dX10_pushed_37 gf_X10_68 (sh_0 t) rfl ?_
        refine nd_iload_n dX10_pushed_40 2 rfl ?_
        refine nd_iconst dX10_pushed_41 ic_1 ?_
        refine nd_isub dX10_pushed_42 ?_
        obtain ⟨r4, σ5, hc6, h⟩ := nd_bind_e h
        refine nd_cvi [.int (x1 - (1 : Int32))] [] dX10_pushed_43 cl_X10_242 (sh_57 t) ⟨Nat.le_of_ble_eq_true rfl, Nat.le_of_ble_eq_true rfl⟩ rfl (Nat.le_of_ble_eq_true rfl) hL (t_X7_leftWith F t hL _ _ hc6) ?_
        exact nd_iret dX10_pushed_46 (Nat.zero_le _) (Nat.zero_le _) (vp_nar_int _) (by cases h; exact ⟨rfl, rfl, rfl⟩)
      · refine nd_iload_n dX10_pushed_32 0 rfl ?_
        refine nd_goto dX10_pushed_33 46 (by decide) ?_
        exact nd_iret dX10_pushed_46 (Nat.zero_le _) (Nat.zero_le _) (vp_nar_int _) (by cases h; exact ⟨rfl, rfl, rfl⟩)
    · refine nd_sub [0] rfl ?_
      exact b_X10_pushed_18 F t hL _ h
def f_X10_rows_11 (F : Nat) (σ : nd_Mem) : nd_Res := (some ((-1 : Int32), σ))
def f_X10_rows (F : Nat) (x1 : Int32) (x2 : Int32) (σ : nd_Mem) : nd_Res := (if x1 < (2 : Int32) then (f_X10_rows_11 F σ) else (if x1 ≤ (9 : Int32) then (if x2 = (0 : Int32) then (nd_bind (f_X7_rowsSideBySide F x1 σ) fun r2 σ3 => (some (r2, σ3))) else (if x2 = (1 : Int32) then (nd_bind (f_X7_rowsBehind F x1 σ) fun r6 σ7 => (some (r6, σ7))) else (some ((-1 : Int32), σ)))) else (f_X10_rows_11 F σ)))
set_option maxRecDepth 100000 in
set_option maxHeartbeats 4000000 in
theorem b_X10_rows_11 (F : Nat) (t : List nd_S) (hL : (nd_SH ++ t).length < nd_ro) {z : Int32 × nd_Mem} (σ : nd_Mem) (h : f_X10_rows_11 F σ = some z) : nd_V M_X10_rows (nd_rm 2) (nd_Pi (nd_SH ++ t) z) 0 0 11 [(0, .ref 0)] [] (nd_SH ++ t) σ := by
  unfold f_X10_rows_11 at h
  refine nd_iconst dX10_rows_11 ic_m1 ?_
  exact nd_iret dX10_rows_12 (Nat.zero_le _) (Nat.zero_le _) (vp_nar_int _) (by cases h; exact ⟨rfl, rfl, rfl⟩)
set_option maxRecDepth 100000 in
set_option maxHeartbeats 4000000 in
theorem t_X10_rows (F : Nat) (t : List nd_S) (hL : (nd_SH ++ t).length < nd_ro) {z : Int32 × nd_Mem} (x1 : Int32) (x2 : Int32) (σ : nd_Mem) (h : f_X10_rows F x1 x2 σ = some z) : nd_Fn M_X10_rows (nd_rm 2) [.ref 0, .int x1, .int x2] (nd_SH ++ t) σ (nd_Pi (nd_SH ++ t) z) := by
  refine nd_Fn.ofV (ls := [(0, .ref 0), (1, .int x1), (2, .int x2)]) pl_X10_rows rfl (fun _ => Nat.le_of_ble_eq_true rfl) (fun _ => rfl) ?_
  unfold f_X10_rows at h
  refine nd_iload_n dX10_rows_0 1 rfl ?_
  refine nd_iconst dX10_rows_1 ic_2 ?_
  refine nd_icmp_ltN dX10_rows_2 11 (by decide) h (fun h => ?_) (fun h => ?_)
  · refine nd_sub [0] rfl ?_
    exact b_X10_rows_11 F t hL _ h
  · refine nd_iload_n dX10_rows_5 1 rfl ?_
    refine nd_bipush dX10_rows_6 ib_9 ?_
    refine nd_icmp_leN dX10_rows_8 13 (by decide) h (fun h => ?_) (fun h => ?_)
    · refine nd_iload_n dX10_rows_13 2 rfl ?_
      rcases nd_ite_e h with ⟨c1, h⟩ | ⟨c1, h⟩
      · refine nd_look dX10_rows_14 (by decide) (by rw [c1] <;> decide) 40 (by decide) ?_
        refine nd_aload_n dX10_rows_40 0 rfl ?_
        refine nd_get dX10_rows_41 gf_X10_68 (sh_0 t) rfl ?_
        refine nd_iload_n dX10_rows_44 1 rfl ?_
        obtain ⟨r2, σ3, hc4, h⟩ := nd_bind_e h
        refine nd_cvi [.int x1] [] dX10_rows_45 cl_X10_228 (sh_57 t) ⟨Nat.le_of_ble_eq_true rfl, Nat.le_of_ble_eq_true rfl⟩ rfl (Nat.le_of_ble_eq_true rfl) hL (t_X7_rowsSideBySide F t hL _ _ hc4) ?_
        exact nd_iret dX10_rows_48 (Nat.zero_le _) (Nat.zero_le _) (vp_nar_int _) (by cases h; exact ⟨rfl, rfl, rfl⟩)
      rcases nd_ite_e h with ⟨c5, h⟩ | ⟨c5, h⟩
      · refine nd_look dX10_rows_14 (by decide) (by rw [c5] <;> decide) 49 (by decide) ?_
        refine nd_aload_n dX10_rows_49 0 rfl ?_
        refine nd_get dX10_rows_50 gf_X10_68 (sh_0 t) rfl ?_
        refine nd_iload_n dX10_rows_53 1 rfl ?_
        obtain ⟨r6, σ7, hc8, h⟩ := nd_bind_e h
        refine nd_cvi [.int x1] [] dX10_rows_54 cl_X10_231 (sh_57 t) ⟨Nat.le_of_ble_eq_true rfl, Nat.le_of_ble_eq_true rfl⟩ rfl (Nat.le_of_ble_eq_true rfl) hL (t_X7_rowsBehind F t hL _ _ hc8) ?_
        exact nd_iret dX10_rows_57 (Nat.zero_le _) (Nat.zero_le _) (vp_nar_int _) (by cases h; exact ⟨rfl, rfl, rfl⟩)
      refine nd_look dX10_rows_14 (by decide) (nd_lookD _ ?_) 58 (by decide) ?_
      · intro q hq
        simp only [List.mem_cons, List.not_mem_nil, or_false] at hq
        rcases hq with rfl | rfl
        · exact fun e => c1 (e.trans ic_0)
        · exact fun e => c5 (e.trans ic_1)
      · refine nd_iconst dX10_rows_58 ic_m1 ?_
        exact nd_iret dX10_rows_59 (Nat.zero_le _) (Nat.zero_le _) (vp_nar_int _) (by cases h; exact ⟨rfl, rfl, rfl⟩)
    · refine nd_sub [0] rfl ?_
      exact b_X10_rows_11 F t hL _ h
def f_X10_siding (F : Nat) (x1 : Int32) (x2 : Int32) (σ : nd_Mem) : nd_Res := (nd_bind (f_X0_wagons F x1 σ) fun r1 σ2 => (if r1 = (-1 : Int32) then (some ((-1 : Int32), σ2)) else (if x2 = (0 : Int32) then (nd_bind (f_X0_mostInSiding F x1 r1 σ2) fun r5 σ6 => (if r5 = (-1 : Int32) then (some ((0 : Int32), σ6)) else (some ((1 : Int32), σ6)))) else (if x2 = (1 : Int32) then (nd_bind (f_X0_mostInSiding F x1 r1 σ2) fun r9 σ10 => (some (r9, σ10))) else (if x2 = (2 : Int32) then (nd_bind (f_X0_rowsThatGo F r1 σ2) fun r13 σ14 => (some (r13, σ14))) else (some ((-1 : Int32), σ2)))))))
set_option maxRecDepth 100000 in
set_option maxHeartbeats 4000000 in
theorem t_X10_siding (F : Nat) (t : List nd_S) (hL : (nd_SH ++ t).length < nd_ro) {z : Int32 × nd_Mem} (x1 : Int32) (x2 : Int32) (σ : nd_Mem) (h : f_X10_siding F x1 x2 σ = some z) : nd_Fn M_X10_siding (nd_rm 2) [.ref 0, .int x1, .int x2] (nd_SH ++ t) σ (nd_Pi (nd_SH ++ t) z) := by
  refine nd_Fn.ofV (ls := [(0, .ref 0), (1, .int x1), (2, .int x2)]) pl_X10_siding rfl (fun _ => Nat.le_of_ble_eq_true rfl) (fun _ => rfl) ?_
  unfold f_X10_siding at h
  refine nd_iload_n dX10_siding_0 1 rfl ?_
  obtain ⟨r1, σ2, hc3, h⟩ := nd_bind_e h
  refine nd_csi [.int x1] [] dX10_siding_1 cl_X10_210 ⟨Nat.le_of_ble_eq_true rfl, Nat.le_of_ble_eq_true rfl⟩ rfl (Nat.le_of_ble_eq_true rfl) hL (t_X0_wagons F (nd_SH ++ t) hL _ _ hc3) ?_
  refine nd_istore_n (ls' := [(3, .int r1), (0, .ref 0), (1, .int x1), (2, .int x2)]) dX10_siding_4 (by decide) rfl ?_
  refine nd_iload_n dX10_siding_5 0 rfl ?_
  refine nd_iconst dX10_siding_6 ic_m1 ?_
  refine nd_icmp_neN dX10_siding_7 12 (by decide) h (fun h => ?_) (fun h => ?_)
  · refine nd_iload_n dX10_siding_12 3 rfl ?_
    rcases nd_ite_e h with ⟨c4, h⟩ | ⟨c4, h⟩
    · refine nd_tin dX10_siding_13 0 (by rw [c4] <;> decide) (by rw [c4] <;> decide) rfl 40 (by decide) ?_
      refine nd_iload_n dX10_siding_40 2 rfl ?_
      refine nd_iload_n dX10_siding_41 0 rfl ?_
      obtain ⟨r5, σ6, hc7, h⟩ := nd_bind_e h
      refine nd_csi [.int x1, .int r1] [] dX10_siding_42 cl_X10_213 ⟨Nat.le_of_ble_eq_true rfl, Nat.le_of_ble_eq_true rfl⟩ rfl (Nat.le_of_ble_eq_true rfl) hL (t_X0_mostInSiding F (nd_SH ++ t) hL _ _ _ hc7) ?_
      refine nd_iconst dX10_siding_45 ic_m1 ?_
      refine nd_icmp_neN dX10_siding_46 53 (by decide) h (fun h => ?_) (fun h => ?_)
      · refine nd_iconst dX10_siding_53 ic_1 ?_
        exact nd_iret dX10_siding_54 (Nat.zero_le _) (Nat.zero_le _) (vp_nar_int _) (by cases h; exact ⟨rfl, rfl, rfl⟩)
      · refine nd_iconst dX10_siding_49 ic_0 ?_
        refine nd_goto dX10_siding_50 54 (by decide) ?_
        exact nd_iret dX10_siding_54 (Nat.zero_le _) (Nat.zero_le _) (vp_nar_int _) (by cases h; exact ⟨rfl, rfl, rfl⟩)
    rcases nd_ite_e h with ⟨c8, h⟩ | ⟨c8, h⟩
    · refine nd_tin dX10_siding_13 1 (by rw [c8] <;> decide) (by rw [c8] <;> decide) rfl 55 (by decide) ?_
      refine nd_iload_n dX10_siding_55 2 rfl ?_
      refine nd_iload_n dX10_siding_56 0 rfl ?_
      obtain ⟨r9, σ10, hc11, h⟩ := nd_bind_e h
      refine nd_csi [.int x1, .int r1] [] dX10_siding_57 cl_X10_213 ⟨Nat.le_of_ble_eq_true rfl, Nat.le_of_ble_eq_true rfl⟩ rfl (Nat.le_of_ble_eq_true rfl) hL (t_X0_mostInSiding F (nd_SH ++ t) hL _ _ _ hc11) ?_
      exact nd_iret dX10_siding_60 (Nat.zero_le _) (Nat.zero_le _) (vp_nar_int _) (by cases h; exact ⟨rfl, rfl, rfl⟩)
    rcases nd_ite_e h with ⟨c12, h⟩ | ⟨c12, h⟩
    · refine nd_tin dX10_siding_13 2 (by rw [c12] <;> decide) (by rw [c12] <;> decide) rfl 61 (by decide) ?_
      refine nd_iload_n dX10_siding_61 0 rfl ?_
      obtain ⟨r13, σ14, hc15, h⟩ := nd_bind_e h
      refine nd_csi [.int r1] [] dX10_siding_62 cl_X10_216 ⟨Nat.le_of_ble_eq_true rfl, Nat.le_of_ble_eq_true rfl⟩ rfl (Nat.le_of_ble_eq_true rfl) hL (t_X0_rowsThatGo F (nd_SH ++ t) hL _ _ hc15) ?_
      exact nd_iret dX10_siding_65 (Nat.zero_le _) (Nat.zero_le _) (vp_nar_int _) (by cases h; exact ⟨rfl, rfl, rfl⟩)
    refine nd_tout dX10_siding_13 (fun j h1 h2 => ?_) 66 (by decide) ?_
    · rcases (show j = 0 ∨ j = 1 ∨ j = 2 by omega) with rfl | rfl | rfl
      · exact fun e => c4 (e.trans ic_0)
      · exact fun e => c8 (e.trans ic_1)
      · exact fun e => c12 (e.trans ic_2)
    · refine nd_iconst dX10_siding_66 ic_m1 ?_
      exact nd_iret dX10_siding_67 (Nat.zero_le _) (Nat.zero_le _) (vp_nar_int _) (by cases h; exact ⟨rfl, rfl, rfl⟩)
  · refine nd_iconst dX10_siding_10 ic_m1 ?_
    exact nd_iret dX10_siding_11 (Nat.zero_le _) (Nat.zero_le _) (vp_nar_int _) (by cases h; exact ⟨rfl, rfl, rfl⟩)
def f_X10_streets_21 (F : Nat) (σ : nd_Mem) : nd_Res := (some ((-1 : Int32), σ))
def f_X10_streets (F : Nat) (x1 : Int32) (x2 : Int32) (x3 : Int32) (σ : nd_Mem) : nd_Res := (if x1 < (1 : Int32) then (f_X10_streets_21 F σ) else (if (12 : Int32) < x1 then (f_X10_streets_21 F σ) else (if x2 < (1 : Int32) then (f_X10_streets_21 F σ) else (if x2 ≤ (4 : Int32) then (if x3 = (0 : Int32) then (nd_bind (f_X0_sameTurned F x1 x2 σ) fun r2 σ3 => (if x1 = 0 then none else (some ((r2 / x1), σ3)))) else (if x3 = (1 : Int32) then (nd_bind (f_X0_sameTurned F x1 x2 σ) fun r6 σ7 => (nd_bind (f_X0_sameFromBehind F x1 x2 σ7) fun r9 σ10 => (if ((2 : Int32) * x1) = 0 then none else (some (((r6 + r9) / ((2 : Int32) * x1)), σ10))))) else (some ((-1 : Int32), σ)))) else (f_X10_streets_21 F σ)))))
set_option maxRecDepth 100000 in
set_option maxHeartbeats 4000000 in
theorem b_X10_streets_21 (F : Nat) (t : List nd_S) (hL : (nd_SH ++ t).length < nd_ro) {z : Int32 × nd_Mem} (σ : nd_Mem) (h : f_X10_streets_21 F σ = some z) : nd_V M_X10_streets (nd_rm 2) (nd_Pi (nd_SH ++ t) z) 0 0 21 [(0, .ref 0)] [] (nd_SH ++ t) σ := by
  unfold f_X10_streets_21 at h
  refine nd_iconst dX10_streets_21 ic_m1 ?_
  exact nd_iret dX10_streets_22 (Nat.zero_le _) (Nat.zero_le _) (vp_nar_int _) (by cases h; exact ⟨rfl, rfl, rfl⟩)
set_option maxRecDepth 100000 in
set_option maxHeartbeats 4000000 in
theorem t_X10_streets (F : Nat) (t : List nd_S) (hL : (nd_SH ++ t).length < nd_ro) {z : Int32 × nd_Mem} (x1 : Int32) (x2 : Int32) (x3 : Int32) (σ : nd_Mem) (h : f_X10_streets F x1 x2 x3 σ = some z) : nd_Fn M_X10_streets (nd_rm 2) [.ref 0, .int x1, .int x2, .int x3] (nd_SH ++ t) σ (nd_Pi (nd_SH ++ t) z) := by
  refine nd_Fn.ofV (ls := [(0, .ref 0), (1, .int x1), (2, .int x2), (3, .int x3)]) pl_X10_streets rfl (fun _ => Nat.le_of_ble_eq_true rfl) (fun _ => rfl) ?_
  unfold f_X10_streets at h
  refine nd_iload_n dX10_streets_0 1 rfl ?_
  refine nd_iconst dX10_streets_1 ic_1 ?_
  refine nd_icmp_ltN dX10_streets_2 21 (by decide) h (fun h => ?_) (fun h => ?_)
  · refine nd_sub [0] rfl ?_
    exact b_X10_streets_21 F t hL _ h
  · refine nd_iload_n dX10_streets_5 1 rfl ?_
    refine nd_bipush dX10_streets_6 ib_12 ?_
    refine nd_icmp_gtN dX10_streets_8 21 (by decide) h (fun h => ?_) (fun h => ?_)
    · refine nd_sub [0] rfl ?_
      exact b_X10_streets_21 F t hL _ h
    · refine nd_iload_n dX10_streets_11 2 rfl ?_
      refine nd_iconst dX10_streets_12 ic_1 ?_
      refine nd_icmp_ltN dX10_streets_13 21 (by decide) h (fun h => ?_) (fun h => ?_)
      · refine nd_sub [0] rfl ?_
        exact b_X10_streets_21 F t hL _ h
      · refine nd_iload_n dX10_streets_16 2 rfl ?_
        refine nd_iconst dX10_streets_17 ic_4 ?_
        refine nd_icmp_leN dX10_streets_18 23 (by decide) h (fun h => ?_) (fun h => ?_)
        · refine nd_iload_n dX10_streets_23 3 rfl ?_
          rcases nd_ite_e h with ⟨c1, h⟩ | ⟨c1, h⟩
          · refine nd_look dX10_streets_24 (by decide) (by rw [c1] <;> decide) 52 (by decide) ?_
            refine nd_iload_n dX10_streets_52 1 rfl ?_
            refine nd_iload_n dX10_streets_53 2 rfl ?_
            obtain ⟨r2, σ3, hc4, h⟩ := nd_bind_e h
            refine nd_csi [.int x1, .int x2] [] dX10_streets_54 cl_X10_271 ⟨Nat.le_of_ble_eq_true rfl, Nat.le_of_ble_eq_true rfl⟩ rfl (Nat.le_of_ble_eq_true rfl) hL (t_X0_sameTurned F (nd_SH ++ t) hL _ _ _ hc4) ?_
            refine nd_iload_n dX10_streets_57 1 rfl ?_
            refine nd_idivN dX10_streets_58 h (fun h => ?_)
            exact nd_iret dX10_streets_59 (Nat.zero_le _) (Nat.zero_le _) (vp_nar_int _) (by cases h; exact ⟨rfl, rfl, rfl⟩)
          rcases nd_ite_e h with ⟨c5, h⟩ | ⟨c5, h⟩
          · refine nd_look dX10_streets_24 (by decide) (by rw [c5] <;> decide) 60 (by decide) ?_
            refine nd_iload_n dX10_streets_60 1 rfl ?_
            refine nd_iload_n dX10_streets_61 2 rfl ?_
            obtain ⟨r6, σ7, hc8, h⟩ := nd_bind_e h
            refine nd_csi [.int x1, .int x2] [] dX10_streets_62 cl_X10_271 ⟨Nat.le_of_ble_eq_true rfl, Nat.le_of_ble_eq_true rfl⟩ rfl (Nat.le_of_ble_eq_true rfl) hL (t_X0_sameTurned F (nd_SH ++ t) hL _ _ _ hc8) ?_
            refine nd_iload_n dX10_streets_65 1 rfl ?_
            refine nd_iload_n dX10_streets_66 2 rfl ?_
            obtain ⟨r9, σ10, hc11, h⟩ := nd_bind_e h
            refine nd_csi [.int x1, .int x2] [.int r6] dX10_streets_67 cl_X10_274 ⟨Nat.le_of_ble_eq_true rfl, Nat.le_of_ble_eq_true rfl⟩ rfl (Nat.le_of_ble_eq_true rfl) hL (t_X0_sameFromBehind F (nd_SH ++ t) hL _ _ _ hc11) ?_
            refine nd_iadd dX10_streets_70 ?_
            refine nd_iconst dX10_streets_71 ic_2 ?_
            refine nd_iload_n dX10_streets_72 1 rfl ?_
            refine nd_imul dX10_streets_73 ?_
            refine nd_idivN dX10_streets_74 h (fun h => ?_)
            exact nd_iret dX10_streets_75 (Nat.zero_le _) (Nat.zero_le _) (vp_nar_int _) (by cases h; exact ⟨rfl, rfl, rfl⟩)
          refine nd_look dX10_streets_24 (by decide) (nd_lookD _ ?_) 76 (by decide) ?_
          · intro q hq
            simp only [List.mem_cons, List.not_mem_nil, or_false] at hq
            rcases hq with rfl | rfl
            · exact fun e => c1 (e.trans ic_0)
            · exact fun e => c5 (e.trans ic_1)
          · refine nd_iconst dX10_streets_76 ic_m1 ?_
            exact nd_iret dX10_streets_77 (Nat.zero_le _) (Nat.zero_le _) (vp_nar_int _) (by cases h; exact ⟨rfl, rfl, rfl⟩)
        · refine nd_sub [0] rfl ?_
          exact b_X10_streets_21 F t hL _ h
def f_X10_akin_41 (F : Nat) (σ : nd_Mem) : nd_Res := (some ((-1 : Int32), σ))
def f_X10_akin (F : Nat) (x1 : Int32) (x2 : Int32) (x3 : Int32) (σ : nd_Mem) : nd_Res := (if x1 < 0 then (f_X10_akin_41 F σ) else (if (σ 19 1) ≤ x1 then (f_X10_akin_41 F σ) else (if x2 < 0 then (f_X10_akin_41 F σ) else (if (σ 19 1) ≤ x2 then (f_X10_akin_41 F σ) else (if x3 < 0 then (f_X10_akin_41 F σ) else (if x3 ≤ (1 : Int32) then (nd_bind (f_X7_kinship F (if x1 < x2 then x2 else x1) (if x2 < x1 then x2 else x1) σ) fun r1 σ2 => (nd_bind (f_X0_lowest F r1 (1048576 : Int32) x3 σ2) fun r4 σ5 => (some (r4, σ5)))) else (f_X10_akin_41 F σ)))))))
set_option maxRecDepth 100000 in
set_option maxHeartbeats 4000000 in
theorem b_X10_akin_41 (F : Nat) (t : List nd_S) (hL : (nd_SH ++ t).length < nd_ro) {z : Int32 × nd_Mem} (σ : nd_Mem) (h : f_X10_akin_41 F σ = some z) : nd_V M_X10_akin (nd_rm 3) (nd_Pi (nd_SH ++ t) z) 0 0 41 [(0, .ref 0)] [] (nd_SH ++ t) σ := by
  unfold f_X10_akin_41 at h
  refine nd_iconst dX10_akin_41 ic_m1 ?_
  exact nd_iret dX10_akin_42 (Nat.zero_le _) (Nat.zero_le _) (vp_nar_int _) (by cases h; exact ⟨rfl, rfl, rfl⟩)
set_option maxRecDepth 100000 in
set_option maxHeartbeats 4000000 in
theorem t_X10_akin (F : Nat) (t : List nd_S) (hL : (nd_SH ++ t).length < nd_ro) {z : Int32 × nd_Mem} (x1 : Int32) (x2 : Int32) (x3 : Int32) (σ : nd_Mem) (h : f_X10_akin F x1 x2 x3 σ = some z) : nd_Fn M_X10_akin (nd_rm 3) [.ref 0, .int x1, .int x2, .int x3] (nd_SH ++ t) σ (nd_Pi (nd_SH ++ t) z) := by
  refine nd_Fn.ofV (ls := [(0, .ref 0), (1, .int x1), (2, .int x2), (3, .int x3)]) pl_X10_akin rfl (fun _ => Nat.le_of_ble_eq_true rfl) (fun _ => rfl) ?_
  unfold f_X10_akin at h
  refine nd_aload_n dX10_akin_0 0 rfl ?_
  refine nd_get dX10_akin_1 gf_X10_30 (sh_0 t) rfl ?_
  refine nd_get dX10_akin_4 gf_X10_251 (sh_12 t) rfl ?_
  refine nd_get dX10_akin_7 gf_X10_236 (sh_19 t) rfl ?_
  refine nd_istore (ls' := [(4, .int (σ 19 1)), (0, .ref 0), (1, .int x1), (2, .int x2), (3, .int x3)]) dX10_akin_10 (by decide) rfl ?_
  refine nd_iload_n dX10_akin_12 2 rfl ?_
  refine nd_if_ltN dX10_akin_13 41 (by decide) h (fun h => ?_) (fun h => ?_)
  · refine nd_sub [1] rfl ?_
    exact b_X10_akin_41 F t hL _ h
  · refine nd_iload_n dX10_akin_16 2 rfl ?_
    refine nd_iload dX10_akin_17 0 rfl ?_
    refine nd_icmp_geN dX10_akin_19 41 (by decide) h (fun h => ?_) (fun h => ?_)
    · refine nd_sub [1] rfl ?_
      exact b_X10_akin_41 F t hL _ h
    · refine nd_iload_n dX10_akin_22 3 rfl ?_
      refine nd_if_ltN dX10_akin_23 41 (by decide) h (fun h => ?_) (fun h => ?_)
      · refine nd_sub [1] rfl ?_
        exact b_X10_akin_41 F t hL _ h
      · refine nd_iload_n dX10_akin_26 3 rfl ?_
        refine nd_iload dX10_akin_27 0 rfl ?_
        refine nd_icmp_geN dX10_akin_29 41 (by decide) h (fun h => ?_) (fun h => ?_)
        · refine nd_sub [1] rfl ?_
          exact b_X10_akin_41 F t hL _ h
        · refine nd_iload_n dX10_akin_32 4 rfl ?_
          refine nd_if_ltN dX10_akin_33 41 (by decide) h (fun h => ?_) (fun h => ?_)
          · refine nd_sub [1] rfl ?_
            exact b_X10_akin_41 F t hL _ h
          · refine nd_iload_n dX10_akin_36 4 rfl ?_
            refine nd_iconst dX10_akin_37 ic_1 ?_
            refine nd_icmp_leN dX10_akin_38 43 (by decide) h (fun h => ?_) (fun h => ?_)
            · refine nd_aload_n dX10_akin_43 1 rfl ?_
              refine nd_get dX10_akin_44 gf_X10_68 (sh_0 t) rfl ?_
              refine nd_iload_n dX10_akin_47 2 rfl ?_
              refine nd_iload_n dX10_akin_48 3 rfl ?_
              refine nd_max dX10_akin_49 lk_X10_254 wmax_s wmax_i wmax_c ⟨by decide, by decide⟩ (Nat.le_refl _) (Nat.le_refl _) (Nat.le_of_ble_eq_true rfl) ?_
              refine nd_iload_n dX10_akin_52 2 rfl ?_
              refine nd_iload_n dX10_akin_53 3 rfl ?_
              refine nd_min dX10_akin_54 lk_X10_257 wmin_s wmin_i wmin_c ⟨by decide, by decide⟩ (Nat.le_refl _) (Nat.le_refl _) (Nat.le_of_ble_eq_true rfl) ?_
              obtain ⟨r1, σ2, hc3, h⟩ := nd_bind_e h
              refine nd_cvi [.int (if x1 < x2 then x2 else x1), .int (if x2 < x1 then x2 else x1)] [] dX10_akin_57 cl_X10_260 (sh_57 t) ⟨Nat.le_of_ble_eq_true rfl, Nat.le_of_ble_eq_true rfl⟩ rfl (Nat.le_of_ble_eq_true rfl) hL (t_X7_kinship F t hL _ _ _ hc3) ?_
              refine nd_istore (ls' := [(5, .int r1), (4, .int (σ 19 1)), (0, .ref 0), (1, .int x1), (2, .int x2), (3, .int x3)]) dX10_akin_60 (by decide) rfl ?_
              refine nd_iload dX10_akin_62 0 rfl ?_
              refine nd_ldcw dX10_akin_64 kc_X10_263 ?_
              refine nd_iload_n dX10_akin_67 5 rfl ?_
              obtain ⟨r4, σ5, hc6, h⟩ := nd_bind_e h
              refine nd_csi [.int r1, .int (1048576 : Int32), .int x3] [] dX10_akin_68 cl_X10_264 ⟨Nat.le_of_ble_eq_true rfl, Nat.le_of_ble_eq_true rfl⟩ rfl (Nat.le_of_ble_eq_true rfl) hL (t_X0_lowest F (nd_SH ++ t) hL _ _ _ _ hc6) ?_
              exact nd_iret dX10_akin_71 (Nat.zero_le _) (Nat.zero_le _) (vp_nar_int _) (by cases h; exact ⟨rfl, rfl, rfl⟩)
            · refine nd_sub [1] rfl ?_
              exact b_X10_akin_41 F t hL _ h
def f_X10_game_50 (F : Nat) (σ : nd_Mem) : nd_Res := (some ((-1 : Int32), σ))
def f_X10_game_34 (F : Nat) (x1 : Int32) (x2 : Int32) (x3 : Int32) (s0 : Int32) (σ : nd_Mem) : nd_Res := (if s0 = 0 then (f_X10_game_50 F σ) else (if x3 < 0 then (f_X10_game_50 F σ) else (if x3 ≤ (1 : Int32) then (nd_bind (f_X7_leastWinningDoor F x1 x2 σ) fun r1 σ2 => (if x3 = (1 : Int32) then (some (r1, σ2)) else (if r1 = (-1 : Int32) then (some ((0 : Int32), σ2)) else (some ((1 : Int32), σ2))))) else (f_X10_game_50 F σ))))
def f_X10_game_33 (F : Nat) (x1 : Int32) (x2 : Int32) (x3 : Int32) (σ : nd_Mem) : nd_Res := (f_X10_game_34 F x1 x2 x3 (0 : Int32) σ)
def f_X10_game (F : Nat) (x1 : Int32) (x2 : Int32) (x3 : Int32) (σ : nd_Mem) : nd_Res := (if x1 < (1 : Int32) then (f_X10_game_33 F x1 x2 x3 σ) else (if (18 : Int32) < x1 then (f_X10_game_33 F x1 x2 x3 σ) else (if x2 < 0 then (f_X10_game_33 F x1 x2 x3 σ) else (if ((1 : Int32) <<< (x1 &&& 31)) ≤ x2 then (f_X10_game_33 F x1 x2 x3 σ) else (nd_bind (f_X7_threeTogether F x2 σ) fun r1 σ2 => (if r1 = 0 then (f_X10_game_34 F x1 x2 x3 (1 : Int32) σ2) else (f_X10_game_33 F x1 x2 x3 σ2)))))))
set_option maxRecDepth 100000 in
set_option maxHeartbeats 4000000 in
theorem b_X10_game_50 (F : Nat) (t : List nd_S) (hL : (nd_SH ++ t).length < nd_ro) {z : Int32 × nd_Mem} (σ : nd_Mem) (h : f_X10_game_50 F σ = some z) : nd_V M_X10_game (nd_rm 3) (nd_Pi (nd_SH ++ t) z) 0 0 50 [(0, .ref 0)] [] (nd_SH ++ t) σ := by
  unfold f_X10_game_50 at h
  refine nd_iconst dX10_game_50 ic_m1 ?_
  exact nd_iret dX10_game_51 (Nat.zero_le _) (Nat.zero_le _) (vp_nar_int _) (by cases h; exact ⟨rfl, rfl, rfl⟩)
set_option maxRecDepth 100000 in
set_option maxHeartbeats 4000000 in
theorem b_X10_game_34 (F : Nat) (t : List nd_S) (hL : (nd_SH ++ t).length < nd_ro) {z : Int32 × nd_Mem} (x1 : Int32) (x2 : Int32) (x3 : Int32) (s0 : Int32) (σ : nd_Mem) (h : f_X10_game_34 F x1 x2 x3 s0 σ = some z) : nd_V M_X10_game (nd_rm 3) (nd_Pi (nd_SH ++ t) z) 0 0 34 [(0, .ref 0), (1, .int x1), (2, .int x2), (3, .int x3)] [.int s0] (nd_SH ++ t) σ := by
  unfold f_X10_game_34 at h
  refine nd_istore (ls' := [(4, .int s0), (0, .ref 0), (1, .int x1), (2, .int x2), (3, .int x3)]) dX10_game_34 (by decide) rfl ?_
  refine nd_iload dX10_game_36 0 rfl ?_
  refine nd_if_eqN dX10_game_38 50 (by decide) h (fun h => ?_) (fun h => ?_)
  · refine nd_sub [1] rfl ?_
    exact b_X10_game_50 F t hL _ h
  · refine nd_iload_n dX10_game_41 4 rfl ?_
    refine nd_if_ltN dX10_game_42 50 (by decide) h (fun h => ?_) (fun h => ?_)
    · refine nd_sub [1] rfl ?_
      exact b_X10_game_50 F t hL _ h
    · refine nd_iload_n dX10_game_45 4 rfl ?_
      refine nd_iconst dX10_game_46 ic_1 ?_
      refine nd_icmp_leN dX10_game_47 52 (by decide) h (fun h => ?_) (fun h => ?_)
      · refine nd_aload_n dX10_game_52 1 rfl ?_
        refine nd_get dX10_game_53 gf_X10_68 (sh_0 t) rfl ?_
        refine nd_iload_n dX10_game_56 2 rfl ?_
        refine nd_iload_n dX10_game_57 3 rfl ?_
        obtain ⟨r1, σ2, hc3, h⟩ := nd_bind_e h
        refine nd_cvi [.int x1, .int x2] [] dX10_game_58 cl_X10_304 (sh_57 t) ⟨Nat.le_of_ble_eq_true rfl, Nat.le_of_ble_eq_true rfl⟩ rfl (Nat.le_of_ble_eq_true rfl) hL (t_X7_leastWinningDoor F t hL _ _ _ hc3) ?_
        refine nd_istore (ls' := [(5, .int r1), (4, .int s0), (0, .ref 0), (1, .int x1), (2, .int x2), (3, .int x3)]) dX10_game_61 (by decide) rfl ?_
        refine nd_iload_n dX10_game_63 5 rfl ?_
        refine nd_iconst dX10_game_64 ic_1 ?_
        refine nd_icmp_neN dX10_game_65 71 (by decide) h (fun h => ?_) (fun h => ?_)
        · refine nd_iload dX10_game_71 0 rfl ?_
          refine nd_iconst dX10_game_73 ic_m1 ?_
          refine nd_icmp_neN dX10_game_74 81 (by decide) h (fun h => ?_) (fun h => ?_)
          · refine nd_iconst dX10_game_81 ic_1 ?_
            exact nd_iret dX10_game_82 (Nat.zero_le _) (Nat.zero_le _) (vp_nar_int _) (by cases h; exact ⟨rfl, rfl, rfl⟩)
          · refine nd_iconst dX10_game_77 ic_0 ?_
            refine nd_goto dX10_game_78 82 (by decide) ?_
            exact nd_iret dX10_game_82 (Nat.zero_le _) (Nat.zero_le _) (vp_nar_int _) (by cases h; exact ⟨rfl, rfl, rfl⟩)
        · refine nd_iload dX10_game_68 0 rfl ?_
          exact nd_iret dX10_game_70 (Nat.zero_le _) (Nat.zero_le _) (vp_nar_int _) (by cases h; exact ⟨rfl, rfl, rfl⟩)
      · refine nd_sub [1] rfl ?_
        exact b_X10_game_50 F t hL _ h
set_option maxRecDepth 100000 in
set_option maxHeartbeats 4000000 in
theorem b_X10_game_33 (F : Nat) (t : List nd_S) (hL : (nd_SH ++ t).length < nd_ro) {z : Int32 × nd_Mem} (x1 : Int32) (x2 : Int32) (x3 : Int32) (σ : nd_Mem) (h : f_X10_game_33 F x1 x2 x3 σ = some z) : nd_V M_X10_game (nd_rm 3) (nd_Pi (nd_SH ++ t) z) 0 0 33 [(0, .ref 0), (1, .int x1), (2, .int x2), (3, .int x3)] [] (nd_SH ++ t) σ := by
  unfold f_X10_game_33 at h
  refine nd_iconst dX10_game_33 ic_0 ?_
  exact b_X10_game_34 F t hL _ _ _ _ _ h
set_option maxRecDepth 100000 in
set_option maxHeartbeats 4000000 in
theorem t_X10_game (F : Nat) (t : List nd_S) (hL : (nd_SH ++ t).length < nd_ro) {z : Int32 × nd_Mem} (x1 : Int32) (x2 : Int32) (x3 : Int32) (σ : nd_Mem) (h : f_X10_game F x1 x2 x3 σ = some z) : nd_Fn M_X10_game (nd_rm 3) [.ref 0, .int x1, .int x2, .int x3] (nd_SH ++ t) σ (nd_Pi (nd_SH ++ t) z) := by
  refine nd_Fn.ofV (ls := [(0, .ref 0), (1, .int x1), (2, .int x2), (3, .int x3)]) pl_X10_game rfl (fun _ => Nat.le_of_ble_eq_true rfl) (fun _ => rfl) ?_
  unfold f_X10_game at h
  refine nd_iload_n dX10_game_0 1 rfl ?_
  refine nd_iconst dX10_game_1 ic_1 ?_
  refine nd_icmp_ltN dX10_game_2 33 (by decide) h (fun h => ?_) (fun h => ?_)
  · exact b_X10_game_33 F t hL _ _ _ _ h
  · refine nd_iload_n dX10_game_5 1 rfl ?_
    refine nd_bipush dX10_game_6 ib_18 ?_
    refine nd_icmp_gtN dX10_game_8 33 (by decide) h (fun h => ?_) (fun h => ?_)
    · exact b_X10_game_33 F t hL _ _ _ _ h
    · refine nd_iload_n dX10_game_11 2 rfl ?_
      refine nd_if_ltN dX10_game_12 33 (by decide) h (fun h => ?_) (fun h => ?_)
      · exact b_X10_game_33 F t hL _ _ _ _ h
      · refine nd_iload_n dX10_game_15 2 rfl ?_
        refine nd_iconst dX10_game_16 ic_1 ?_
        refine nd_iload_n dX10_game_17 1 rfl ?_
        refine nd_ishl dX10_game_18 ?_
        refine nd_icmp_geN dX10_game_19 33 (by decide) h (fun h => ?_) (fun h => ?_)
        · exact b_X10_game_33 F t hL _ _ _ _ h
        · refine nd_iload_n dX10_game_22 2 rfl ?_
          obtain ⟨r1, σ2, hc3, h⟩ := nd_bind_e h
          refine nd_csi [.int x2] [] dX10_game_23 cl_X10_301 ⟨Nat.le_of_ble_eq_true rfl, Nat.le_of_ble_eq_true rfl⟩ rfl (Nat.le_of_ble_eq_true rfl) hL (t_X7_threeTogether F (nd_SH ++ t) hL _ _ hc3) ?_
          refine nd_if_neN dX10_game_26 33 (by decide) h (fun h => ?_) (fun h => ?_)
          · exact b_X10_game_33 F t hL _ _ _ _ h
          · refine nd_iconst dX10_game_29 ic_1 ?_
            refine nd_goto dX10_game_30 34 (by decide) ?_
            exact b_X10_game_34 F t hL _ _ _ _ _ h
def f_X10_meets_76 (F : Nat) (σ : nd_Mem) : nd_Res := (some ((-1 : Int32), σ))
def f_X10_meets_58 (F : Nat) (x1 : Int32) (x2 : Int32) (x4 : Int32) (x5 : Int32) (x6 : Int32) (s0 : Int32) (σ : nd_Mem) : nd_Res := (if s0 = 0 then (f_X10_meets_76 F σ) else (if x4 < 0 then (f_X10_meets_76 F σ) else (if x4 ≤ (1 : Int32) then (nd_bind (f_J9_floorMod_7cf53 F (x6 - x5) x1 σ) fun r1 σ2 => (if x4 = 0 then (nd_bind (f_X0_meetsBehind F x1 x2 r1 σ2) fun r7 σ8 => (some (r7, σ8))) else (nd_bind (f_X0_passesFirst F x1 x2 r1 σ2) fun r4 σ5 => (some (r4, σ5))))) else (f_X10_meets_76 F σ))))
def f_X10_meets_57 (F : Nat) (x1 : Int32) (x2 : Int32) (x4 : Int32) (x5 : Int32) (x6 : Int32) (σ : nd_Mem) : nd_Res := (f_X10_meets_58 F x1 x2 x4 x5 x6 (0 : Int32) σ)
def f_X10_meets (F : Nat) (x1 : Int32) (x2 : Int32) (x3 : Int32) (x4 : Int32) (σ : nd_Mem) : nd_Res := (if x1 < (2 : Int32) then (f_X10_meets_57 F x1 x2 x4 (x3 / (1000 : Int32)) (q_rem x3 (1000 : Int32)) σ) else (if (500 : Int32) < x1 then (f_X10_meets_57 F x1 x2 x4 (x3 / (1000 : Int32)) (q_rem x3 (1000 : Int32)) σ) else (if x2 < (1 : Int32) then (f_X10_meets_57 F x1 x2 x4 (x3 / (1000 : Int32)) (q_rem x3 (1000 : Int32)) σ) else (if (9 : Int32) < x2 then (f_X10_meets_57 F x1 x2 x4 (x3 / (1000 : Int32)) (q_rem x3 (1000 : Int32)) σ) else (if x3 < 0 then (f_X10_meets_57 F x1 x2 x4 (x3 / (1000 : Int32)) (q_rem x3 (1000 : Int32)) σ) else (if x1 ≤ (x3 / (1000 : Int32)) then (f_X10_meets_57 F x1 x2 x4 (x3 / (1000 : Int32)) (q_rem x3 (1000 : Int32)) σ) else (if x1 ≤ (q_rem x3 (1000 : Int32)) then (f_X10_meets_57 F x1 x2 x4 (x3 / (1000 : Int32)) (q_rem x3 (1000 : Int32)) σ) else (f_X10_meets_58 F x1 x2 x4 (x3 / (1000 : Int32)) (q_rem x3 (1000 : Int32)) (1 : Int32) σ))))))))
set_option maxRecDepth 100000 in
set_option maxHeartbeats 4000000 in
theorem b_X10_meets_76 (F : Nat) (t : List nd_S) (hL : (nd_SH ++ t).length < nd_ro) {z : Int32 × nd_Mem} (σ : nd_Mem) (h : f_X10_meets_76 F σ = some z) : nd_V M_X10_meets (nd_rm 3) (nd_Pi (nd_SH ++ t) z) 0 0 76 [(0, .ref 0)] [] (nd_SH ++ t) σ := by
  unfold f_X10_meets_76 at h
  refine nd_iconst dX10_meets_76 ic_m1 ?_
  exact nd_iret dX10_meets_77 (Nat.zero_le _) (Nat.zero_le _) (vp_nar_int _) (by cases h; exact ⟨rfl, rfl, rfl⟩)
set_option maxRecDepth 100000 in
set_option maxHeartbeats 4000000 in
theorem b_X10_meets_58 (F : Nat) (t : List nd_S) (hL : (nd_SH ++ t).length < nd_ro) {z : Int32 × nd_Mem} (x1 : Int32) (x2 : Int32) (x4 : Int32) (x5 : Int32) (x6 : Int32) (s0 : Int32) (σ : nd_Mem) (h : f_X10_meets_58 F x1 x2 x4 x5 x6 s0 σ = some z) : nd_V M_X10_meets (nd_rm 3) (nd_Pi (nd_SH ++ t) z) 0 0 58 [(0, .ref 0), (1, .int x1), (2, .int x2), (4, .int x4), (5, .int x5), (6, .int x6)] [.int s0] (nd_SH ++ t) σ := by
  unfold f_X10_meets_58 at h
  refine nd_istore (ls' := [(7, .int s0), (0, .ref 0), (1, .int x1), (2, .int x2), (4, .int x4), (5, .int x5), (6, .int x6)]) dX10_meets_58 (by decide) rfl ?_
  refine nd_iload dX10_meets_60 0 rfl ?_
  refine nd_if_eqN dX10_meets_62 76 (by decide) h (fun h => ?_) (fun h => ?_)
  · refine nd_sub [1] rfl ?_
    exact b_X10_meets_76 F t hL _ h
  · refine nd_iload dX10_meets_65 4 rfl ?_
    refine nd_if_ltN dX10_meets_67 76 (by decide) h (fun h => ?_) (fun h => ?_)
    · refine nd_sub [1] rfl ?_
      exact b_X10_meets_76 F t hL _ h
    · refine nd_iload dX10_meets_70 4 rfl ?_
      refine nd_iconst dX10_meets_72 ic_1 ?_
      refine nd_icmp_leN dX10_meets_73 78 (by decide) h (fun h => ?_) (fun h => ?_)
      · refine nd_iload dX10_meets_78 6 rfl ?_
        refine nd_iload dX10_meets_80 5 rfl ?_
        refine nd_isub dX10_meets_82 ?_
        refine nd_iload_n dX10_meets_83 2 rfl ?_
        obtain ⟨r1, σ2, hc3, h⟩ := nd_bind_e h
        refine nd_csi [.int (x6 - x5), .int x1] [] dX10_meets_84 cl_X10_182 ⟨Nat.le_of_ble_eq_true rfl, Nat.le_of_ble_eq_true rfl⟩ rfl (Nat.le_of_ble_eq_true rfl) hL (t_J9_floorMod_7cf53 F (nd_SH ++ t) hL _ _ _ hc3) ?_
        refine nd_istore (ls' := [(8, .int r1), (7, .int s0), (0, .ref 0), (1, .int x1), (2, .int x2), (4, .int x4), (5, .int x5), (6, .int x6)]) dX10_meets_87 (by decide) rfl ?_
        refine nd_iload dX10_meets_89 5 rfl ?_
        refine nd_if_neN dX10_meets_91 104 (by decide) h (fun h => ?_) (fun h => ?_)
        · refine nd_iload_n dX10_meets_104 3 rfl ?_
          refine nd_iload_n dX10_meets_105 4 rfl ?_
          refine nd_iload dX10_meets_106 0 rfl ?_
          obtain ⟨r4, σ5, hc6, h⟩ := nd_bind_e h
          refine nd_csi [.int x1, .int x2, .int r1] [] dX10_meets_108 cl_X10_192 ⟨Nat.le_of_ble_eq_true rfl, Nat.le_of_ble_eq_true rfl⟩ rfl (Nat.le_of_ble_eq_true rfl) hL (t_X0_passesFirst F (nd_SH ++ t) hL _ _ _ _ hc6) ?_
          exact nd_iret dX10_meets_111 (Nat.zero_le _) (Nat.zero_le _) (vp_nar_int _) (by cases h; exact ⟨rfl, rfl, rfl⟩)
        · refine nd_iload_n dX10_meets_94 3 rfl ?_
          refine nd_iload_n dX10_meets_95 4 rfl ?_
          refine nd_iload dX10_meets_96 0 rfl ?_
          obtain ⟨r7, σ8, hc9, h⟩ := nd_bind_e h
          refine nd_csi [.int x1, .int x2, .int r1] [] dX10_meets_98 cl_X10_187 ⟨Nat.le_of_ble_eq_true rfl, Nat.le_of_ble_eq_true rfl⟩ rfl (Nat.le_of_ble_eq_true rfl) hL (t_X0_meetsBehind F (nd_SH ++ t) hL _ _ _ _ hc9) ?_
          refine nd_goto dX10_meets_101 111 (by decide) ?_
          exact nd_iret dX10_meets_111 (Nat.zero_le _) (Nat.zero_le _) (vp_nar_int _) (by cases h; exact ⟨rfl, rfl, rfl⟩)
      · refine nd_sub [1] rfl ?_
        exact b_X10_meets_76 F t hL _ h
set_option maxRecDepth 100000 in
set_option maxHeartbeats 4000000 in
theorem b_X10_meets_57 (F : Nat) (t : List nd_S) (hL : (nd_SH ++ t).length < nd_ro) {z : Int32 × nd_Mem} (x1 : Int32) (x2 : Int32) (x4 : Int32) (x5 : Int32) (x6 : Int32) (σ : nd_Mem) (h : f_X10_meets_57 F x1 x2 x4 x5 x6 σ = some z) : nd_V M_X10_meets (nd_rm 3) (nd_Pi (nd_SH ++ t) z) 0 0 57 [(0, .ref 0), (1, .int x1), (2, .int x2), (4, .int x4), (5, .int x5), (6, .int x6)] [] (nd_SH ++ t) σ := by
  unfold f_X10_meets_57 at h
  refine nd_iconst dX10_meets_57 ic_0 ?_
  exact b_X10_meets_58 F t hL _ _ _ _ _ _ _ h
set_option maxRecDepth 100000 in
set_option maxHeartbeats 4000000 in
theorem t_X10_meets (F : Nat) (t : List nd_S) (hL : (nd_SH ++ t).length < nd_ro) {z : Int32 × nd_Mem} (x1 : Int32) (x2 : Int32) (x3 : Int32) (x4 : Int32) (σ : nd_Mem) (h : f_X10_meets F x1 x2 x3 x4 σ = some z) : nd_Fn M_X10_meets (nd_rm 3) [.ref 0, .int x1, .int x2, .int x3, .int x4] (nd_SH ++ t) σ (nd_Pi (nd_SH ++ t) z) := by
  refine nd_Fn.ofV (ls := [(0, .ref 0), (1, .int x1), (2, .int x2), (3, .int x3), (4, .int x4)]) pl_X10_meets rfl (fun _ => Nat.le_of_ble_eq_true rfl) (fun _ => rfl) ?_
  unfold f_X10_meets at h
  refine nd_iload_n dX10_meets_0 3 rfl ?_
  refine nd_sipush dX10_meets_1 is_1000 ?_
  refine nd_idiv dX10_meets_4 (by decide) ?_
  refine nd_istore (ls' := [(5, .int (x3 / (1000 : Int32))), (0, .ref 0), (1, .int x1), (2, .int x2), (3, .int x3), (4, .int x4)]) dX10_meets_5 (by decide) rfl ?_
  refine nd_iload_n dX10_meets_7 4 rfl ?_
  refine nd_sipush dX10_meets_8 is_1000 ?_
  refine nd_irem dX10_meets_11 (by decide) ?_
  refine nd_istore (ls' := [(6, .int (q_rem x3 (1000 : Int32))), (5, .int (x3 / (1000 : Int32))), (0, .ref 0), (1, .int x1), (2, .int x2), (3, .int x3), (4, .int x4)]) dX10_meets_12 (by decide) rfl ?_
  refine nd_iload_n dX10_meets_14 3 rfl ?_
  refine nd_iconst dX10_meets_15 ic_2 ?_
  refine nd_icmp_ltN dX10_meets_16 57 (by decide) h (fun h => ?_) (fun h => ?_)
  · refine nd_sub [2, 3, 4, 6, 1, 0] rfl ?_
    exact b_X10_meets_57 F t hL _ _ _ _ _ _ h
  · refine nd_iload_n dX10_meets_19 3 rfl ?_
    refine nd_sipush dX10_meets_20 is_500 ?_
    refine nd_icmp_gtN dX10_meets_23 57 (by decide) h (fun h => ?_) (fun h => ?_)
    · refine nd_sub [2, 3, 4, 6, 1, 0] rfl ?_
      exact b_X10_meets_57 F t hL _ _ _ _ _ _ h
    · refine nd_iload_n dX10_meets_26 4 rfl ?_
      refine nd_iconst dX10_meets_27 ic_1 ?_
      refine nd_icmp_ltN dX10_meets_28 57 (by decide) h (fun h => ?_) (fun h => ?_)
      · refine nd_sub [2, 3, 4, 6, 1, 0] rfl ?_
        exact b_X10_meets_57 F t hL _ _ _ _ _ _ h
      · refine nd_iload_n dX10_meets_31 4 rfl ?_
        refine nd_bipush dX10_meets_32 ib_9 ?_
        refine nd_icmp_gtN dX10_meets_34 57 (by decide) h (fun h => ?_) (fun h => ?_)
        · refine nd_sub [2, 3, 4, 6, 1, 0] rfl ?_
          exact b_X10_meets_57 F t hL _ _ _ _ _ _ h
        · refine nd_iload_n dX10_meets_37 5 rfl ?_
          refine nd_if_ltN dX10_meets_38 57 (by decide) h (fun h => ?_) (fun h => ?_)
          · refine nd_sub [2, 3, 4, 6, 1, 0] rfl ?_
            exact b_X10_meets_57 F t hL _ _ _ _ _ _ h
          · refine nd_iload dX10_meets_41 1 rfl ?_
            refine nd_iload_n dX10_meets_43 3 rfl ?_
            refine nd_icmp_geN dX10_meets_44 57 (by decide) h (fun h => ?_) (fun h => ?_)
            · refine nd_sub [2, 3, 4, 6, 1, 0] rfl ?_
              exact b_X10_meets_57 F t hL _ _ _ _ _ _ h
            · refine nd_iload dX10_meets_47 0 rfl ?_
              refine nd_iload_n dX10_meets_49 3 rfl ?_
              refine nd_icmp_geN dX10_meets_50 57 (by decide) h (fun h => ?_) (fun h => ?_)
              · refine nd_sub [2, 3, 4, 6, 1, 0] rfl ?_
                exact b_X10_meets_57 F t hL _ _ _ _ _ _ h
              · refine nd_iconst dX10_meets_53 ic_1 ?_
                refine nd_goto dX10_meets_54 58 (by decide) ?_
                refine nd_sub [2, 3, 4, 6, 1, 0] rfl ?_
                exact b_X10_meets_58 F t hL _ _ _ _ _ _ _ h
def f_X10_undo (F : Nat) (σ : nd_Mem) : nd_Res := (nd_bind (f_X1_goBack F 1 2 σ) fun r1 σ2 => (if ¬ (r1 = 0 ∨ r1 = 1) then none else (some (r1, σ2))))
set_option maxRecDepth 100000 in
set_option maxHeartbeats 4000000 in
theorem t_X10_undo (F : Nat) (t : List nd_S) (hL : (nd_SH ++ t).length < nd_ro) {z : Int32 × nd_Mem} (σ : nd_Mem) (h : f_X10_undo F σ = some z) : nd_Fn M_X10_undo (nd_rm 3) [.ref 0] (nd_SH ++ t) σ (nd_Pi (nd_SH ++ t) z) := by
  refine nd_Fn.ofV (ls := [(0, .ref 0)]) pl_X10_undo rfl (fun _ => Nat.le_of_ble_eq_true rfl) (fun _ => rfl) ?_
  unfold f_X10_undo at h
  refine nd_aload_n dX10_undo_0 0 rfl ?_
  refine nd_get dX10_undo_1 gf_X10_37 (sh_0 t) rfl ?_
  refine nd_aload_n dX10_undo_4 0 rfl ?_
  refine nd_get dX10_undo_5 gf_X10_10 (sh_0 t) rfl ?_
  obtain ⟨r1, σ2, hc3, h⟩ := nd_bind_e h
  refine nd_cvi [.ref 1] [] dX10_undo_8 cl_X10_307 (sh_24 t) ⟨Nat.le_of_ble_eq_true rfl, Nat.le_of_ble_eq_true rfl⟩ rfl (Nat.le_of_ble_eq_true rfl) hL (t_X1_goBack F 1 2 t hL (is_Street_1 t) _ hc3) ?_
  have hz4 := nd_no_e h
  have h := hz4.2
  exact nd_iret dX10_undo_11 (Nat.zero_le _) (Nat.zero_le _) (nd_zok rfl (Classical.not_not.mp hz4.1)) (by cases h; exact ⟨rfl, rfl, rfl⟩)
def f_X10_of (F : Nat) (x1 : Int32) (x2 : Int32) (σ : nd_Mem) : nd_Res := (nd_bind (f_X6_has F 1 2 x1 σ) fun r1 σ2 => (if r1 = 0 then (some ((-2 : Int32), σ2)) else (if x2 = (0 : Int32) then (nd_bind (f_X6_get F 1 2 x1 x2 σ2) fun r5 σ6 => (some (r5, σ6))) else (if x2 = (1 : Int32) then (nd_bind (f_X6_get F 1 2 x1 x2 σ2) fun r9 σ10 => (some (r9, σ10))) else (if x2 = (2 : Int32) then (nd_bind (f_X6_get F 1 2 x1 x2 σ2) fun r13 σ14 => (some (r13, σ14))) else (if x2 = (3 : Int32) then (nd_bind (f_X6_get F 1 2 x1 x2 σ2) fun r17 σ18 => (some (r17, σ18))) else (if x2 = (4 : Int32) then (nd_bind (f_X6_get F 1 2 x1 x2 σ2) fun r21 σ22 => (some (r21, σ22))) else (if x2 = (5 : Int32) then (nd_bind (f_X6_get F 1 2 x1 x2 σ2) fun r25 σ26 => (some (r25, σ26))) else (if x2 = (6 : Int32) then (nd_bind (f_X5_sideOf F 3 x1 σ2) fun r29 σ30 => (some (r29, σ30))) else (if x2 = (7 : Int32) then (nd_bind (f_X9_nextOf F 51 52 1 2 x1 σ2) fun r33 σ34 => (some (r33, σ34))) else (if x2 = (8 : Int32) then (nd_bind (f_X9_ask F 51 52 1 2 (0 : Int32) x1 σ2) fun r37 σ38 => (some (r37, σ38))) else (if x2 = (9 : Int32) then (nd_bind (f_X9_ask F 51 52 1 2 (1 : Int32) x1 σ2) fun r41 σ42 => (some (r41, σ42))) else (if x2 = (10 : Int32) then (nd_bind (f_X9_ask F 51 52 1 2 (2 : Int32) x1 σ2) fun r45 σ46 => (some (r45, σ46))) else (if x2 = (11 : Int32) then (nd_bind (f_X5_feudsOf F 3 x1 σ2) fun r49 σ50 => (some (r49, σ50))) else (some ((-2 : Int32), σ2))))))))))))))))
set_option maxRecDepth 100000 in
set_option maxHeartbeats 4000000 in
theorem t_X10_of (F : Nat) (t : List nd_S) (hL : (nd_SH ++ t).length < nd_ro) {z : Int32 × nd_Mem} (x1 : Int32) (x2 : Int32) (σ : nd_Mem) (h : f_X10_of F x1 x2 σ = some z) : nd_Fn M_X10_of (nd_rm 4) [.ref 0, .int x1, .int x2] (nd_SH ++ t) σ (nd_Pi (nd_SH ++ t) z) := by
  refine nd_Fn.ofV (ls := [(0, .ref 0), (1, .int x1), (2, .int x2)]) pl_X10_of rfl (fun _ => Nat.le_of_ble_eq_true rfl) (fun _ => rfl) ?_
  unfold f_X10_of at h
  refine nd_aload_n dX10_of_0 0 rfl ?_
  refine nd_get dX10_of_1 gf_X10_10 (sh_0 t) rfl ?_
  refine nd_iload_n dX10_of_4 1 rfl ?_
  obtain ⟨r1, σ2, hc3, h⟩ := nd_bind_e h
  refine nd_cvi [.int x1] [] dX10_of_5 cl_X10_87 (sh_1 t) ⟨Nat.le_of_ble_eq_true rfl, Nat.le_of_ble_eq_true rfl⟩ rfl (Nat.le_of_ble_eq_true rfl) hL (t_X6_has F 1 2 (nd_SH ++ t) hL (is_Street_1 t) _ _ hc3) ?_
  refine nd_if_neN dX10_of_8 14 (by decide) h (fun h => ?_) (fun h => ?_)
  · refine nd_iload_n dX10_of_14 2 rfl ?_
    rcases nd_ite_e h with ⟨c4, h⟩ | ⟨c4, h⟩
    · refine nd_tin dX10_of_15 0 (by rw [c4] <;> decide) (by rw [c4] <;> decide) rfl 76 (by decide) ?_
      refine nd_aload_n dX10_of_76 0 rfl ?_
      refine nd_get dX10_of_77 gf_X10_10 (sh_0 t) rfl ?_
      refine nd_iload_n dX10_of_80 1 rfl ?_
      refine nd_iload_n dX10_of_81 2 rfl ?_
      obtain ⟨r5, σ6, hc7, h⟩ := nd_bind_e h
      refine nd_cvi [.int x1, .int x2] [] dX10_of_82 cl_X10_148 (sh_1 t) ⟨Nat.le_of_ble_eq_true rfl, Nat.le_of_ble_eq_true rfl⟩ rfl (Nat.le_of_ble_eq_true rfl) hL (t_X6_get F 1 2 (nd_SH ++ t) hL (is_Street_1 t) _ _ _ hc7) ?_
      exact nd_iret dX10_of_85 (Nat.zero_le _) (Nat.zero_le _) (vp_nar_int _) (by cases h; exact ⟨rfl, rfl, rfl⟩)
    rcases nd_ite_e h with ⟨c8, h⟩ | ⟨c8, h⟩
    · refine nd_tin dX10_of_15 1 (by rw [c8] <;> decide) (by rw [c8] <;> decide) rfl 76 (by decide) ?_
      refine nd_aload_n dX10_of_76 0 rfl ?_
      refine nd_get dX10_of_77 gf_X10_10 (sh_0 t) rfl ?_
      refine nd_iload_n dX10_of_80 1 rfl ?_
      refine nd_iload_n dX10_of_81 2 rfl ?_
      obtain ⟨r9, σ10, hc11, h⟩ := nd_bind_e h
      refine nd_cvi [.int x1, .int x2] [] dX10_of_82 cl_X10_148 (sh_1 t) ⟨Nat.le_of_ble_eq_true rfl, Nat.le_of_ble_eq_true rfl⟩ rfl (Nat.le_of_ble_eq_true rfl) hL (t_X6_get F 1 2 (nd_SH ++ t) hL (is_Street_1 t) _ _ _ hc11) ?_
      exact nd_iret dX10_of_85 (Nat.zero_le _) (Nat.zero_le _) (vp_nar_int _) (by cases h; exact ⟨rfl, rfl, rfl⟩)
    rcases nd_ite_e h with ⟨c12, h⟩ | ⟨c12, h⟩
    · refine nd_tin dX10_of_15 2 (by rw [c12] <;> decide) (by rw [c12] <;> decide) rfl 76 (by decide) ?_
      refine nd_aload_n dX10_of_76 0 rfl ?_
      refine nd_get dX10_of_77 gf_X10_10 (sh_0 t) rfl ?_
      refine nd_iload_n dX10_of_80 1 rfl ?_
      refine nd_iload_n dX10_of_81 2 rfl ?_
      obtain ⟨r13, σ14, hc15, h⟩ := nd_bind_e h
      refine nd_cvi [.int x1, .int x2] [] dX10_of_82 cl_X10_148 (sh_1 t) ⟨Nat.le_of_ble_eq_true rfl, Nat.le_of_ble_eq_true rfl⟩ rfl (Nat.le_of_ble_eq_true rfl) hL (t_X6_get F 1 2 (nd_SH ++ t) hL (is_Street_1 t) _ _ _ hc15) ?_
      exact nd_iret dX10_of_85 (Nat.zero_le _) (Nat.zero_le _) (vp_nar_int _) (by cases h; exact ⟨rfl, rfl, rfl⟩)
    rcases nd_ite_e h with ⟨c16, h⟩ | ⟨c16, h⟩
    · refine nd_tin dX10_of_15 3 (by rw [c16] <;> decide) (by rw [c16] <;> decide) rfl 76 (by decide) ?_
      refine nd_aload_n dX10_of_76 0 rfl ?_
      refine nd_get dX10_of_77 gf_X10_10 (sh_0 t) rfl ?_
      refine nd_iload_n dX10_of_80 1 rfl ?_
      refine nd_iload_n dX10_of_81 2 rfl ?_
      obtain ⟨r17, σ18, hc19, h⟩ := nd_bind_e h
      refine nd_cvi [.int x1, .int x2] [] dX10_of_82 cl_X10_148 (sh_1 t) ⟨Nat.le_of_ble_eq_true rfl, Nat.le_of_ble_eq_true rfl⟩ rfl (Nat.le_of_ble_eq_true rfl) hL (t_X6_get F 1 2 (nd_SH ++ t) hL (is_Street_1 t) _ _ _ hc19) ?_
      exact nd_iret dX10_of_85 (Nat.zero_le _) (Nat.zero_le _) (vp_nar_int _) (by cases h; exact ⟨rfl, rfl, rfl⟩)
    rcases nd_ite_e h with ⟨c20, h⟩ | ⟨c20, h⟩
    · refine nd_tin dX10_of_15 4 (by rw [c20] <;> decide) (by rw [c20] <;> decide) rfl 76 (by decide) ?_
      refine nd_aload_n dX10_of_76 0 rfl ?_
      refine nd_get dX10_of_77 gf_X10_10 (sh_0 t) rfl ?_
      refine nd_iload_n dX10_of_80 1 rfl ?_
      refine nd_iload_n dX10_of_81 2 rfl ?_
      obtain ⟨r21, σ22, hc23, h⟩ := nd_bind_e h
      refine nd_cvi [.int x1, .int x2] [] dX10_of_82 cl_X10_148 (sh_1 t) ⟨Nat.le_of_ble_eq_true rfl, Nat.le_of_ble_eq_true rfl⟩ rfl (Nat.le_of_ble_eq_true rfl) hL (t_X6_get F 1 2 (nd_SH ++ t) hL (is_Street_1 t) _ _ _ hc23) ?_
      exact nd_iret dX10_of_85 (Nat.zero_le _) (Nat.zero_le _) (vp_nar_int _) (by cases h; exact ⟨rfl, rfl, rfl⟩)
    rcases nd_ite_e h with ⟨c24, h⟩ | ⟨c24, h⟩
    · refine nd_tin dX10_of_15 5 (by rw [c24] <;> decide) (by rw [c24] <;> decide) rfl 76 (by decide) ?_
      refine nd_aload_n dX10_of_76 0 rfl ?_
      refine nd_get dX10_of_77 gf_X10_10 (sh_0 t) rfl ?_
      refine nd_iload_n dX10_of_80 1 rfl ?_
      refine nd_iload_n dX10_of_81 2 rfl ?_
      obtain ⟨r25, σ26, hc27, h⟩ := nd_bind_e h
      refine nd_cvi [.int x1, .int x2] [] dX10_of_82 cl_X10_148 (sh_1 t) ⟨Nat.le_of_ble_eq_true rfl, Nat.le_of_ble_eq_true rfl⟩ rfl (Nat.le_of_ble_eq_true rfl) hL (t_X6_get F 1 2 (nd_SH ++ t) hL (is_Street_1 t) _ _ _ hc27) ?_
      exact nd_iret dX10_of_85 (Nat.zero_le _) (Nat.zero_le _) (vp_nar_int _) (by cases h; exact ⟨rfl, rfl, rfl⟩)
    rcases nd_ite_e h with ⟨c28, h⟩ | ⟨c28, h⟩
    · refine nd_tin dX10_of_15 6 (by rw [c28] <;> decide) (by rw [c28] <;> decide) rfl 86 (by decide) ?_
      refine nd_aload_n dX10_of_86 0 rfl ?_
      refine nd_get dX10_of_87 gf_X10_19 (sh_0 t) rfl ?_
      refine nd_iload_n dX10_of_90 1 rfl ?_
      obtain ⟨r29, σ30, hc31, h⟩ := nd_bind_e h
      refine nd_cvi [.int x1] [] dX10_of_91 cl_X10_151 (sh_3 t) ⟨Nat.le_of_ble_eq_true rfl, Nat.le_of_ble_eq_true rfl⟩ rfl (Nat.le_of_ble_eq_true rfl) hL (t_X5_sideOf F 3 (nd_SH ++ t) hL (is_Rules_3 t) _ _ hc31) ?_
      exact nd_iret dX10_of_94 (Nat.zero_le _) (Nat.zero_le _) (vp_nar_int _) (by cases h; exact ⟨rfl, rfl, rfl⟩)
    rcases nd_ite_e h with ⟨c32, h⟩ | ⟨c32, h⟩
    · refine nd_tin dX10_of_15 7 (by rw [c32] <;> decide) (by rw [c32] <;> decide) rfl 95 (by decide) ?_
      refine nd_aload_n dX10_of_95 0 rfl ?_
      refine nd_get dX10_of_96 gf_X10_53 (sh_0 t) rfl ?_
      refine nd_iload_n dX10_of_99 1 rfl ?_
      obtain ⟨r33, σ34, hc35, h⟩ := nd_bind_e h
      refine nd_cvi [.int x1] [] dX10_of_100 cl_X10_154 (sh_51 t) ⟨Nat.le_of_ble_eq_true rfl, Nat.le_of_ble_eq_true rfl⟩ rfl (Nat.le_of_ble_eq_true rfl) hL (t_X9_nextOf F 51 52 1 2 (nd_SH ++ t) hL (is_Walk_51 t) _ _ hc35) ?_
      exact nd_iret dX10_of_103 (Nat.zero_le _) (Nat.zero_le _) (vp_nar_int _) (by cases h; exact ⟨rfl, rfl, rfl⟩)
    rcases nd_ite_e h with ⟨c36, h⟩ | ⟨c36, h⟩
    · refine nd_tin dX10_of_15 8 (by rw [c36] <;> decide) (by rw [c36] <;> decide) rfl 104 (by decide) ?_
      refine nd_aload_n dX10_of_104 0 rfl ?_
      refine nd_get dX10_of_105 gf_X10_53 (sh_0 t) rfl ?_
      refine nd_iconst dX10_of_108 ic_0 ?_
      refine nd_iload_n dX10_of_109 1 rfl ?_
      obtain ⟨r37, σ38, hc39, h⟩ := nd_bind_e h
      refine nd_cvi [.int (0 : Int32), .int x1] [] dX10_of_110 cl_X10_157 (sh_51 t) ⟨Nat.le_of_ble_eq_true rfl, Nat.le_of_ble_eq_true rfl⟩ rfl (Nat.le_of_ble_eq_true rfl) hL (t_X9_ask F 51 52 1 2 (nd_SH ++ t) hL (is_Walk_51 t) _ _ _ hc39) ?_
      exact nd_iret dX10_of_113 (Nat.zero_le _) (Nat.zero_le _) (vp_nar_int _) (by cases h; exact ⟨rfl, rfl, rfl⟩)
    rcases nd_ite_e h with ⟨c40, h⟩ | ⟨c40, h⟩
    · refine nd_tin dX10_of_15 9 (by rw [c40] <;> decide) (by rw [c40] <;> decide) rfl 114 (by decide) ?_
      refine nd_aload_n dX10_of_114 0 rfl ?_
      refine nd_get dX10_of_115 gf_X10_53 (sh_0 t) rfl ?_
      refine nd_iconst dX10_of_118 ic_1 ?_
      refine nd_iload_n dX10_of_119 1 rfl ?_
      obtain ⟨r41, σ42, hc43, h⟩ := nd_bind_e h
      refine nd_cvi [.int (1 : Int32), .int x1] [] dX10_of_120 cl_X10_157 (sh_51 t) ⟨Nat.le_of_ble_eq_true rfl, Nat.le_of_ble_eq_true rfl⟩ rfl (Nat.le_of_ble_eq_true rfl) hL (t_X9_ask F 51 52 1 2 (nd_SH ++ t) hL (is_Walk_51 t) _ _ _ hc43) ?_
      exact nd_iret dX10_of_123 (Nat.zero_le _) (Nat.zero_le _) (vp_nar_int _) (by cases h; exact ⟨rfl, rfl, rfl⟩)
    rcases nd_ite_e h with ⟨c44, h⟩ | ⟨c44, h⟩
    · refine nd_tin dX10_of_15 10 (by rw [c44] <;> decide) (by rw [c44] <;> decide) rfl 124 (by decide) ?_
      refine nd_aload_n dX10_of_124 0 rfl ?_
      refine nd_get dX10_of_125 gf_X10_53 (sh_0 t) rfl ?_
      refine nd_iconst dX10_of_128 ic_2 ?_
      refine nd_iload_n dX10_of_129 1 rfl ?_
      obtain ⟨r45, σ46, hc47, h⟩ := nd_bind_e h
      refine nd_cvi [.int (2 : Int32), .int x1] [] dX10_of_130 cl_X10_157 (sh_51 t) ⟨Nat.le_of_ble_eq_true rfl, Nat.le_of_ble_eq_true rfl⟩ rfl (Nat.le_of_ble_eq_true rfl) hL (t_X9_ask F 51 52 1 2 (nd_SH ++ t) hL (is_Walk_51 t) _ _ _ hc47) ?_
      exact nd_iret dX10_of_133 (Nat.zero_le _) (Nat.zero_le _) (vp_nar_int _) (by cases h; exact ⟨rfl, rfl, rfl⟩)
    rcases nd_ite_e h with ⟨c48, h⟩ | ⟨c48, h⟩
    · refine nd_tin dX10_of_15 11 (by rw [c48] <;> decide) (by rw [c48] <;> decide) rfl 134 (by decide) ?_
      refine nd_aload_n dX10_of_134 0 rfl ?_
      refine nd_get dX10_of_135 gf_X10_19 (sh_0 t) rfl ?_
      refine nd_iload_n dX10_of_138 1 rfl ?_
      obtain ⟨r49, σ50, hc51, h⟩ := nd_bind_e h
      refine nd_cvi [.int x1] [] dX10_of_139 cl_X10_160 (sh_3 t) ⟨Nat.le_of_ble_eq_true rfl, Nat.le_of_ble_eq_true rfl⟩ rfl (Nat.le_of_ble_eq_true rfl) hL (t_X5_feudsOf F 3 (nd_SH ++ t) hL (is_Rules_3 t) _ _ hc51) ?_
      exact nd_iret dX10_of_142 (Nat.zero_le _) (Nat.zero_le _) (vp_nar_int _) (by cases h; exact ⟨rfl, rfl, rfl⟩)
    refine nd_tout dX10_of_15 (fun j h1 h2 => ?_) 143 (by decide) ?_
    · rcases (show j = 0 ∨ j = 1 ∨ j = 2 ∨ j = 3 ∨ j = 4 ∨ j = 5 ∨ j = 6 ∨ j = 7 ∨ j = 8 ∨ j = 9 ∨ j = 10 ∨ j = 11 by omega) with rfl | rfl | rfl | rfl | rfl | rfl | rfl | rfl | rfl | rfl | rfl | rfl
      · exact fun e => c4 (e.trans ic_0)
      · exact fun e => c8 (e.trans ic_1)
      · exact fun e => c12 (e.trans ic_2)
      · exact fun e => c16 (e.trans ic_3)
      · exact fun e => c20 (e.trans ic_4)
      · exact fun e => c24 (e.trans ic_5)
      · exact fun e => c28 (e.trans ic_6)
      · exact fun e => c32 (e.trans ic_7)
      · exact fun e => c36 (e.trans ic_8)
      · exact fun e => c40 (e.trans ic_9)
      · exact fun e => c44 (e.trans ic_10)
      · exact fun e => c48 (e.trans ic_11)
    · refine nd_bipush dX10_of_143 ib_m2 ?_
      exact nd_iret dX10_of_145 (Nat.zero_le _) (Nat.zero_le _) (vp_nar_int _) (by cases h; exact ⟨rfl, rfl, rfl⟩)
  · refine nd_bipush dX10_of_11 ib_m2 ?_
    exact nd_iret dX10_of_13 (Nat.zero_le _) (Nat.zero_le _) (vp_nar_int _) (by cases h; exact ⟨rfl, rfl, rfl⟩)
def f_X10_windows (F : Nat) (x1 : Int32) (σ : nd_Mem) : nd_Res := (if x1 = (0 : Int32) then (nd_bind (f_X7_couplesThatSee F σ) fun r2 σ3 => (some (r2, σ3))) else (if x1 = (1 : Int32) then (nd_bind (f_X7_mostSeen F σ) fun r6 σ7 => (some (r6, σ7))) else (if x1 = (2 : Int32) then (nd_bind (f_X7_rising F σ) fun r10 σ11 => (some (r10, σ11))) else (some ((-1 : Int32), σ)))))
set_option maxRecDepth 100000 in
set_option maxHeartbeats 4000000 in
theorem t_X10_windows (F : Nat) (t : List nd_S) (hL : (nd_SH ++ t).length < nd_ro) {z : Int32 × nd_Mem} (x1 : Int32) (σ : nd_Mem) (h : f_X10_windows F x1 σ = some z) : nd_Fn M_X10_windows (nd_rm 4) [.ref 0, .int x1] (nd_SH ++ t) σ (nd_Pi (nd_SH ++ t) z) := by
  refine nd_Fn.ofV (ls := [(0, .ref 0), (1, .int x1)]) pl_X10_windows rfl (fun _ => Nat.le_of_ble_eq_true rfl) (fun _ => rfl) ?_
  unfold f_X10_windows at h
  refine nd_iload_n dX10_windows_0 1 rfl ?_
  rcases nd_ite_e h with ⟨c1, h⟩ | ⟨c1, h⟩
  · refine nd_tin dX10_windows_1 0 (by rw [c1] <;> decide) (by rw [c1] <;> decide) rfl 28 (by decide) ?_
    refine nd_aload_n dX10_windows_28 0 rfl ?_
    refine nd_get dX10_windows_29 gf_X10_68 (sh_0 t) rfl ?_
    obtain ⟨r2, σ3, hc4, h⟩ := nd_bind_e h
    refine nd_cvi [] [] dX10_windows_32 cl_X10_292 (sh_57 t) ⟨Nat.le_of_ble_eq_true rfl, Nat.le_of_ble_eq_true rfl⟩ rfl (Nat.le_of_ble_eq_true rfl) hL (t_X7_couplesThatSee F t hL _ hc4) ?_
    exact nd_iret dX10_windows_35 (Nat.zero_le _) (Nat.zero_le _) (vp_nar_int _) (by cases h; exact ⟨rfl, rfl, rfl⟩)
  rcases nd_ite_e h with ⟨c5, h⟩ | ⟨c5, h⟩
  · refine nd_tin dX10_windows_1 1 (by rw [c5] <;> decide) (by rw [c5] <;> decide) rfl 36 (by decide) ?_
    refine nd_aload_n dX10_windows_36 0 rfl ?_
    refine nd_get dX10_windows_37 gf_X10_68 (sh_0 t) rfl ?_
    obtain ⟨r6, σ7, hc8, h⟩ := nd_bind_e h
    refine nd_cvi [] [] dX10_windows_40 cl_X10_295 (sh_57 t) ⟨Nat.le_of_ble_eq_true rfl, Nat.le_of_ble_eq_true rfl⟩ rfl (Nat.le_of_ble_eq_true rfl) hL (t_X7_mostSeen F t hL _ hc8) ?_
    exact nd_iret dX10_windows_43 (Nat.zero_le _) (Nat.zero_le _) (vp_nar_int _) (by cases h; exact ⟨rfl, rfl, rfl⟩)
  rcases nd_ite_e h with ⟨c9, h⟩ | ⟨c9, h⟩
  · refine nd_tin dX10_windows_1 2 (by rw [c9] <;> decide) (by rw [c9] <;> decide) rfl 44 (by decide) ?_
    refine nd_aload_n dX10_windows_44 0 rfl ?_
    refine nd_get dX10_windows_45 gf_X10_68 (sh_0 t) rfl ?_
    obtain ⟨r10, σ11, hc12, h⟩ := nd_bind_e h
    refine nd_cvi [] [] dX10_windows_48 cl_X10_298 (sh_57 t) ⟨Nat.le_of_ble_eq_true rfl, Nat.le_of_ble_eq_true rfl⟩ rfl (Nat.le_of_ble_eq_true rfl) hL (t_X7_rising F t hL _ hc12) ?_
    exact nd_iret dX10_windows_51 (Nat.zero_le _) (Nat.zero_le _) (vp_nar_int _) (by cases h; exact ⟨rfl, rfl, rfl⟩)
  refine nd_tout dX10_windows_1 (fun j h1 h2 => ?_) 52 (by decide) ?_
  · rcases (show j = 0 ∨ j = 1 ∨ j = 2 by omega) with rfl | rfl | rfl
    · exact fun e => c1 (e.trans ic_0)
    · exact fun e => c5 (e.trans ic_1)
    · exact fun e => c9 (e.trans ic_2)
  · refine nd_iconst dX10_windows_52 ic_m1 ?_
    exact nd_iret dX10_windows_53 (Nat.zero_le _) (Nat.zero_le _) (vp_nar_int _) (by cases h; exact ⟨rfl, rfl, rfl⟩)
def f_X10_act (F : Nat) (x1 : Int32) (x2 : Int32) (σ : nd_Mem) : nd_Res := (nd_bind (f_X9_canByHand F 51 52 1 2 x1 x2 σ) fun r1 σ2 => (if r1 = 0 then (some ((0 : Int32), σ2)) else (nd_bind (f_X1_keep F 1 2 σ2) fun r4 σ5 => (nd_bind (f_X9_doByHand F 51 52 1 2 x1 x2 σ5) fun r7 σ8 => (some ((1 : Int32), σ8))))))
set_option maxRecDepth 100000 in
set_option maxHeartbeats 4000000 in
theorem t_X10_act (F : Nat) (t : List nd_S) (hL : (nd_SH ++ t).length < nd_ro) {z : Int32 × nd_Mem} (x1 : Int32) (x2 : Int32) (σ : nd_Mem) (h : f_X10_act F x1 x2 σ = some z) : nd_Fn M_X10_act (nd_rm 6) [.ref 0, .int x1, .int x2] (nd_SH ++ t) σ (nd_Pi (nd_SH ++ t) z) := by
  refine nd_Fn.ofV (ls := [(0, .ref 0), (1, .int x1), (2, .int x2)]) pl_X10_act rfl (fun _ => Nat.le_of_ble_eq_true rfl) (fun _ => rfl) ?_
  unfold f_X10_act at h
  refine nd_aload_n dX10_act_0 0 rfl ?_
  refine nd_get dX10_act_1 gf_X10_53 (sh_0 t) rfl ?_
  refine nd_iload_n dX10_act_4 1 rfl ?_
  refine nd_iload_n dX10_act_5 2 rfl ?_
  obtain ⟨r1, σ2, hc3, h⟩ := nd_bind_e h
  refine nd_cvi [.int x1, .int x2] [] dX10_act_6 cl_X10_99 (sh_51 t) ⟨Nat.le_of_ble_eq_true rfl, Nat.le_of_ble_eq_true rfl⟩ rfl (Nat.le_of_ble_eq_true rfl) hL (t_X9_canByHand F 51 52 1 2 (nd_SH ++ t) hL (is_Walk_51 t) _ _ _ hc3) ?_
  refine nd_if_neN dX10_act_9 14 (by decide) h (fun h => ?_) (fun h => ?_)
  · refine nd_aload_n dX10_act_14 0 rfl ?_
    refine nd_get dX10_act_15 gf_X10_37 (sh_0 t) rfl ?_
    refine nd_aload_n dX10_act_18 0 rfl ?_
    refine nd_get dX10_act_19 gf_X10_10 (sh_0 t) rfl ?_
    obtain ⟨r4, σ5, hc6, h⟩ := nd_bind_e h
    refine nd_cvv [.ref 1] [] dX10_act_22 cl_X10_102 (sh_24 t) ⟨Nat.le_of_ble_eq_true rfl, Nat.le_of_ble_eq_true rfl⟩ rfl (Nat.le_of_ble_eq_true rfl) hL (t_X1_keep F 1 2 t hL (is_Street_1 t) _ hc6) ?_
    refine nd_aload_n dX10_act_25 0 rfl ?_
    refine nd_get dX10_act_26 gf_X10_53 (sh_0 t) rfl ?_
    refine nd_iload_n dX10_act_29 1 rfl ?_
    refine nd_iload_n dX10_act_30 2 rfl ?_
    obtain ⟨r7, σ8, hc9, h⟩ := nd_bind_e h
    refine nd_cvv [.int x1, .int x2] [] dX10_act_31 cl_X10_106 (sh_51 t) ⟨Nat.le_of_ble_eq_true rfl, Nat.le_of_ble_eq_true rfl⟩ rfl (Nat.le_of_ble_eq_true rfl) hL (t_X9_doByHand F 51 52 1 2 (nd_SH ++ t) hL (is_Walk_51 t) _ _ _ hc9) ?_
    refine nd_iconst dX10_act_34 ic_1 ?_
    exact nd_iret dX10_act_35 (Nat.zero_le _) (Nat.zero_le _) rfl (by cases h; exact ⟨rfl, rfl, rfl⟩)
  · refine nd_iconst dX10_act_12 ic_0 ?_
    exact nd_iret dX10_act_13 (Nat.zero_le _) (Nat.zero_le _) rfl (by cases h; exact ⟨rfl, rfl, rfl⟩)
def f_X10_goes_20 (F : Nat) (σ : nd_Mem) : nd_Res := (some ((-1 : Int32), σ))
def f_X10_goes_35_b (F : Nat) (rec35 : Int32 → Int32 → Int32 → nd_Mem → nd_Res) (x1 : Int32) (x2 : Int32) (x3 : Int32) (σ : nd_Mem) : nd_Res := (if x1 ≤ x3 then (if x2 = (0 : Int32) then (some ((σ 53 5), σ)) else (if x2 = (1 : Int32) then (some ((σ 53 3), σ)) else (if x2 = (2 : Int32) then (some ((σ 53 4), σ)) else (nd_bind (f_X6_dowries F 53 54 σ) fun r4 σ5 => (some (r4, σ5)))))) else (nd_bind (f_X9_pass F 55 56 53 54 σ) fun r7 σ8 => (rec35 x1 x2 (x3 + (1 : Int32)) σ8)))
def f_X10_goes_35 (F : Nat) : Nat → Int32 → Int32 → Int32 → nd_Mem → nd_Res
  | 0, _, _, _, _ => none
  | m9 + 1, x1, x2, x3, σ => f_X10_goes_35_b F (f_X10_goes_35 F m9) x1 x2 x3 σ
def f_X10_goes (F : Nat) (x1 : Int32) (x2 : Int32) (σ : nd_Mem) : nd_Res := (if x1 < (1 : Int32) then (f_X10_goes_20 F σ) else (if (60 : Int32) < x1 then (f_X10_goes_20 F σ) else (if x2 < 0 then (f_X10_goes_20 F σ) else (if x2 ≤ (3 : Int32) then (nd_bind (f_X6_copy F 53 54 1 2 σ) fun r1 σ2 => (f_X10_goes_35 F F x1 x2 (0 : Int32) σ2)) else (f_X10_goes_20 F σ)))))
set_option maxRecDepth 100000 in
set_option maxHeartbeats 4000000 in
theorem b_X10_goes_20 (F : Nat) (t : List nd_S) (hL : (nd_SH ++ t).length < nd_ro) {z : Int32 × nd_Mem} (σ : nd_Mem) (h : f_X10_goes_20 F σ = some z) : nd_V M_X10_goes (nd_rm 7) (nd_Pi (nd_SH ++ t) z) 0 0 20 [(0, .ref 0)] [] (nd_SH ++ t) σ := by
  unfold f_X10_goes_20 at h
  refine nd_iconst dX10_goes_20 ic_m1 ?_
  exact nd_iret dX10_goes_21 (Nat.zero_le _) (Nat.zero_le _) (vp_nar_int _) (by cases h; exact ⟨rfl, rfl, rfl⟩)
set_option maxRecDepth 100000 in
set_option maxHeartbeats 4000000 in
theorem b_X10_goes_35 (F : Nat) (t : List nd_S) (hL : (nd_SH ++ t).length < nd_ro) {z : Int32 × nd_Mem} (m9 : Nat) : ∀ (x1 : Int32) (x2 : Int32) (x3 : Int32) (σ : nd_Mem), f_X10_goes_35 F m9 x1 x2 x3 σ = some z → nd_V M_X10_goes (nd_rm 7) (nd_Pi (nd_SH ++ t) z) 0 0 35 [(0, .ref 0), (1, .int x1), (2, .int x2), (3, .int x3)] [] (nd_SH ++ t) σ := by
  induction m9 with
  | zero =>
    intro x1 x2 x3 σ h
    have h : none = some z := h
    cases h
  | succ m9 hrec35 =>
    intro x1 x2 x3 σ h
    have h : f_X10_goes_35_b F (f_X10_goes_35 F m9) x1 x2 x3 σ = some z := h
    unfold f_X10_goes_35_b at h
    refine nd_iload_n dX10_goes_35 3 rfl ?_
    refine nd_iload_n dX10_goes_36 1 rfl ?_
    refine nd_icmp_geN dX10_goes_37 53 (by decide) h (fun h => ?_) (fun h => ?_)
    · refine nd_iload_n dX10_goes_53 2 rfl ?_
      rcases nd_ite_e h with ⟨c1, h⟩ | ⟨c1, h⟩
      · refine nd_tin dX10_goes_54 0 (by rw [c1] <;> decide) (by rw [c1] <;> decide) rfl 80 (by decide) ?_
        refine nd_aload_n dX10_goes_80 0 rfl ?_
        refine nd_get dX10_goes_81 gf_X10_57 (sh_0 t) rfl ?_
        refine nd_get dX10_goes_84 gf_X10_113 (sh_53 t) rfl ?_
        exact nd_iret dX10_goes_87 (Nat.zero_le _) (Nat.zero_le _) (vp_nar_int _) (by cases h; exact ⟨rfl, rfl, rfl⟩)
      rcases nd_ite_e h with ⟨c2, h⟩ | ⟨c2, h⟩
      · refine nd_tin dX10_goes_54 1 (by rw [c2] <;> decide) (by rw [c2] <;> decide) rfl 88 (by decide) ?_
        refine nd_aload_n dX10_goes_88 0 rfl ?_
        refine nd_get dX10_goes_89 gf_X10_57 (sh_0 t) rfl ?_
        refine nd_get dX10_goes_92 gf_X10_169 (sh_53 t) rfl ?_
        exact nd_iret dX10_goes_95 (Nat.zero_le _) (Nat.zero_le _) (vp_nar_int _) (by cases h; exact ⟨rfl, rfl, rfl⟩)
      rcases nd_ite_e h with ⟨c3, h⟩ | ⟨c3, h⟩
      · refine nd_tin dX10_goes_54 2 (by rw [c3] <;> decide) (by rw [c3] <;> decide) rfl 96 (by decide) ?_
        refine nd_aload_n dX10_goes_96 0 rfl ?_
        refine nd_get dX10_goes_97 gf_X10_57 (sh_0 t) rfl ?_
        refine nd_get dX10_goes_100 gf_X10_172 (sh_53 t) rfl ?_
        exact nd_iret dX10_goes_103 (Nat.zero_le _) (Nat.zero_le _) (vp_nar_int _) (by cases h; exact ⟨rfl, rfl, rfl⟩)
      refine nd_tout dX10_goes_54 (fun j h1 h2 => ?_) 104 (by decide) ?_
      · rcases (show j = 0 ∨ j = 1 ∨ j = 2 by omega) with rfl | rfl | rfl
        · exact fun e => c1 (e.trans ic_0)
        · exact fun e => c2 (e.trans ic_1)
        · exact fun e => c3 (e.trans ic_2)
      · refine nd_aload_n dX10_goes_104 0 rfl ?_
        refine nd_get dX10_goes_105 gf_X10_57 (sh_0 t) rfl ?_
        obtain ⟨r4, σ5, hc6, h⟩ := nd_bind_e h
        refine nd_cvi [] [] dX10_goes_108 cl_X10_175 (sh_53 t) ⟨Nat.le_of_ble_eq_true rfl, Nat.le_of_ble_eq_true rfl⟩ rfl (Nat.le_of_ble_eq_true rfl) hL (t_X6_dowries F 53 54 (nd_SH ++ t) hL (is_Street_53 t) _ hc6) ?_
        exact nd_iret dX10_goes_111 (Nat.zero_le _) (Nat.zero_le _) (vp_nar_int _) (by cases h; exact ⟨rfl, rfl, rfl⟩)
    · refine nd_aload_n dX10_goes_40 0 rfl ?_
      refine nd_get dX10_goes_41 gf_X10_60 (sh_0 t) rfl ?_
      obtain ⟨r7, σ8, hc9, h⟩ := nd_bind_e h
      refine nd_cvv [] [] dX10_goes_44 cl_X10_116 (sh_55 t) ⟨Nat.le_of_ble_eq_true rfl, Nat.le_of_ble_eq_true rfl⟩ rfl (Nat.le_of_ble_eq_true rfl) hL (t_X9_pass F 55 56 53 54 (nd_SH ++ t) hL (is_Walk_55 t) _ hc9) ?_
      refine nd_iinc (v := (x3 + (1 : Int32))) (ls' := [(3, .int (x3 + (1 : Int32))), (0, .ref 0), (1, .int x1), (2, .int x2)]) dX10_goes_47 3 rfl (congrArg (HAdd.hAdd _) ic_1) (by decide) rfl ?_
      refine nd_goto dX10_goes_50 35 (by decide) ?_
      refine nd_sub [1, 2, 3, 0] rfl ?_
      exact hrec35 _ _ _ _ h
set_option maxRecDepth 100000 in
set_option maxHeartbeats 4000000 in
theorem t_X10_goes (F : Nat) (t : List nd_S) (hL : (nd_SH ++ t).length < nd_ro) {z : Int32 × nd_Mem} (x1 : Int32) (x2 : Int32) (σ : nd_Mem) (h : f_X10_goes F x1 x2 σ = some z) : nd_Fn M_X10_goes (nd_rm 7) [.ref 0, .int x1, .int x2] (nd_SH ++ t) σ (nd_Pi (nd_SH ++ t) z) := by
  refine nd_Fn.ofV (ls := [(0, .ref 0), (1, .int x1), (2, .int x2)]) pl_X10_goes rfl (fun _ => Nat.le_of_ble_eq_true rfl) (fun _ => rfl) ?_
  unfold f_X10_goes at h
  refine nd_iload_n dX10_goes_0 1 rfl ?_
  refine nd_iconst dX10_goes_1 ic_1 ?_
  refine nd_icmp_ltN dX10_goes_2 20 (by decide) h (fun h => ?_) (fun h => ?_)
  · refine nd_sub [0] rfl ?_
    exact b_X10_goes_20 F t hL _ h
  · refine nd_iload_n dX10_goes_5 1 rfl ?_
    refine nd_bipush dX10_goes_6 ib_60 ?_
    refine nd_icmp_gtN dX10_goes_8 20 (by decide) h (fun h => ?_) (fun h => ?_)
    · refine nd_sub [0] rfl ?_
      exact b_X10_goes_20 F t hL _ h
    · refine nd_iload_n dX10_goes_11 2 rfl ?_
      refine nd_if_ltN dX10_goes_12 20 (by decide) h (fun h => ?_) (fun h => ?_)
      · refine nd_sub [0] rfl ?_
        exact b_X10_goes_20 F t hL _ h
      · refine nd_iload_n dX10_goes_15 2 rfl ?_
        refine nd_iconst dX10_goes_16 ic_3 ?_
        refine nd_icmp_leN dX10_goes_17 22 (by decide) h (fun h => ?_) (fun h => ?_)
        · refine nd_aload_n dX10_goes_22 0 rfl ?_
          refine nd_get dX10_goes_23 gf_X10_57 (sh_0 t) rfl ?_
          refine nd_aload_n dX10_goes_26 0 rfl ?_
          refine nd_get dX10_goes_27 gf_X10_10 (sh_0 t) rfl ?_
          obtain ⟨r1, σ2, hc3, h⟩ := nd_bind_e h
          refine nd_cvv [.ref 1] [] dX10_goes_30 cl_X10_166 (sh_53 t) ⟨Nat.le_of_ble_eq_true rfl, Nat.le_of_ble_eq_true rfl⟩ rfl (Nat.le_of_ble_eq_true rfl) hL (t_X6_copy F 53 54 1 2 (nd_SH ++ t) hL (is_Street_53 t) (is_Street_1 t) _ hc3) ?_
          refine nd_iconst dX10_goes_33 ic_0 ?_
          refine nd_istore_n (ls' := [(3, .int (0 : Int32)), (0, .ref 0), (1, .int x1), (2, .int x2)]) dX10_goes_34 (by decide) rfl ?_
          refine nd_sub [1, 2, 3, 0] rfl ?_
          exact b_X10_goes_35 F t hL F _ _ _ _ h
        · refine nd_sub [0] rfl ?_
          exact b_X10_goes_20 F t hL _ h
def f_X10_jug_56 (F : Nat) (x1 : Int32) (σ : nd_Mem) : nd_Res := (if (σ 53 2) = x1 then (some (((σ 53 6) - (σ 1 6)), σ)) else (some ((-1 : Int32), σ)))
def f_X10_jug_26_b (F : Nat) (rec26 : Int32 → Int32 → nd_Mem → nd_Res) (x1 : Int32) (x2 : Int32) (σ : nd_Mem) : nd_Res := (if (60 : Int32) ≤ x2 then (f_X10_jug_56 F x1 σ) else (if (σ 53 2) = x1 then (f_X10_jug_56 F x1 σ) else (nd_bind (f_X9_pass F 55 56 53 54 σ) fun r1 σ2 => (rec26 x1 (x2 + (1 : Int32)) σ2))))
def f_X10_jug_26 (F : Nat) : Nat → Int32 → Int32 → nd_Mem → nd_Res
  | 0, _, _, _ => none
  | m9 + 1, x1, x2, σ => f_X10_jug_26_b F (f_X10_jug_26 F m9) x1 x2 σ
def f_X10_jug (F : Nat) (x1 : Int32) (σ : nd_Mem) : nd_Res := (nd_bind (f_X6_has F 1 2 x1 σ) fun r1 σ2 => (if r1 = 0 then (some ((-1 : Int32), σ2)) else (nd_bind (f_X6_copy F 53 54 1 2 σ2) fun r4 σ5 => (f_X10_jug_26 F F x1 (0 : Int32) σ5))))
set_option maxRecDepth 100000 in
set_option maxHeartbeats 4000000 in
theorem b_X10_jug_56 (F : Nat) (t : List nd_S) (hL : (nd_SH ++ t).length < nd_ro) {z : Int32 × nd_Mem} (x1 : Int32) (σ : nd_Mem) (h : f_X10_jug_56 F x1 σ = some z) : nd_V M_X10_jug (nd_rm 7) (nd_Pi (nd_SH ++ t) z) 0 0 56 [(0, .ref 0), (1, .int x1)] [] (nd_SH ++ t) σ := by
  unfold f_X10_jug_56 at h
  refine nd_aload_n dX10_jug_56 0 rfl ?_
  refine nd_get dX10_jug_57 gf_X10_57 (sh_0 t) rfl ?_
  refine nd_get dX10_jug_60 gf_X10_179 (sh_53 t) rfl ?_
  refine nd_iload_n dX10_jug_63 1 rfl ?_
  refine nd_icmp_neN dX10_jug_64 85 (by decide) h (fun h => ?_) (fun h => ?_)
  · refine nd_iconst dX10_jug_85 ic_m1 ?_
    exact nd_iret dX10_jug_86 (Nat.zero_le _) (Nat.zero_le _) (vp_nar_int _) (by cases h; exact ⟨rfl, rfl, rfl⟩)
  · refine nd_aload_n dX10_jug_67 0 rfl ?_
    refine nd_get dX10_jug_68 gf_X10_57 (sh_0 t) rfl ?_
    refine nd_get dX10_jug_71 gf_X10_110 (sh_53 t) rfl ?_
    refine nd_aload_n dX10_jug_74 0 rfl ?_
    refine nd_get dX10_jug_75 gf_X10_10 (sh_0 t) rfl ?_
    refine nd_get dX10_jug_78 gf_X10_110 (sh_1 t) rfl ?_
    refine nd_isub dX10_jug_81 ?_
    refine nd_goto dX10_jug_82 86 (by decide) ?_
    exact nd_iret dX10_jug_86 (Nat.zero_le _) (Nat.zero_le _) (vp_nar_int _) (by cases h; exact ⟨rfl, rfl, rfl⟩)
set_option maxRecDepth 100000 in
set_option maxHeartbeats 4000000 in
theorem b_X10_jug_26 (F : Nat) (t : List nd_S) (hL : (nd_SH ++ t).length < nd_ro) {z : Int32 × nd_Mem} (m9 : Nat) : ∀ (x1 : Int32) (x2 : Int32) (σ : nd_Mem), f_X10_jug_26 F m9 x1 x2 σ = some z → nd_V M_X10_jug (nd_rm 7) (nd_Pi (nd_SH ++ t) z) 0 0 26 [(0, .ref 0), (1, .int x1), (2, .int x2)] [] (nd_SH ++ t) σ := by
  induction m9 with
  | zero =>
    intro x1 x2 σ h
    have h : none = some z := h
    cases h
  | succ m9 hrec26 =>
    intro x1 x2 σ h
    have h : f_X10_jug_26_b F (f_X10_jug_26 F m9) x1 x2 σ = some z := h
    unfold f_X10_jug_26_b at h
    refine nd_iload_n dX10_jug_26 2 rfl ?_
    refine nd_bipush dX10_jug_27 ib_60 ?_
    refine nd_icmp_geN dX10_jug_29 56 (by decide) h (fun h => ?_) (fun h => ?_)
    · refine nd_sub [0, 1] rfl ?_
      exact b_X10_jug_56 F t hL _ _ h
    · refine nd_aload_n dX10_jug_32 0 rfl ?_
      refine nd_get dX10_jug_33 gf_X10_57 (sh_0 t) rfl ?_
      refine nd_get dX10_jug_36 gf_X10_179 (sh_53 t) rfl ?_
      refine nd_iload_n dX10_jug_39 1 rfl ?_
      refine nd_icmp_eqN dX10_jug_40 56 (by decide) h (fun h => ?_) (fun h => ?_)
      · refine nd_sub [0, 1] rfl ?_
        exact b_X10_jug_56 F t hL _ _ h
      · refine nd_aload_n dX10_jug_43 0 rfl ?_
        refine nd_get dX10_jug_44 gf_X10_60 (sh_0 t) rfl ?_
        obtain ⟨r1, σ2, hc3, h⟩ := nd_bind_e h
        refine nd_cvv [] [] dX10_jug_47 cl_X10_116 (sh_55 t) ⟨Nat.le_of_ble_eq_true rfl, Nat.le_of_ble_eq_true rfl⟩ rfl (Nat.le_of_ble_eq_true rfl) hL (t_X9_pass F 55 56 53 54 (nd_SH ++ t) hL (is_Walk_55 t) _ hc3) ?_
        refine nd_iinc (v := (x2 + (1 : Int32))) (ls' := [(2, .int (x2 + (1 : Int32))), (0, .ref 0), (1, .int x1)]) dX10_jug_50 2 rfl (congrArg (HAdd.hAdd _) ic_1) (by decide) rfl ?_
        refine nd_goto dX10_jug_53 26 (by decide) ?_
        refine nd_sub [1, 2, 0] rfl ?_
        exact hrec26 _ _ _ h
set_option maxRecDepth 100000 in
set_option maxHeartbeats 4000000 in
theorem t_X10_jug (F : Nat) (t : List nd_S) (hL : (nd_SH ++ t).length < nd_ro) {z : Int32 × nd_Mem} (x1 : Int32) (σ : nd_Mem) (h : f_X10_jug F x1 σ = some z) : nd_Fn M_X10_jug (nd_rm 7) [.ref 0, .int x1] (nd_SH ++ t) σ (nd_Pi (nd_SH ++ t) z) := by
  refine nd_Fn.ofV (ls := [(0, .ref 0), (1, .int x1)]) pl_X10_jug rfl (fun _ => Nat.le_of_ble_eq_true rfl) (fun _ => rfl) ?_
  unfold f_X10_jug at h
  refine nd_aload_n dX10_jug_0 0 rfl ?_
  refine nd_get dX10_jug_1 gf_X10_10 (sh_0 t) rfl ?_
  refine nd_iload_n dX10_jug_4 1 rfl ?_
  obtain ⟨r1, σ2, hc3, h⟩ := nd_bind_e h
  refine nd_cvi [.int x1] [] dX10_jug_5 cl_X10_87 (sh_1 t) ⟨Nat.le_of_ble_eq_true rfl, Nat.le_of_ble_eq_true rfl⟩ rfl (Nat.le_of_ble_eq_true rfl) hL (t_X6_has F 1 2 (nd_SH ++ t) hL (is_Street_1 t) _ _ hc3) ?_
  refine nd_if_neN dX10_jug_8 13 (by decide) h (fun h => ?_) (fun h => ?_)
  · refine nd_aload_n dX10_jug_13 0 rfl ?_
    refine nd_get dX10_jug_14 gf_X10_57 (sh_0 t) rfl ?_
    refine nd_aload_n dX10_jug_17 0 rfl ?_
    refine nd_get dX10_jug_18 gf_X10_10 (sh_0 t) rfl ?_
    obtain ⟨r4, σ5, hc6, h⟩ := nd_bind_e h
    refine nd_cvv [.ref 1] [] dX10_jug_21 cl_X10_166 (sh_53 t) ⟨Nat.le_of_ble_eq_true rfl, Nat.le_of_ble_eq_true rfl⟩ rfl (Nat.le_of_ble_eq_true rfl) hL (t_X6_copy F 53 54 1 2 (nd_SH ++ t) hL (is_Street_53 t) (is_Street_1 t) _ hc6) ?_
    refine nd_iconst dX10_jug_24 ic_0 ?_
    refine nd_istore_n (ls' := [(2, .int (0 : Int32)), (0, .ref 0), (1, .int x1)]) dX10_jug_25 (by decide) rfl ?_
    refine nd_sub [1, 2, 0] rfl ?_
    exact b_X10_jug_26 F t hL F _ _ _ h
  · refine nd_iconst dX10_jug_11 ic_m1 ?_
    exact nd_iret dX10_jug_12 (Nat.zero_le _) (Nat.zero_le _) (vp_nar_int _) (by cases h; exact ⟨rfl, rfl, rfl⟩)
def f_X10_years_26 (F : Nat) (σ : nd_Mem) : nd_Res := (some ((-1 : Int32), σ))
def f_X10_years_38_b (F : Nat) (rec38 : Int32 → Int32 → Int32 → nd_Mem → nd_Res) (x1 : Int32) (x2 : Int32) (x3 : Int32) (σ : nd_Mem) : nd_Res := (if x1 ≤ x3 then (some (((σ 1 5) - x2), σ)) else (nd_bind (f_X1_keep F 1 2 σ) fun r1 σ2 => (nd_bind (f_X9_pass F 51 52 1 2 σ2) fun r4 σ5 => (rec38 x1 x2 (x3 + (1 : Int32)) σ5))))
def f_X10_years_38 (F : Nat) : Nat → Int32 → Int32 → Int32 → nd_Mem → nd_Res
  | 0, _, _, _, _ => none
  | m9 + 1, x1, x2, x3, σ => f_X10_years_38_b F (f_X10_years_38 F m9) x1 x2 x3 σ
def f_X10_years (F : Nat) (x1 : Int32) (σ : nd_Mem) : nd_Res := (if x1 < (1 : Int32) then (f_X10_years_26 F σ) else (if (60 : Int32) < x1 then (f_X10_years_26 F σ) else (if ((σ 1 6) + x1) ≤ (9999 : Int32) then (f_X10_years_38 F F x1 (σ 1 5) (0 : Int32) σ) else (f_X10_years_26 F σ))))
set_option maxRecDepth 100000 in
set_option maxHeartbeats 4000000 in
theorem b_X10_years_26 (F : Nat) (t : List nd_S) (hL : (nd_SH ++ t).length < nd_ro) {z : Int32 × nd_Mem} (σ : nd_Mem) (h : f_X10_years_26 F σ = some z) : nd_V M_X10_years (nd_rm 7) (nd_Pi (nd_SH ++ t) z) 0 0 26 [(0, .ref 0)] [] (nd_SH ++ t) σ := by
  unfold f_X10_years_26 at h
  refine nd_iconst dX10_years_26 ic_m1 ?_
  exact nd_iret dX10_years_27 (Nat.zero_le _) (Nat.zero_le _) (vp_nar_int _) (by cases h; exact ⟨rfl, rfl, rfl⟩)
set_option maxRecDepth 100000 in
set_option maxHeartbeats 4000000 in
theorem b_X10_years_38 (F : Nat) (t : List nd_S) (hL : (nd_SH ++ t).length < nd_ro) {z : Int32 × nd_Mem} (m9 : Nat) : ∀ (x1 : Int32) (x2 : Int32) (x3 : Int32) (σ : nd_Mem), f_X10_years_38 F m9 x1 x2 x3 σ = some z → nd_V M_X10_years (nd_rm 7) (nd_Pi (nd_SH ++ t) z) 0 0 38 [(0, .ref 0), (1, .int x1), (2, .int x2), (3, .int x3)] [] (nd_SH ++ t) σ := by
  induction m9 with
  | zero =>
    intro x1 x2 x3 σ h
    have h : none = some z := h
    cases h
  | succ m9 hrec38 =>
    intro x1 x2 x3 σ h
    have h : f_X10_years_38_b F (f_X10_years_38 F m9) x1 x2 x3 σ = some z := h
    unfold f_X10_years_38_b at h
    refine nd_iload_n dX10_years_38 3 rfl ?_
    refine nd_iload_n dX10_years_39 1 rfl ?_
    refine nd_icmp_geN dX10_years_40 67 (by decide) h (fun h => ?_) (fun h => ?_)
    · refine nd_aload_n dX10_years_67 0 rfl ?_
      refine nd_get dX10_years_68 gf_X10_10 (sh_0 t) rfl ?_
      refine nd_get dX10_years_71 gf_X10_113 (sh_1 t) rfl ?_
      refine nd_iload_n dX10_years_74 2 rfl ?_
      refine nd_isub dX10_years_75 ?_
      exact nd_iret dX10_years_76 (Nat.zero_le _) (Nat.zero_le _) (vp_nar_int _) (by cases h; exact ⟨rfl, rfl, rfl⟩)
    · refine nd_aload_n dX10_years_43 0 rfl ?_
      refine nd_get dX10_years_44 gf_X10_37 (sh_0 t) rfl ?_
      refine nd_aload_n dX10_years_47 0 rfl ?_
      refine nd_get dX10_years_48 gf_X10_10 (sh_0 t) rfl ?_
      obtain ⟨r1, σ2, hc3, h⟩ := nd_bind_e h
      refine nd_cvv [.ref 1] [] dX10_years_51 cl_X10_102 (sh_24 t) ⟨Nat.le_of_ble_eq_true rfl, Nat.le_of_ble_eq_true rfl⟩ rfl (Nat.le_of_ble_eq_true rfl) hL (t_X1_keep F 1 2 t hL (is_Street_1 t) _ hc3) ?_
      refine nd_aload_n dX10_years_54 0 rfl ?_
      refine nd_get dX10_years_55 gf_X10_53 (sh_0 t) rfl ?_
      obtain ⟨r4, σ5, hc6, h⟩ := nd_bind_e h
      refine nd_cvv [] [] dX10_years_58 cl_X10_116 (sh_51 t) ⟨Nat.le_of_ble_eq_true rfl, Nat.le_of_ble_eq_true rfl⟩ rfl (Nat.le_of_ble_eq_true rfl) hL (t_X9_pass F 51 52 1 2 (nd_SH ++ t) hL (is_Walk_51 t) _ hc6) ?_
      refine nd_iinc (v := (x3 + (1 : Int32))) (ls' := [(3, .int (x3 + (1 : Int32))), (0, .ref 0), (1, .int x1), (2, .int x2)]) dX10_years_61 3 rfl (congrArg (HAdd.hAdd _) ic_1) (by decide) rfl ?_
      refine nd_goto dX10_years_64 38 (by decide) ?_
      refine nd_sub [1, 2, 3, 0] rfl ?_
      exact hrec38 _ _ _ _ h
set_option maxRecDepth 100000 in
set_option maxHeartbeats 4000000 in
theorem t_X10_years (F : Nat) (t : List nd_S) (hL : (nd_SH ++ t).length < nd_ro) {z : Int32 × nd_Mem} (x1 : Int32) (σ : nd_Mem) (h : f_X10_years F x1 σ = some z) : nd_Fn M_X10_years (nd_rm 7) [.ref 0, .int x1] (nd_SH ++ t) σ (nd_Pi (nd_SH ++ t) z) := by
  refine nd_Fn.ofV (ls := [(0, .ref 0), (1, .int x1)]) pl_X10_years rfl (fun _ => Nat.le_of_ble_eq_true rfl) (fun _ => rfl) ?_
  unfold f_X10_years at h
  refine nd_iload_n dX10_years_0 1 rfl ?_
  refine nd_iconst dX10_years_1 ic_1 ?_
  refine nd_icmp_ltN dX10_years_2 26 (by decide) h (fun h => ?_) (fun h => ?_)
  · refine nd_sub [0] rfl ?_
    exact b_X10_years_26 F t hL _ h
  · refine nd_iload_n dX10_years_5 1 rfl ?_
    refine nd_bipush dX10_years_6 ib_60 ?_
    refine nd_icmp_gtN dX10_years_8 26 (by decide) h (fun h => ?_) (fun h => ?_)
    · refine nd_sub [0] rfl ?_
      exact b_X10_years_26 F t hL _ h
    · refine nd_aload_n dX10_years_11 0 rfl ?_
      refine nd_get dX10_years_12 gf_X10_10 (sh_0 t) rfl ?_
      refine nd_get dX10_years_15 gf_X10_110 (sh_1 t) rfl ?_
      refine nd_iload_n dX10_years_18 1 rfl ?_
      refine nd_iadd dX10_years_19 ?_
      refine nd_sipush dX10_years_20 is_9999 ?_
      refine nd_icmp_leN dX10_years_23 28 (by decide) h (fun h => ?_) (fun h => ?_)
      · refine nd_aload_n dX10_years_28 0 rfl ?_
        refine nd_get dX10_years_29 gf_X10_10 (sh_0 t) rfl ?_
        refine nd_get dX10_years_32 gf_X10_113 (sh_1 t) rfl ?_
        refine nd_istore_n (ls' := [(2, .int (σ 1 5)), (0, .ref 0), (1, .int x1)]) dX10_years_35 (by decide) rfl ?_
        refine nd_iconst dX10_years_36 ic_0 ?_
        refine nd_istore_n (ls' := [(3, .int (0 : Int32)), (2, .int (σ 1 5)), (0, .ref 0), (1, .int x1)]) dX10_years_37 (by decide) rfl ?_
        refine nd_sub [2, 3, 1, 0] rfl ?_
        exact b_X10_years_38 F t hL F _ _ _ _ h
      · refine nd_sub [0] rfl ?_
        exact b_X10_years_26 F t hL _ h
