theorem dJ3_checkIndex_8e157_0 : decode cJ3_checkIndex_8e157 0 = .ok (.iload_n 0, 1) := by decide +kernel
theorem dJ3_checkIndex_8e157_1 : decode cJ3_checkIndex_8e157 1 = .ok (.ifCond .lt 8, 3) := by decide +kernel
theorem dJ3_checkIndex_8e157_4 : decode cJ3_checkIndex_8e157 4 = .ok (.iload_n 0, 1) := by decide +kernel
theorem dJ3_checkIndex_8e157_5 : decode cJ3_checkIndex_8e157 5 = .ok (.iload_n 1, 1) := by decide +kernel
theorem dJ3_checkIndex_8e157_6 : decode cJ3_checkIndex_8e157 6 = .ok (.if_icmp .lt 10, 3) := by decide +kernel
theorem dJ3_checkIndex_8e157_9 : decode cJ3_checkIndex_8e157 9 = .ok (.aload_n 2, 1) := by decide +kernel
theorem dJ3_checkIndex_8e157_10 : decode cJ3_checkIndex_8e157 10 = .ok (.iload_n 0, 1) := by decide +kernel
theorem dJ3_checkIndex_8e157_11 : decode cJ3_checkIndex_8e157 11 = .ok (.iload_n 1, 1) := by decide +kernel
theorem dJ3_checkIndex_8e157_12 : decode cJ3_checkIndex_8e157 12 = .ok (.invokestatic 95, 3) := by decide +kernel
theorem dJ3_checkIndex_8e157_15 : decode cJ3_checkIndex_8e157 15 = .ok (.athrow, 1) := by decide +kernel
theorem dJ3_checkIndex_8e157_16 : decode cJ3_checkIndex_8e157 16 = .ok (.iload_n 0, 1) := by decide +kernel
theorem dJ3_checkIndex_8e157_17 : decode cJ3_checkIndex_8e157 17 = .ok (.ireturn, 1) := by decide +kernel
theorem dJ0_checkIndex_df160_0 : decode cJ0_checkIndex_df160 0 = .ok (.iload_n 0, 1) := by decide +kernel
theorem dJ0_checkIndex_df160_1 : decode cJ0_checkIndex_df160 1 = .ok (.iload_n 1, 1) := by decide +kernel
theorem dJ0_checkIndex_df160_2 : decode cJ0_checkIndex_df160 2 = .ok (.getstatic 1053, 3) := by decide +kernel
theorem dJ0_checkIndex_df160_5 : decode cJ0_checkIndex_df160 5 = .ok (.invokestatic 1059, 3) := by decide +kernel
theorem dJ0_checkIndex_df160_8 : decode cJ0_checkIndex_df160 8 = .ok (.pop, 1) := by decide +kernel
theorem dJ0_checkIndex_df160_9 : decode cJ0_checkIndex_df160 9 = .ok (.return_, 1) := by decide +kernel
def f_J3_checkIndex_8e157 (F : Nat) (x0 x1 : Int32) (σ : nd_Mem) : nd_Res := (if x0 < 0 then none else (if x0 < x1 then (some (x0, σ)) else none))
theorem t_J3_checkIndex_8e157 (F : Nat) (sh : List nd_S) {z : Int32 × nd_Mem} (w : Value) (hw : w = .null ∨ w = .ref 1000030) (x0 x1 : Int32) (σ : nd_Mem) (h : f_J3_checkIndex_8e157 F x0 x1 σ = some z) : nd_Fn M_J3_checkIndex_8e157 (nd_rm 0) [.int x0, .int x1, w] sh σ (nd_Pi sh z) := by
  rcases hw with rfl | rfl
  · refine nd_Fn.ofV (ls := [(0, .int x0), (1, .int x1), (2, .null)]) pl_J3_checkIndex_8e157 rfl (fun _ => Nat.le_of_ble_eq_true rfl) (fun _ => rfl) ?_
    unfold f_J3_checkIndex_8e157 at h
    refine nd_iload_n dJ3_checkIndex_8e157_0 0 rfl ?_
    refine nd_if_ltN dJ3_checkIndex_8e157_1 9 (by decide) h (fun h => ?_) (fun h => ?_)
    · cases h
    · refine nd_iload_n dJ3_checkIndex_8e157_4 0 rfl ?_
      refine nd_iload_n dJ3_checkIndex_8e157_5 1 rfl ?_
      refine nd_icmp_ltN dJ3_checkIndex_8e157_6 16 (by decide) h (fun h => ?_) (fun h => ?_)
      · refine nd_iload_n dJ3_checkIndex_8e157_16 0 rfl ?_
        exact nd_iret dJ3_checkIndex_8e157_17 (Nat.zero_le _) (Nat.zero_le _) (vp_nar_int _) (by cases h; exact ⟨rfl, rfl, rfl⟩)
      · cases h
  · refine nd_Fn.ofV (ls := [(0, .int x0), (1, .int x1), (2, .ref 1000030)]) pl_J3_checkIndex_8e157 rfl (fun _ => Nat.le_of_ble_eq_true rfl) (fun _ => rfl) ?_
    unfold f_J3_checkIndex_8e157 at h
    refine nd_iload_n dJ3_checkIndex_8e157_0 0 rfl ?_
    refine nd_if_ltN dJ3_checkIndex_8e157_1 9 (by decide) h (fun h => ?_) (fun h => ?_)
    · cases h
    · refine nd_iload_n dJ3_checkIndex_8e157_4 0 rfl ?_
      refine nd_iload_n dJ3_checkIndex_8e157_5 1 rfl ?_
      refine nd_icmp_ltN dJ3_checkIndex_8e157_6 16 (by decide) h (fun h => ?_) (fun h => ?_)
      · refine nd_iload_n dJ3_checkIndex_8e157_16 0 rfl ?_
        exact nd_iret dJ3_checkIndex_8e157_17 (Nat.zero_le _) (Nat.zero_le _) (vp_nar_int _) (by cases h; exact ⟨rfl, rfl, rfl⟩)
      · cases h
def f_J0_checkIndex_df160 (F : Nat) (x0 : Int32) (x1 : Int32) (σ : nd_Mem) : nd_Res := (nd_bind (f_J3_checkIndex_8e157 F x0 x1 σ) fun r1 σ2 => (some (0, σ2)))
theorem t_J0_checkIndex_df160 (F : Nat) (sh : List nd_S) (hL : sh.length < nd_ro) {z : Int32 × nd_Mem} (x0 : Int32) (x1 : Int32) (σ : nd_Mem) (h : f_J0_checkIndex_df160 F x0 x1 σ = some z) : nd_Fn M_J0_checkIndex_df160 (nd_rm 1) [.int x0, .int x1] sh σ (nd_Pv sh z) := by
  refine nd_Fn.ofV (ls := [(0, .int x0), (1, .int x1)]) pl_J0_checkIndex_df160 rfl (fun _ => Nat.le_of_ble_eq_true rfl) (fun _ => rfl) ?_
  unfold f_J0_checkIndex_df160 at h
  refine nd_iload_n dJ0_checkIndex_df160_0 0 rfl ?_
  refine nd_iload_n dJ0_checkIndex_df160_1 1 rfl ?_
  refine nd_getsF dJ0_checkIndex_df160_2 gs_J0_1053 (fun w hw => ?_)
  obtain ⟨r1, σ2, hc3, h⟩ := nd_bind_e h
  refine nd_csi [.int x0, .int x1, w] [] dJ0_checkIndex_df160_5 cl_J0_1059 ⟨Nat.le_of_ble_eq_true rfl, Nat.le_of_ble_eq_true rfl⟩ rfl (Nat.le_of_ble_eq_true rfl) hL (t_J3_checkIndex_8e157 F sh w hw _ _ _ hc3) ?_
  refine nd_pop dJ0_checkIndex_df160_8 rfl ?_
  exact nd_vret dJ0_checkIndex_df160_9 (Nat.zero_le _) (Nat.zero_le _) trivial (by cases h; exact ⟨rfl, rfl, rfl⟩)
