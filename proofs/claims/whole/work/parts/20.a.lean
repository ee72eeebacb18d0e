def f_J0_coder_7d493 (F : Nat) (i : Nat) (σ : nd_Mem) : nd_Res := (if (1 : Int32) = 0 then (if ¬ (narrow .byte (.int (1 : Int32)) = .int (1 : Int32)) then none else (some ((1 : Int32), σ))) else (if ¬ (narrow .byte (.int (0 : Int32)) = .int (0 : Int32)) then none else (some ((0 : Int32), σ))))
set_option maxRecDepth 100000 in
set_option maxHeartbeats 4000000 in
theorem t_J0_coder_7d493 (F : Nat) (i : Nat) (sh : List nd_S) (hL : sh.length < nd_ro) (hs : i < 5) {z : Int32 × nd_Mem} (σ : nd_Mem) (h : f_J0_coder_7d493 F i σ = some z) : nd_Fn M_J0_coder_7d493 (nd_rm 0) [.ref (1000001 + i)] sh σ (nd_Pi sh z) := by
  refine nd_Fn.ofV (ls := [(0, .ref (1000001 + i))]) pl_J0_coder_7d493 rfl (fun _ => Nat.le_of_ble_eq_true rfl) (fun _ => rfl) ?_
  unfold f_J0_coder_7d493 at h
  refine nd_getsC dJ0_coder_7d493_0 gs_J0_38 ?_
  refine nd_if_eqN dJ0_coder_7d493_3 13 (by decide) h (fun h => ?_) (fun h => ?_)
  · refine nd_iconst dJ0_coder_7d493_13 ic_1 ?_
    exact nd_iret dJ0_coder_7d493_14 (Nat.zero_le _) (Nat.zero_le _) (Classical.not_not.mp (nd_no_e h).1) (by have h := (nd_no_e h).2; cases h; exact ⟨rfl, rfl, rfl⟩)
  · refine nd_aload_n dJ0_coder_7d493_6 0 rfl ?_
    refine nd_getSc hs dJ0_coder_7d493_7 sl_J0_15 ?_
    refine nd_goto dJ0_coder_7d493_10 14 (by decide) ?_
    exact nd_iret dJ0_coder_7d493_14 (Nat.zero_le _) (Nat.zero_le _) (Classical.not_not.mp (nd_no_e h).1) (by have h := (nd_no_e h).2; cases h; exact ⟨rfl, rfl, rfl⟩)
def f_J0_isLatin1_aae02_17 (F : Nat) (i : Nat) (σ : nd_Mem) : nd_Res := (some ((0 : Int32), σ))
def f_J0_isLatin1_aae02 (F : Nat) (i : Nat) (σ : nd_Mem) : nd_Res := (if (1 : Int32) = 0 then (f_J0_isLatin1_aae02_17 F i σ) else (if (0 : Int32) = 0 then (some ((1 : Int32), σ)) else (f_J0_isLatin1_aae02_17 F i σ)))
set_option maxRecDepth 100000 in
set_option maxHeartbeats 4000000 in
theorem b_J0_isLatin1_aae02_17 (F : Nat) (i : Nat) (sh : List nd_S) (hL : sh.length < nd_ro) (hs : i < 5) {z : Int32 × nd_Mem} (σ : nd_Mem) (h : f_J0_isLatin1_aae02_17 F i σ = some z) : nd_V M_J0_isLatin1_aae02 (nd_rm 0) (nd_Pi sh z) 0 0 17 [(0, .ref (1000001 + i))] [] sh σ := by
  unfold f_J0_isLatin1_aae02_17 at h
  refine nd_iconst dJ0_isLatin1_aae02_17 ic_0 ?_
  exact nd_iret dJ0_isLatin1_aae02_18 (Nat.zero_le _) (Nat.zero_le _) rfl (by cases h; exact ⟨rfl, rfl, rfl⟩)
set_option maxRecDepth 100000 in
set_option maxHeartbeats 4000000 in
theorem t_J0_isLatin1_aae02 (F : Nat) (i : Nat) (sh : List nd_S) (hL : sh.length < nd_ro) (hs : i < 5) {z : Int32 × nd_Mem} (σ : nd_Mem) (h : f_J0_isLatin1_aae02 F i σ = some z) : nd_Fn M_J0_isLatin1_aae02 (nd_rm 0) [.ref (1000001 + i)] sh σ (nd_Pi sh z) := by
  refine nd_Fn.ofV (ls := [(0, .ref (1000001 + i))]) pl_J0_isLatin1_aae02 rfl (fun _ => Nat.le_of_ble_eq_true rfl) (fun _ => rfl) ?_
  unfold f_J0_isLatin1_aae02 at h
  refine nd_getsC dJ0_isLatin1_aae02_0 gs_J0_38 ?_
  refine nd_if_eqN dJ0_isLatin1_aae02_3 17 (by decide) h (fun h => ?_) (fun h => ?_)
  · exact b_J0_isLatin1_aae02_17 F i sh hL hs _ h
  · refine nd_aload_n dJ0_isLatin1_aae02_6 0 rfl ?_
    refine nd_getSc hs dJ0_isLatin1_aae02_7 sl_J0_15 ?_
    refine nd_if_neN dJ0_isLatin1_aae02_10 17 (by decide) h (fun h => ?_) (fun h => ?_)
    · exact b_J0_isLatin1_aae02_17 F i sh hL hs _ h
    · refine nd_iconst dJ0_isLatin1_aae02_13 ic_1 ?_
      refine nd_goto dJ0_isLatin1_aae02_14 18 (by decide) ?_
      exact nd_iret dJ0_isLatin1_aae02_18 (Nat.zero_le _) (Nat.zero_le _) rfl (by cases h; exact ⟨rfl, rfl, rfl⟩)
def f_J1_canEncode_9a6ad_15 (F : Nat) (σ : nd_Mem) : nd_Res := (some ((0 : Int32), σ))
def f_J1_canEncode_9a6ad (F : Nat) (x0 : Int32) (σ : nd_Mem) : nd_Res := (if x0 < 0 then (f_J1_canEncode_9a6ad_15 F σ) else (if (255 : Int32) < x0 then (f_J1_canEncode_9a6ad_15 F σ) else (some ((1 : Int32), σ))))
set_option maxRecDepth 100000 in
set_option maxHeartbeats 4000000 in
theorem b_J1_canEncode_9a6ad_15 (F : Nat) (sh : List nd_S) (hL : sh.length < nd_ro) {z : Int32 × nd_Mem} (σ : nd_Mem) (h : f_J1_canEncode_9a6ad_15 F σ = some z) : nd_V M_J1_canEncode_9a6ad (nd_rm 0) (nd_Pi sh z) 0 0 15 [] [] sh σ := by
  unfold f_J1_canEncode_9a6ad_15 at h
  refine nd_iconst dJ1_canEncode_9a6ad_15 ic_0 ?_
  exact nd_iret dJ1_canEncode_9a6ad_16 (Nat.zero_le _) (Nat.zero_le _) rfl (by cases h; exact ⟨rfl, rfl, rfl⟩)
set_option maxRecDepth 100000 in
set_option maxHeartbeats 4000000 in
theorem t_J1_canEncode_9a6ad (F : Nat) (sh : List nd_S) (hL : sh.length < nd_ro) {z : Int32 × nd_Mem} (x0 : Int32) (σ : nd_Mem) (h : f_J1_canEncode_9a6ad F x0 σ = some z) : nd_Fn M_J1_canEncode_9a6ad (nd_rm 0) [.int x0] sh σ (nd_Pi sh z) := by
  refine nd_Fn.ofV (ls := [(0, .int x0)]) pl_J1_canEncode_9a6ad rfl (fun _ => Nat.le_of_ble_eq_true rfl) (fun _ => rfl) ?_
  unfold f_J1_canEncode_9a6ad at h
  refine nd_iload_n dJ1_canEncode_9a6ad_0 0 rfl ?_
  refine nd_if_ltN dJ1_canEncode_9a6ad_1 15 (by decide) h (fun h => ?_) (fun h => ?_)
  · refine nd_sub [] rfl ?_
    exact b_J1_canEncode_9a6ad_15 F sh hL _ h
  · refine nd_iload_n dJ1_canEncode_9a6ad_4 0 rfl ?_
    refine nd_sipush dJ1_canEncode_9a6ad_5 is_255 ?_
    refine nd_icmp_gtN dJ1_canEncode_9a6ad_8 15 (by decide) h (fun h => ?_) (fun h => ?_)
    · refine nd_sub [] rfl ?_
      exact b_J1_canEncode_9a6ad_15 F sh hL _ h
    · refine nd_iconst dJ1_canEncode_9a6ad_11 ic_1 ?_
      refine nd_goto dJ1_canEncode_9a6ad_12 16 (by decide) ?_
      exact nd_iret dJ1_canEncode_9a6ad_16 (Nat.zero_le _) (Nat.zero_le _) rfl (by cases h; exact ⟨rfl, rfl, rfl⟩)
def f_J1_indexOfChar_4cfef_7_b (F : Nat) (rec7 : Int32 → Int32 → Int32 → nd_Mem → nd_Res) (o0i : Nat) (x3 : Int32) (x4 : Int32) (x5 : Int32) (σ : nd_Mem) : nd_Res := (if x3 ≤ x5 then (some ((-1 : Int32), σ)) else (if x5 < 0 ∨ nd_ln.getD o0i 0 ≤ (x5).toNatClampNeg then none else (if ((nd_by.getD o0i []).getD (x5).toNatClampNeg 0) = x4 then (some (x5, σ)) else (rec7 x3 x4 (x5 + (1 : Int32)) σ))))
def f_J1_indexOfChar_4cfef_7 (F : Nat) (o0i : Nat) : Nat → Int32 → Int32 → Int32 → nd_Mem → nd_Res
  | 0, _, _, _, _ => none
  | m9 + 1, x3, x4, x5, σ => f_J1_indexOfChar_4cfef_7_b F (f_J1_indexOfChar_4cfef_7 F o0i m9) o0i x3 x4 x5 σ
def f_J1_indexOfChar_4cfef (F : Nat) (o0i : Nat) (x1 : Int32) (x2 : Int32) (x3 : Int32) (σ : nd_Mem) : nd_Res := (f_J1_indexOfChar_4cfef_7 F o0i F x3 (x1).toInt8.toInt32 x2 σ)
set_option maxRecDepth 100000 in
set_option maxHeartbeats 4000000 in
theorem b_J1_indexOfChar_4cfef_7 (F : Nat) (o0i : Nat) (sh : List nd_S) (hL : sh.length < nd_ro) (hso0 : o0i < 5) {z : Int32 × nd_Mem} (m9 : Nat) : ∀ (x3 : Int32) (x4 : Int32) (x5 : Int32) (σ : nd_Mem), f_J1_indexOfChar_4cfef_7 F o0i m9 x3 x4 x5 σ = some z → nd_V M_J1_indexOfChar_4cfef (nd_rm 0) (nd_Pi sh z) 0 0 7 [(0, .ref (1000006 + o0i)), (3, .int x3), (4, .int x4), (5, .int x5)] [] sh σ := by
  induction m9 with
  | zero =>
    intro x3 x4 x5 σ h
    have h : none = some z := h
    cases h
  | succ m9 hrec7 =>
    intro x3 x4 x5 σ h
    have h : f_J1_indexOfChar_4cfef_7_b F (f_J1_indexOfChar_4cfef_7 F o0i m9) o0i x3 x4 x5 σ = some z := h
    unfold f_J1_indexOfChar_4cfef_7_b at h
    refine nd_iload dJ1_indexOfChar_4cfef_7 3 rfl ?_
    refine nd_iload_n dJ1_indexOfChar_4cfef_9 1 rfl ?_
    refine nd_icmp_geN dJ1_indexOfChar_4cfef_10 31 (by decide) h (fun h => ?_) (fun h => ?_)
    · refine nd_iconst dJ1_indexOfChar_4cfef_31 ic_m1 ?_
      exact nd_iret dJ1_indexOfChar_4cfef_32 (Nat.zero_le _) (Nat.zero_le _) (vp_nar_int _) (by cases h; exact ⟨rfl, rfl, rfl⟩)
    · refine nd_aload_n dJ1_indexOfChar_4cfef_13 0 rfl ?_
      refine nd_iload dJ1_indexOfChar_4cfef_14 3 rfl ?_
      refine nd_baloadN hso0 dJ1_indexOfChar_4cfef_16 h (fun h => ?_)
      refine nd_iload dJ1_indexOfChar_4cfef_17 2 rfl ?_
      refine nd_icmp_neN dJ1_indexOfChar_4cfef_19 25 (by decide) h (fun h => ?_) (fun h => ?_)
      · refine nd_iinc (v := (x5 + (1 : Int32))) (ls' := [(5, .int (x5 + (1 : Int32))), (0, .ref (1000006 + o0i)), (3, .int x3), (4, .int x4)]) dJ1_indexOfChar_4cfef_25 3 rfl (congrArg (HAdd.hAdd _) ic_1) (by decide) rfl ?_
        refine nd_goto dJ1_indexOfChar_4cfef_28 7 (by decide) ?_
        refine nd_sub [1, 2, 3, 0] rfl ?_
        exact hrec7 _ _ _ _ h
      · refine nd_iload dJ1_indexOfChar_4cfef_22 3 rfl ?_
        exact nd_iret dJ1_indexOfChar_4cfef_24 (Nat.zero_le _) (Nat.zero_le _) (vp_nar_int _) (by cases h; exact ⟨rfl, rfl, rfl⟩)
set_option maxRecDepth 100000 in
set_option maxHeartbeats 4000000 in
theorem t_J1_indexOfChar_4cfef (F : Nat) (o0i : Nat) (sh : List nd_S) (hL : sh.length < nd_ro) (hso0 : o0i < 5) {z : Int32 × nd_Mem} (x1 : Int32) (x2 : Int32) (x3 : Int32) (σ : nd_Mem) (h : f_J1_indexOfChar_4cfef F o0i x1 x2 x3 σ = some z) : nd_Fn M_J1_indexOfChar_4cfef (nd_rm 0) [.ref (1000006 + o0i), .int x1, .int x2, .int x3] sh σ (nd_Pi sh z) := by
  refine nd_Fn.ofV (ls := [(0, .ref (1000006 + o0i)), (1, .int x1), (2, .int x2), (3, .int x3)]) pl_J1_indexOfChar_4cfef rfl (fun _ => Nat.le_of_ble_eq_true rfl) (fun _ => rfl) ?_
  unfold f_J1_indexOfChar_4cfef at h
  refine nd_iload_n dJ1_indexOfChar_4cfef_0 1 rfl ?_
  refine nd_i2b dJ1_indexOfChar_4cfef_1 ?_
  refine nd_istore (ls' := [(4, .int (x1).toInt8.toInt32), (0, .ref (1000006 + o0i)), (1, .int x1), (2, .int x2), (3, .int x3)]) dJ1_indexOfChar_4cfef_2 (by decide) rfl ?_
  refine nd_iload_n dJ1_indexOfChar_4cfef_4 3 rfl ?_
  refine nd_istore (ls' := [(5, .int x2), (4, .int (x1).toInt8.toInt32), (0, .ref (1000006 + o0i)), (1, .int x1), (2, .int x2), (3, .int x3)]) dJ1_indexOfChar_4cfef_5 (by decide) rfl ?_
  refine nd_sub [2, 5, 1, 0] rfl ?_
  exact b_J1_indexOfChar_4cfef_7 F o0i sh hL hso0 F _ _ _ _ h
def f_J6_bitCount_0f7a4 (F : Nat) (x0 : Int32) (σ : nd_Mem) : nd_Res := (some (((((((((x0 - ((q_ushr x0 (1 : Int32)) &&& (1431655765 : Int32))) &&& (858993459 : Int32)) + ((q_ushr (x0 - ((q_ushr x0 (1 : Int32)) &&& (1431655765 : Int32))) (2 : Int32)) &&& (858993459 : Int32))) + (q_ushr (((x0 - ((q_ushr x0 (1 : Int32)) &&& (1431655765 : Int32))) &&& (858993459 : Int32)) + ((q_ushr (x0 - ((q_ushr x0 (1 : Int32)) &&& (1431655765 : Int32))) (2 : Int32)) &&& (858993459 : Int32))) (4 : Int32))) &&& (252645135 : Int32)) + (q_ushr (((((x0 - ((q_ushr x0 (1 : Int32)) &&& (1431655765 : Int32))) &&& (858993459 : Int32)) + ((q_ushr (x0 - ((q_ushr x0 (1 : Int32)) &&& (1431655765 : Int32))) (2 : Int32)) &&& (858993459 : Int32))) + (q_ushr (((x0 - ((q_ushr x0 (1 : Int32)) &&& (1431655765 : Int32))) &&& (858993459 : Int32)) + ((q_ushr (x0 - ((q_ushr x0 (1 : Int32)) &&& (1431655765 : Int32))) (2 : Int32)) &&& (858993459 : Int32))) (4 : Int32))) &&& (252645135 : Int32)) (8 : Int32))) + (q_ushr ((((((x0 - ((q_ushr x0 (1 : Int32)) &&& (1431655765 : Int32))) &&& (858993459 : Int32)) + ((q_ushr (x0 - ((q_ushr x0 (1 : Int32)) &&& (1431655765 : Int32))) (2 : Int32)) &&& (858993459 : Int32))) + (q_ushr (((x0 - ((q_ushr x0 (1 : Int32)) &&& (1431655765 : Int32))) &&& (858993459 : Int32)) + ((q_ushr (x0 - ((q_ushr x0 (1 : Int32)) &&& (1431655765 : Int32))) (2 : Int32)) &&& (858993459 : Int32))) (4 : Int32))) &&& (252645135 : Int32)) + (q_ushr (((((x0 - ((q_ushr x0 (1 : Int32)) &&& (1431655765 : Int32))) &&& (858993459 : Int32)) + ((q_ushr (x0 - ((q_ushr x0 (1 : Int32)) &&& (1431655765 : Int32))) (2 : Int32)) &&& (858993459 : Int32))) + (q_ushr (((x0 - ((q_ushr x0 (1 : Int32)) &&& (1431655765 : Int32))) &&& (858993459 : Int32)) + ((q_ushr (x0 - ((q_ushr x0 (1 : Int32)) &&& (1431655765 : Int32))) (2 : Int32)) &&& (858993459 : Int32))) (4 : Int32))) &&& (252645135 : Int32)) (8 : Int32))) (16 : Int32))) &&& (63 : Int32)), σ))
set_option maxRecDepth 100000 in
set_option maxHeartbeats 4000000 in
theorem t_J6_bitCount_0f7a4 (F : Nat) (sh : List nd_S) (hL : sh.length < nd_ro) {z : Int32 × nd_Mem} (x0 : Int32) (σ : nd_Mem) (h : f_J6_bitCount_0f7a4 F x0 σ = some z) : nd_Fn M_J6_bitCount_0f7a4 (nd_rm 0) [.int x0] sh σ (nd_Pi sh z) := by
  refine nd_Fn.ofV (ls := [(0, .int x0)]) pl_J6_bitCount_0f7a4 rfl (fun _ => Nat.le_of_ble_eq_true rfl) (fun _ => rfl) ?_
  unfold f_J6_bitCount_0f7a4 at h
  refine nd_iload_n dJ6_bitCount_0f7a4_0 0 rfl ?_
  refine nd_iload_n dJ6_bitCount_0f7a4_1 0 rfl ?_
  refine nd_iconst dJ6_bitCount_0f7a4_2 ic_1 ?_
  refine nd_iushr dJ6_bitCount_0f7a4_3 ?_
  refine nd_ldcw dJ6_bitCount_0f7a4_4 kc_J6_265 ?_
  refine nd_iand dJ6_bitCount_0f7a4_7 ?_
  refine nd_isub dJ6_bitCount_0f7a4_8 ?_
  refine nd_istore_n (ls' := [(0, .int (x0 - ((q_ushr x0 (1 : Int32)) &&& (1431655765 : Int32))))]) dJ6_bitCount_0f7a4_9 (by decide) rfl ?_
  refine nd_iload_n dJ6_bitCount_0f7a4_10 0 rfl ?_
  refine nd_ldcw dJ6_bitCount_0f7a4_11 kc_J6_266 ?_
  refine nd_iand dJ6_bitCount_0f7a4_14 ?_
  refine nd_iload_n dJ6_bitCount_0f7a4_15 0 rfl ?_
  refine nd_iconst dJ6_bitCount_0f7a4_16 ic_2 ?_
  refine nd_iushr dJ6_bitCount_0f7a4_17 ?_
  refine nd_ldcw dJ6_bitCount_0f7a4_18 kc_J6_266 ?_
  refine nd_iand dJ6_bitCount_0f7a4_21 ?_
  refine nd_iadd dJ6_bitCount_0f7a4_22 ?_
  refine nd_istore_n (ls' := [(0, .int (((x0 - ((q_ushr x0 (1 : Int32)) &&& (1431655765 : Int32))) &&& (858993459 : Int32)) + ((q_ushr (x0 - ((q_ushr x0 (1 : Int32)) &&& (1431655765 : Int32))) (2 : Int32)) &&& (858993459 : Int32))))]) dJ6_bitCount_0f7a4_23 (by decide) rfl ?_
  refine nd_iload_n dJ6_bitCount_0f7a4_24 0 rfl ?_
  refine nd_iload_n dJ6_bitCount_0f7a4_25 0 rfl ?_
  refine nd_iconst dJ6_bitCount_0f7a4_26 ic_4 ?_
  refine nd_iushr dJ6_bitCount_0f7a4_27 ?_
  refine nd_iadd dJ6_bitCount_0f7a4_28 ?_
  refine nd_ldcw dJ6_bitCount_0f7a4_29 kc_J6_267 ?_
  refine nd_iand dJ6_bitCount_0f7a4_32 ?_
  refine nd_istore_n (ls' := [(0, .int (((((x0 - ((q_ushr x0 (1 : Int32)) &&& (1431655765 : Int32))) &&& (858993459 : Int32)) + ((q_ushr (x0 - ((q_ushr x0 (1 : Int32)) &&& (1431655765 : Int32))) (2 : Int32)) &&& (858993459 : Int32))) + (q_ushr (((x0 - ((q_ushr x0 (1 : Int32)) &&& (1431655765 : Int32))) &&& (858993459 : Int32)) + ((q_ushr (x0 - ((q_ushr x0 (1 : Int32)) &&& (1431655765 : Int32))) (2 : Int32)) &&& (858993459 : Int32))) (4 : Int32))) &&& (252645135 : Int32)))]) dJ6_bitCount_0f7a4_33 (by decide) rfl ?_
  refine nd_iload_n dJ6_bitCount_0f7a4_34 0 rfl ?_
  refine nd_iload_n dJ6_bitCount_0f7a4_35 0 rfl ?_
  refine nd_bipush dJ6_bitCount_0f7a4_36 ib_8 ?_
  refine nd_iushr dJ6_bitCount_0f7a4_38 ?_
  refine nd_iadd dJ6_bitCount_0f7a4_39 ?_
  refine nd_istore_n (ls' := [(0, .int ((((((x0 - ((q_ushr x0 (1 : Int32)) &&& (1431655765 : Int32))) &&& (858993459 : Int32)) + ((q_ushr (x0 - ((q_ushr x0 (1 : Int32)) &&& (1431655765 : Int32))) (2 : Int32)) &&& (858993459 : Int32))) + (q_ushr (((x0 - ((q_ushr x0 (1 : Int32)) &&& (1431655765 : Int32))) &&& (858993459 : Int32)) + ((q_ushr (x0 - ((q_ushr x0 (1 : Int32)) &&& (1431655765 : Int32))) (2 : Int32)) &&& (858993459 : Int32))) (4 : Int32))) &&& (252645135 : Int32)) + (q_ushr (((((x0 - ((q_ushr x0 (1 : Int32)) &&& (1431655765 : Int32))) &&& (858993459 : Int32)) + ((q_ushr (x0 - ((q_ushr x0 (1 : Int32)) &&& (1431655765 : Int32))) (2 : Int32)) &&& (858993459 : Int32))) + (q_ushr (((x0 - ((q_ushr x0 (1 : Int32)) &&& (1431655765 : Int32))) &&& (858993459 : Int32)) + ((q_ushr (x0 - ((q_ushr x0 (1 : Int32)) &&& (1431655765 : Int32))) (2 : Int32)) &&& (858993459 : Int32))) (4 : Int32))) &&& (252645135 : Int32)) (8 : Int32))))]) dJ6_bitCount_0f7a4_40 (by decide) rfl ?_
  refine nd_iload_n dJ6_bitCount_0f7a4_41 0 rfl ?_
  refine nd_iload_n dJ6_bitCount_0f7a4_42 0 rfl ?_
  refine nd_bipush dJ6_bitCount_0f7a4_43 ib_16 ?_
  refine nd_iushr dJ6_bitCount_0f7a4_45 ?_
  refine nd_iadd dJ6_bitCount_0f7a4_46 ?_
  refine nd_istore_n (ls' := [(0, .int (((((((x0 - ((q_ushr x0 (1 : Int32)) &&& (1431655765 : Int32))) &&& (858993459 : Int32)) + ((q_ushr (x0 - ((q_ushr x0 (1 : Int32)) &&& (1431655765 : Int32))) (2 : Int32)) &&& (858993459 : Int32))) + (q_ushr (((x0 - ((q_ushr x0 (1 : Int32)) &&& (1431655765 : Int32))) &&& (858993459 : Int32)) + ((q_ushr (x0 - ((q_ushr x0 (1 : Int32)) &&& (1431655765 : Int32))) (2 : Int32)) &&& (858993459 : Int32))) (4 : Int32))) &&& (252645135 : Int32)) + (q_ushr (((((x0 - ((q_ushr x0 (1 : Int32)) &&& (1431655765 : Int32))) &&& (858993459 : Int32)) + ((q_ushr (x0 - ((q_ushr x0 (1 : Int32)) &&& (1431655765 : Int32))) (2 : Int32)) &&& (858993459 : Int32))) + (q_ushr (((x0 - ((q_ushr x0 (1 : Int32)) &&& (1431655765 : Int32))) &&& (858993459 : Int32)) + ((q_ushr (x0 - ((q_ushr x0 (1 : Int32)) &&& (1431655765 : Int32))) (2 : Int32)) &&& (858993459 : Int32))) (4 : Int32))) &&& (252645135 : Int32)) (8 : Int32))) + (q_ushr ((((((x0 - ((q_ushr x0 (1 : Int32)) &&& (1431655765 : Int32))) &&& (858993459 : Int32)) + ((q_ushr (x0 - ((q_ushr x0 (1 : Int32)) &&& (1431655765 : Int32))) (2 : Int32)) &&& (858993459 : Int32))) + (q_ushr (((x0 - ((q_ushr x0 (1 : Int32)) &&& (1431655765 : Int32))) &&& (858993459 : Int32)) + ((q_ushr (x0 - ((q_ushr x0 (1 : Int32)) &&& (1431655765 : Int32))) (2 : Int32)) &&& (858993459 : Int32))) (4 : Int32))) &&& (252645135 : Int32)) + (q_ushr (((((x0 - ((q_ushr x0 (1 : Int32)) &&& (1431655765 : Int32))) &&& (858993459 : Int32)) + ((q_ushr (x0 - ((q_ushr x0 (1 : Int32)) &&& (1431655765 : Int32))) (2 : Int32)) &&& (858993459 : Int32))) + (q_ushr (((x0 - ((q_ushr x0 (1 : Int32)) &&& (1431655765 : Int32))) &&& (858993459 : Int32)) + ((q_ushr (x0 - ((q_ushr x0 (1 : Int32)) &&& (1431655765 : Int32))) (2 : Int32)) &&& (858993459 : Int32))) (4 : Int32))) &&& (252645135 : Int32)) (8 : Int32))) (16 : Int32))))]) dJ6_bitCount_0f7a4_47 (by decide) rfl ?_
  refine nd_iload_n dJ6_bitCount_0f7a4_48 0 rfl ?_
  refine nd_bipush dJ6_bitCount_0f7a4_49 ib_63 ?_
  refine nd_iand dJ6_bitCount_0f7a4_51 ?_
  exact nd_iret dJ6_bitCount_0f7a4_52 (Nat.zero_le _) (Nat.zero_le _) (vp_nar_int _) (by cases h; exact ⟨rfl, rfl, rfl⟩)
def f_J7_fill_53178_5_b (F : Nat) (rec5 : Int32 → Int32 → Int32 → nd_Mem → nd_Res) (o0a o0n : Nat) (x1 : Int32) (x2 : Int32) (x3 : Int32) (σ : nd_Mem) : nd_Res := (if x3 ≤ x2 then (some (0, σ)) else (if x2 < 0 ∨ o0n ≤ (x2).toNatClampNeg then none else (nd_let (nd_up σ o0a (x2).toNatClampNeg x1) fun σ1 => (rec5 x1 (x2 + (1 : Int32)) x3 σ1))))
def f_J7_fill_53178_5 (F : Nat) (o0a o0n : Nat) : Nat → Int32 → Int32 → Int32 → nd_Mem → nd_Res
  | 0, _, _, _, _ => none
  | m9 + 1, x1, x2, x3, σ => f_J7_fill_53178_5_b F (f_J7_fill_53178_5 F o0a o0n m9) o0a o0n x1 x2 x3 σ
def f_J7_fill_53178 (F : Nat) (o0a o0n : Nat) (x1 : Int32) (σ : nd_Mem) : nd_Res := (f_J7_fill_53178_5 F o0a o0n F x1 (0 : Int32) (Int32.ofNat o0n) σ)
set_option maxRecDepth 100000 in
set_option maxHeartbeats 4000000 in
theorem b_J7_fill_53178_5 (F : Nat) (o0a o0n : Nat) (sh : List nd_S) (hL : sh.length < nd_ro) (hso0 : sh[o0a]? = some (.inr (.inl o0n))) {z : Int32 × nd_Mem} (m9 : Nat) : ∀ (x1 : Int32) (x2 : Int32) (x3 : Int32) (σ : nd_Mem), f_J7_fill_53178_5 F o0a o0n m9 x1 x2 x3 σ = some z → nd_V M_J7_fill_53178 (nd_rm 0) (nd_Pv sh z) 0 0 5 [(0, .ref o0a), (1, .int x1), (2, .int x2), (3, .int x3)] [] sh σ := by
  induction m9 with
  | zero =>
    intro x1 x2 x3 σ h
    have h : none = some z := h
    cases h
  | succ m9 hrec5 =>
    intro x1 x2 x3 σ h
    have h : f_J7_fill_53178_5_b F (f_J7_fill_53178_5 F o0a o0n m9) o0a o0n x1 x2 x3 σ = some z := h
    unfold f_J7_fill_53178_5_b at h
    refine nd_iload_n dJ7_fill_53178_5 2 rfl ?_
    refine nd_iload_n dJ7_fill_53178_6 3 rfl ?_
    refine nd_icmp_geN dJ7_fill_53178_7 20 (by decide) h (fun h => ?_) (fun h => ?_)
    · exact nd_vret dJ7_fill_53178_20 (Nat.zero_le _) (Nat.zero_le _) trivial (by cases h; exact ⟨rfl, rfl, rfl⟩)
    · refine nd_aload_n dJ7_fill_53178_10 0 rfl ?_
      refine nd_iload_n dJ7_fill_53178_11 2 rfl ?_
      refine nd_iload_n dJ7_fill_53178_12 1 rfl ?_
      refine nd_iastoreN dJ7_fill_53178_13 hso0 h (fun σ1 h => ?_)
      refine nd_iinc (v := (x2 + (1 : Int32))) (ls' := [(2, .int (x2 + (1 : Int32))), (0, .ref o0a), (1, .int x1), (3, .int x3)]) dJ7_fill_53178_14 2 rfl (congrArg (HAdd.hAdd _) ic_1) (by decide) rfl ?_
      refine nd_goto dJ7_fill_53178_17 5 (by decide) ?_
      refine nd_sub [1, 2, 0, 3] rfl ?_
      exact hrec5 _ _ _ _ h
set_option maxRecDepth 100000 in
set_option maxHeartbeats 4000000 in
theorem t_J7_fill_53178 (F : Nat) (o0a o0n : Nat) (sh : List nd_S) (hL : sh.length < nd_ro) (hso0 : sh[o0a]? = some (.inr (.inl o0n))) {z : Int32 × nd_Mem} (x1 : Int32) (σ : nd_Mem) (h : f_J7_fill_53178 F o0a o0n x1 σ = some z) : nd_Fn M_J7_fill_53178 (nd_rm 0) [.ref o0a, .int x1] sh σ (nd_Pv sh z) := by
  refine nd_Fn.ofV (ls := [(0, .ref o0a), (1, .int x1)]) pl_J7_fill_53178 rfl (fun _ => Nat.le_of_ble_eq_true rfl) (fun _ => rfl) ?_
  unfold f_J7_fill_53178 at h
  refine nd_iconst dJ7_fill_53178_0 ic_0 ?_
  refine nd_istore_n (ls' := [(2, .int (0 : Int32)), (0, .ref o0a), (1, .int x1)]) dJ7_fill_53178_1 (by decide) rfl ?_
  refine nd_aload_n dJ7_fill_53178_2 1 rfl ?_
  refine nd_alen (v := (Int32.ofNat o0n)) dJ7_fill_53178_3 hso0 rfl ?_
  refine nd_istore_n (ls' := [(3, .int (Int32.ofNat o0n)), (2, .int (0 : Int32)), (0, .ref o0a), (1, .int x1)]) dJ7_fill_53178_4 (by decide) rfl ?_
  refine nd_sub [2, 3, 1, 0] rfl ?_
  exact b_J7_fill_53178_5 F o0a o0n sh hL hso0 F _ _ _ _ h
def f_J9_floorMod_7cf53_18 (F : Nat) (x2 : Int32) (σ : nd_Mem) : nd_Res := (some (x2, σ))
def f_J9_floorMod_7cf53 (F : Nat) (x0 : Int32) (x1 : Int32) (σ : nd_Mem) : nd_Res := (if x1 = 0 then none else (if 0 ≤ (x0 ^^^ x1) then (f_J9_floorMod_7cf53_18 F (q_rem x0 x1) σ) else (if (q_rem x0 x1) = 0 then (f_J9_floorMod_7cf53_18 F (q_rem x0 x1) σ) else (some (((q_rem x0 x1) + x1), σ)))))
set_option maxRecDepth 100000 in
set_option maxHeartbeats 4000000 in
theorem b_J9_floorMod_7cf53_18 (F : Nat) (sh : List nd_S) (hL : sh.length < nd_ro) {z : Int32 × nd_Mem} (x2 : Int32) (σ : nd_Mem) (h : f_J9_floorMod_7cf53_18 F x2 σ = some z) : nd_V M_J9_floorMod_7cf53 (nd_rm 0) (nd_Pi sh z) 0 0 18 [(2, .int x2)] [] sh σ := by
  unfold f_J9_floorMod_7cf53_18 at h
  refine nd_iload_n dJ9_floorMod_7cf53_18 0 rfl ?_
  exact nd_iret dJ9_floorMod_7cf53_19 (Nat.zero_le _) (Nat.zero_le _) (vp_nar_int _) (by cases h; exact ⟨rfl, rfl, rfl⟩)
set_option maxRecDepth 100000 in
set_option maxHeartbeats 4000000 in
theorem t_J9_floorMod_7cf53 (F : Nat) (sh : List nd_S) (hL : sh.length < nd_ro) {z : Int32 × nd_Mem} (x0 : Int32) (x1 : Int32) (σ : nd_Mem) (h : f_J9_floorMod_7cf53 F x0 x1 σ = some z) : nd_Fn M_J9_floorMod_7cf53 (nd_rm 0) [.int x0, .int x1] sh σ (nd_Pi sh z) := by
  refine nd_Fn.ofV (ls := [(0, .int x0), (1, .int x1)]) pl_J9_floorMod_7cf53 rfl (fun _ => Nat.le_of_ble_eq_true rfl) (fun _ => rfl) ?_
  unfold f_J9_floorMod_7cf53 at h
  refine nd_iload_n dJ9_floorMod_7cf53_0 0 rfl ?_
  refine nd_iload_n dJ9_floorMod_7cf53_1 1 rfl ?_
  refine nd_iremN dJ9_floorMod_7cf53_2 h (fun h => ?_)
  refine nd_istore_n (ls' := [(2, .int (q_rem x0 x1)), (0, .int x0), (1, .int x1)]) dJ9_floorMod_7cf53_3 (by decide) rfl ?_
  refine nd_iload_n dJ9_floorMod_7cf53_4 1 rfl ?_
  refine nd_iload_n dJ9_floorMod_7cf53_5 2 rfl ?_
  refine nd_ixor dJ9_floorMod_7cf53_6 ?_
  refine nd_if_geN dJ9_floorMod_7cf53_7 18 (by decide) h (fun h => ?_) (fun h => ?_)
  · refine nd_sub [0] rfl ?_
    exact b_J9_floorMod_7cf53_18 F sh hL _ _ h
  · refine nd_iload_n dJ9_floorMod_7cf53_10 0 rfl ?_
    refine nd_if_eqN dJ9_floorMod_7cf53_11 18 (by decide) h (fun h => ?_) (fun h => ?_)
    · refine nd_sub [0] rfl ?_
      exact b_J9_floorMod_7cf53_18 F sh hL _ _ h
    · refine nd_iload_n dJ9_floorMod_7cf53_14 0 rfl ?_
      refine nd_iload_n dJ9_floorMod_7cf53_15 2 rfl ?_
      refine nd_iadd dJ9_floorMod_7cf53_16 ?_
      exact nd_iret dJ9_floorMod_7cf53_17 (Nat.zero_le _) (Nat.zero_le _) (vp_nar_int _) (by cases h; exact ⟨rfl, rfl, rfl⟩)
def f_X0_commonPart_34 (F : Nat) (x2 : Int32) (σ : nd_Mem) : nd_Res := (some (x2, σ))
def f_X0_commonPart_7_b (F : Nat) (rec7 : Int32 → Int32 → Int32 → nd_Mem → nd_Res) (x2 : Int32) (x3 : Int32) (x4 : Int32) (σ : nd_Mem) : nd_Res := (if (100 : Int32) ≤ x4 then (f_X0_commonPart_34 F x2 σ) else (if x3 = 0 then (f_X0_commonPart_34 F x2 σ) else (if x3 = 0 then none else (rec7 x3 (q_rem x2 x3) (x4 + (1 : Int32)) σ))))
def f_X0_commonPart_7 (F : Nat) : Nat → Int32 → Int32 → Int32 → nd_Mem → nd_Res
  | 0, _, _, _, _ => none
  | m9 + 1, x2, x3, x4, σ => f_X0_commonPart_7_b F (f_X0_commonPart_7 F m9) x2 x3 x4 σ
def f_X0_commonPart (F : Nat) (x0 : Int32) (x1 : Int32) (σ : nd_Mem) : nd_Res := (f_X0_commonPart_7 F F x0 x1 (0 : Int32) σ)
set_option maxRecDepth 100000 in
set_option maxHeartbeats 4000000 in
theorem b_X0_commonPart_34 (F : Nat) (sh : List nd_S) (hL : sh.length < nd_ro) {z : Int32 × nd_Mem} (x2 : Int32) (σ : nd_Mem) (h : f_X0_commonPart_34 F x2 σ = some z) : nd_V M_X0_commonPart (nd_rm 0) (nd_Pi sh z) 0 0 34 [(2, .int x2)] [] sh σ := by
  unfold f_X0_commonPart_34 at h
  refine nd_iload_n dX0_commonPart_34 0 rfl ?_
  exact nd_iret dX0_commonPart_35 (Nat.zero_le _) (Nat.zero_le _) (vp_nar_int _) (by cases h; exact ⟨rfl, rfl, rfl⟩)
set_option maxRecDepth 100000 in
set_option maxHeartbeats 4000000 in
theorem b_X0_commonPart_7 (F : Nat) (sh : List nd_S) (hL : sh.length < nd_ro) {z : Int32 × nd_Mem} (m9 : Nat) : ∀ (x2 : Int32) (x3 : Int32) (x4 : Int32) (σ : nd_Mem), f_X0_commonPart_7 F m9 x2 x3 x4 σ = some z → nd_V M_X0_commonPart (nd_rm 0) (nd_Pi sh z) 0 0 7 [(2, .int x2), (3, .int x3), (4, .int x4)] [] sh σ := by
  induction m9 with
  | zero =>
    intro x2 x3 x4 σ h
    have h : none = some z := h
    cases h
  | succ m9 hrec7 =>
    intro x2 x3 x4 σ h
    have h : f_X0_commonPart_7_b F (f_X0_commonPart_7 F m9) x2 x3 x4 σ = some z := h
    unfold f_X0_commonPart_7_b at h
    refine nd_iload dX0_commonPart_7 2 rfl ?_
    refine nd_bipush dX0_commonPart_9 ib_100 ?_
    refine nd_icmp_geN dX0_commonPart_11 34 (by decide) h (fun h => ?_) (fun h => ?_)
    · refine nd_sub [0] rfl ?_
      exact b_X0_commonPart_34 F sh hL _ _ h
    · refine nd_iload_n dX0_commonPart_14 1 rfl ?_
      refine nd_if_eqN dX0_commonPart_15 34 (by decide) h (fun h => ?_) (fun h => ?_)
      · refine nd_sub [0] rfl ?_
        exact b_X0_commonPart_34 F sh hL _ _ h
      · refine nd_iload_n dX0_commonPart_18 0 rfl ?_
        refine nd_iload_n dX0_commonPart_19 1 rfl ?_
        refine nd_iremN dX0_commonPart_20 h (fun h => ?_)
        refine nd_istore (ls' := [(5, .int (q_rem x2 x3)), (2, .int x2), (3, .int x3), (4, .int x4)]) dX0_commonPart_21 (by decide) rfl ?_
        refine nd_iload_n dX0_commonPart_23 2 rfl ?_
        refine nd_istore_n (ls' := [(2, .int x3), (5, .int (q_rem x2 x3)), (3, .int x3), (4, .int x4)]) dX0_commonPart_24 (by decide) rfl ?_
        refine nd_iload dX0_commonPart_25 1 rfl ?_
        refine nd_istore_n (ls' := [(3, .int (q_rem x2 x3)), (2, .int x3), (5, .int (q_rem x2 x3)), (4, .int x4)]) dX0_commonPart_27 (by decide) rfl ?_
        refine nd_iinc (v := (x4 + (1 : Int32))) (ls' := [(4, .int (x4 + (1 : Int32))), (3, .int (q_rem x2 x3)), (2, .int x3), (5, .int (q_rem x2 x3))]) dX0_commonPart_28 3 rfl (congrArg (HAdd.hAdd _) ic_1) (by decide) rfl ?_
        refine nd_goto dX0_commonPart_31 7 (by decide) ?_
        refine nd_sub [2, 1, 0] rfl ?_
        exact hrec7 _ _ _ _ h
set_option maxRecDepth 100000 in
set_option maxHeartbeats 4000000 in
theorem t_X0_commonPart (F : Nat) (sh : List nd_S) (hL : sh.length < nd_ro) {z : Int32 × nd_Mem} (x0 : Int32) (x1 : Int32) (σ : nd_Mem) (h : f_X0_commonPart F x0 x1 σ = some z) : nd_Fn M_X0_commonPart (nd_rm 0) [.int x0, .int x1] sh σ (nd_Pi sh z) := by
  refine nd_Fn.ofV (ls := [(0, .int x0), (1, .int x1)]) pl_X0_commonPart rfl (fun _ => Nat.le_of_ble_eq_true rfl) (fun _ => rfl) ?_
  unfold f_X0_commonPart at h
  refine nd_iload_n dX0_commonPart_0 0 rfl ?_
  refine nd_istore_n (ls' := [(2, .int x0), (0, .int x0), (1, .int x1)]) dX0_commonPart_1 (by decide) rfl ?_
  refine nd_iload_n dX0_commonPart_2 2 rfl ?_
  refine nd_istore_n (ls' := [(3, .int x1), (2, .int x0), (0, .int x0), (1, .int x1)]) dX0_commonPart_3 (by decide) rfl ?_
  refine nd_iconst dX0_commonPart_4 ic_0 ?_
  refine nd_istore (ls' := [(4, .int (0 : Int32)), (3, .int x1), (2, .int x0), (0, .int x0), (1, .int x1)]) dX0_commonPart_5 (by decide) rfl ?_
  refine nd_sub [2, 1, 0] rfl ?_
  exact b_X0_commonPart_7 F sh hL F _ _ _ _ h
def f_X0_placeBehind_39 (F : Nat) (rec12 : Int32 → Int32 → Int32 → Int32 → nd_Mem → nd_Res) (x2 : Int32) (x3 : Int32) (x5 : Int32) (s0 : Int32) (σ : nd_Mem) : nd_Res := (rec12 x2 x3 s0 (x5 + (1 : Int32)) σ)
def f_X0_placeBehind_12_b (F : Nat) (rec12 : Int32 → Int32 → Int32 → Int32 → nd_Mem → nd_Res) (x2 : Int32) (x3 : Int32) (x4 : Int32) (x5 : Int32) (σ : nd_Mem) : nd_Res := (if x2 ≤ x5 then (some (x4, σ)) else (if x3 ≤ x4 then (f_X0_placeBehind_39 F rec12 x2 x3 x5 (((2 : Int32) * (x4 - x3)) + (1 : Int32)) σ) else (f_X0_placeBehind_39 F rec12 x2 x3 x5 ((2 : Int32) * x4) σ)))
def f_X0_placeBehind_12 (F : Nat) : Nat → Int32 → Int32 → Int32 → Int32 → nd_Mem → nd_Res
  | 0, _, _, _, _, _ => none
  | m9 + 1, x2, x3, x4, x5, σ => f_X0_placeBehind_12_b F (f_X0_placeBehind_12 F m9) x2 x3 x4 x5 σ
def f_X0_placeBehind (F : Nat) (x0 : Int32) (x1 : Int32) (x2 : Int32) (σ : nd_Mem) : nd_Res := (f_X0_placeBehind_12 F F x2 ((x0 + (1 : Int32)) / (2 : Int32)) x1 (0 : Int32) σ)
set_option maxRecDepth 100000 in
set_option maxHeartbeats 4000000 in
theorem b_X0_placeBehind_39 (F : Nat) (rec12 : Int32 → Int32 → Int32 → Int32 → nd_Mem → nd_Res) (sh : List nd_S) (hL : sh.length < nd_ro) {z : Int32 × nd_Mem} (hrec12 : ∀ (x2 : Int32) (x3 : Int32) (x4 : Int32) (x5 : Int32) (σ : nd_Mem), rec12 x2 x3 x4 x5 σ = some z → nd_V M_X0_placeBehind (nd_rm 0) (nd_Pi sh z) 0 0 12 [(2, .int x2), (3, .int x3), (4, .int x4), (5, .int x5)] [] sh σ) (x2 : Int32) (x3 : Int32) (x5 : Int32) (s0 : Int32) (σ : nd_Mem) (h : f_X0_placeBehind_39 F rec12 x2 x3 x5 s0 σ = some z) : nd_V M_X0_placeBehind (nd_rm 0) (nd_Pi sh z) 0 0 39 [(2, .int x2), (3, .int x3), (5, .int x5)] [.int s0] sh σ := by
  unfold f_X0_placeBehind_39 at h
  refine nd_istore (ls' := [(4, .int s0), (2, .int x2), (3, .int x3), (5, .int x5)]) dX0_placeBehind_39 (by decide) rfl ?_
  refine nd_iinc (v := (x5 + (1 : Int32))) (ls' := [(5, .int (x5 + (1 : Int32))), (4, .int s0), (2, .int x2), (3, .int x3)]) dX0_placeBehind_41 3 rfl (congrArg (HAdd.hAdd _) ic_1) (by decide) rfl ?_
  refine nd_goto dX0_placeBehind_44 12 (by decide) ?_
  refine nd_sub [2, 3, 1, 0] rfl ?_
  exact hrec12 _ _ _ _ _ h
set_option maxRecDepth 100000 in
set_option maxHeartbeats 4000000 in
theorem b_X0_placeBehind_12 (F : Nat) (sh : List nd_S) (hL : sh.length < nd_ro) {z : Int32 × nd_Mem} (m9 : Nat) : ∀ (x2 : Int32) (x3 : Int32) (x4 : Int32) (x5 : Int32) (σ : nd_Mem), f_X0_placeBehind_12 F m9 x2 x3 x4 x5 σ = some z → nd_V M_X0_placeBehind (nd_rm 0) (nd_Pi sh z) 0 0 12 [(2, .int x2), (3, .int x3), (4, .int x4), (5, .int x5)] [] sh σ := by
  induction m9 with
  | zero =>
    intro x2 x3 x4 x5 σ h
    have h : none = some z := h
    cases h
  | succ m9 hrec12 =>
    intro x2 x3 x4 x5 σ h
    have h : f_X0_placeBehind_12_b F (f_X0_placeBehind_12 F m9) x2 x3 x4 x5 σ = some z := h
    unfold f_X0_placeBehind_12_b at h
    refine nd_iload dX0_placeBehind_12 3 rfl ?_
    refine nd_iload_n dX0_placeBehind_14 0 rfl ?_
    refine nd_icmp_geN dX0_placeBehind_15 47 (by decide) h (fun h => ?_) (fun h => ?_)
    · refine nd_iload dX0_placeBehind_47 2 rfl ?_
      exact nd_iret dX0_placeBehind_49 (Nat.zero_le _) (Nat.zero_le _) (vp_nar_int _) (by cases h; exact ⟨rfl, rfl, rfl⟩)
    · refine nd_iload dX0_placeBehind_18 2 rfl ?_
      refine nd_iload_n dX0_placeBehind_20 1 rfl ?_
      refine nd_icmp_geN dX0_placeBehind_21 31 (by decide) h (fun h => ?_) (fun h => ?_)
      · refine nd_iconst dX0_placeBehind_31 ic_2 ?_
        refine nd_iload dX0_placeBehind_32 2 rfl ?_
        refine nd_iload_n dX0_placeBehind_34 1 rfl ?_
        refine nd_isub dX0_placeBehind_35 ?_
        refine nd_imul dX0_placeBehind_36 ?_
        refine nd_iconst dX0_placeBehind_37 ic_1 ?_
        refine nd_iadd dX0_placeBehind_38 ?_
        refine nd_sub [0, 1, 3] rfl ?_
        exact b_X0_placeBehind_39 F _ sh hL hrec12 _ _ _ _ _ h
      · refine nd_iconst dX0_placeBehind_24 ic_2 ?_
        refine nd_iload dX0_placeBehind_25 2 rfl ?_
        refine nd_imul dX0_placeBehind_27 ?_
        refine nd_goto dX0_placeBehind_28 39 (by decide) ?_
        refine nd_sub [0, 1, 3] rfl ?_
        exact b_X0_placeBehind_39 F _ sh hL hrec12 _ _ _ _ _ h
set_option maxRecDepth 100000 in
set_option maxHeartbeats 4000000 in
theorem t_X0_placeBehind (F : Nat) (sh : List nd_S) (hL : sh.length < nd_ro) {z : Int32 × nd_Mem} (x0 : Int32) (x1 : Int32) (x2 : Int32) (σ : nd_Mem) (h : f_X0_placeBehind F x0 x1 x2 σ = some z) : nd_Fn M_X0_placeBehind (nd_rm 0) [.int x0, .int x1, .int x2] sh σ (nd_Pi sh z) := by
  refine nd_Fn.ofV (ls := [(0, .int x0), (1, .int x1), (2, .int x2)]) pl_X0_placeBehind rfl (fun _ => Nat.le_of_ble_eq_true rfl) (fun _ => rfl) ?_
  unfold f_X0_placeBehind at h
  refine nd_iload_n dX0_placeBehind_0 0 rfl ?_
  refine nd_iconst dX0_placeBehind_1 ic_1 ?_
  refine nd_iadd dX0_placeBehind_2 ?_
  refine nd_iconst dX0_placeBehind_3 ic_2 ?_
  refine nd_idiv dX0_placeBehind_4 (by decide) ?_
  refine nd_istore_n (ls' := [(3, .int ((x0 + (1 : Int32)) / (2 : Int32))), (0, .int x0), (1, .int x1), (2, .int x2)]) dX0_placeBehind_5 (by decide) rfl ?_
  refine nd_iload_n dX0_placeBehind_6 2 rfl ?_
  refine nd_istore (ls' := [(4, .int x1), (3, .int ((x0 + (1 : Int32)) / (2 : Int32))), (0, .int x0), (1, .int x1), (2, .int x2)]) dX0_placeBehind_7 (by decide) rfl ?_
  refine nd_iconst dX0_placeBehind_9 ic_0 ?_
  refine nd_istore (ls' := [(5, .int (0 : Int32)), (4, .int x1), (3, .int ((x0 + (1 : Int32)) / (2 : Int32))), (0, .int x0), (1, .int x1), (2, .int x2)]) dX0_placeBehind_10 (by decide) rfl ?_
  refine nd_sub [5, 2, 1, 0] rfl ?_
  exact b_X0_placeBehind_12 F sh hL F _ _ _ _ _ h
def f_X0_power_4_b (F : Nat) (rec4 : Int32 → Int32 → Int32 → Int32 → nd_Mem → nd_Res) (x0 : Int32) (x1 : Int32) (x2 : Int32) (x3 : Int32) (σ : nd_Mem) : nd_Res := (if x1 ≤ x3 then (some (x2, σ)) else (rec4 x0 x1 (x2 * x0) (x3 + (1 : Int32)) σ))
def f_X0_power_4 (F : Nat) : Nat → Int32 → Int32 → Int32 → Int32 → nd_Mem → nd_Res
  | 0, _, _, _, _, _ => none
  | m9 + 1, x0, x1, x2, x3, σ => f_X0_power_4_b F (f_X0_power_4 F m9) x0 x1 x2 x3 σ
def f_X0_power (F : Nat) (x0 : Int32) (x1 : Int32) (σ : nd_Mem) : nd_Res := (f_X0_power_4 F F x0 x1 (1 : Int32) (0 : Int32) σ)
set_option maxRecDepth 100000 in
set_option maxHeartbeats 4000000 in
theorem b_X0_power_4 (F : Nat) (sh : List nd_S) (hL : sh.length < nd_ro) {z : Int32 × nd_Mem} (m9 : Nat) : ∀ (x0 : Int32) (x1 : Int32) (x2 : Int32) (x3 : Int32) (σ : nd_Mem), f_X0_power_4 F m9 x0 x1 x2 x3 σ = some z → nd_V M_X0_power (nd_rm 0) (nd_Pi sh z) 0 0 4 [(0, .int x0), (1, .int x1), (2, .int x2), (3, .int x3)] [] sh σ := by
  induction m9 with
  | zero =>
    intro x0 x1 x2 x3 σ h
    have h : none = some z := h
    cases h
  | succ m9 hrec4 =>
    intro x0 x1 x2 x3 σ h
    have h : f_X0_power_4_b F (f_X0_power_4 F m9) x0 x1 x2 x3 σ = some z := h
    unfold f_X0_power_4_b at h
    refine nd_iload_n dX0_power_4 3 rfl ?_
    refine nd_iload_n dX0_power_5 1 rfl ?_
    refine nd_icmp_geN dX0_power_6 19 (by decide) h (fun h => ?_) (fun h => ?_)
    · refine nd_iload_n dX0_power_19 2 rfl ?_
      exact nd_iret dX0_power_20 (Nat.zero_le _) (Nat.zero_le _) (vp_nar_int _) (by cases h; exact ⟨rfl, rfl, rfl⟩)
    · refine nd_iload_n dX0_power_9 2 rfl ?_
      refine nd_iload_n dX0_power_10 0 rfl ?_
      refine nd_imul dX0_power_11 ?_
      refine nd_istore_n (ls' := [(2, .int (x2 * x0)), (0, .int x0), (1, .int x1), (3, .int x3)]) dX0_power_12 (by decide) rfl ?_
      refine nd_iinc (v := (x3 + (1 : Int32))) (ls' := [(3, .int (x3 + (1 : Int32))), (2, .int (x2 * x0)), (0, .int x0), (1, .int x1)]) dX0_power_13 3 rfl (congrArg (HAdd.hAdd _) ic_1) (by decide) rfl ?_
      refine nd_goto dX0_power_16 4 (by decide) ?_
      refine nd_sub [2, 3, 1, 0] rfl ?_
      exact hrec4 _ _ _ _ _ h
set_option maxRecDepth 100000 in
set_option maxHeartbeats 4000000 in
theorem t_X0_power (F : Nat) (sh : List nd_S) (hL : sh.length < nd_ro) {z : Int32 × nd_Mem} (x0 : Int32) (x1 : Int32) (σ : nd_Mem) (h : f_X0_power F x0 x1 σ = some z) : nd_Fn M_X0_power (nd_rm 0) [.int x0, .int x1] sh σ (nd_Pi sh z) := by
  refine nd_Fn.ofV (ls := [(0, .int x0), (1, .int x1)]) pl_X0_power rfl (fun _ => Nat.le_of_ble_eq_true rfl) (fun _ => rfl) ?_
  unfold f_X0_power at h
  refine nd_iconst dX0_power_0 ic_1 ?_
  refine nd_istore_n (ls' := [(2, .int (1 : Int32)), (0, .int x0), (1, .int x1)]) dX0_power_1 (by decide) rfl ?_
  refine nd_iconst dX0_power_2 ic_0 ?_
  refine nd_istore_n (ls' := [(3, .int (0 : Int32)), (2, .int (1 : Int32)), (0, .int x0), (1, .int x1)]) dX0_power_3 (by decide) rfl ?_
  refine nd_sub [2, 3, 1, 0] rfl ?_
  exact b_X0_power_4 F sh hL F _ _ _ _ _ h
def f_X0_rowsThatGo_4_b (F : Nat) (rec4 : Int32 → Int32 → Int32 → nd_Mem → nd_Res) (x0 : Int32) (x1 : Int32) (x2 : Int32) (σ : nd_Mem) : nd_Res := (if x0 < x2 then (some (x1, σ)) else (if (x2 + (1 : Int32)) = 0 then none else (rec4 x0 (((x1 * (2 : Int32)) * (((2 : Int32) * x2) - (1 : Int32))) / (x2 + (1 : Int32))) (x2 + (1 : Int32)) σ)))
def f_X0_rowsThatGo_4 (F : Nat) : Nat → Int32 → Int32 → Int32 → nd_Mem → nd_Res
  | 0, _, _, _, _ => none
  | m9 + 1, x0, x1, x2, σ => f_X0_rowsThatGo_4_b F (f_X0_rowsThatGo_4 F m9) x0 x1 x2 σ
def f_X0_rowsThatGo (F : Nat) (x0 : Int32) (σ : nd_Mem) : nd_Res := (f_X0_rowsThatGo_4 F F x0 (1 : Int32) (1 : Int32) σ)
set_option maxRecDepth 100000 in
set_option maxHeartbeats 4000000 in
theorem b_X0_rowsThatGo_4 (F : Nat) (sh : List nd_S) (hL : sh.length < nd_ro) {z : Int32 × nd_Mem} (m9 : Nat) : ∀ (x0 : Int32) (x1 : Int32) (x2 : Int32) (σ : nd_Mem), f_X0_rowsThatGo_4 F m9 x0 x1 x2 σ = some z → nd_V M_X0_rowsThatGo (nd_rm 0) (nd_Pi sh z) 0 0 4 [(0, .int x0), (1, .int x1), (2, .int x2)] [] sh σ := by
  induction m9 with
  | zero =>
    intro x0 x1 x2 σ h
    have h : none = some z := h
    cases h
  | succ m9 hrec4 =>
    intro x0 x1 x2 σ h
    have h : f_X0_rowsThatGo_4_b F (f_X0_rowsThatGo_4 F m9) x0 x1 x2 σ = some z := h
    unfold f_X0_rowsThatGo_4_b at h
    refine nd_iload_n dX0_rowsThatGo_4 2 rfl ?_
    refine nd_iload_n dX0_rowsThatGo_5 0 rfl ?_
    refine nd_icmp_gtN dX0_rowsThatGo_6 29 (by decide) h (fun h => ?_) (fun h => ?_)
    · refine nd_iload_n dX0_rowsThatGo_29 1 rfl ?_
      exact nd_iret dX0_rowsThatGo_30 (Nat.zero_le _) (Nat.zero_le _) (vp_nar_int _) (by cases h; exact ⟨rfl, rfl, rfl⟩)
    · refine nd_iload_n dX0_rowsThatGo_9 1 rfl ?_
      refine nd_iconst dX0_rowsThatGo_10 ic_2 ?_
      refine nd_imul dX0_rowsThatGo_11 ?_
      refine nd_iconst dX0_rowsThatGo_12 ic_2 ?_
      refine nd_iload_n dX0_rowsThatGo_13 2 rfl ?_
      refine nd_imul dX0_rowsThatGo_14 ?_
      refine nd_iconst dX0_rowsThatGo_15 ic_1 ?_
      refine nd_isub dX0_rowsThatGo_16 ?_
      refine nd_imul dX0_rowsThatGo_17 ?_
      refine nd_iload_n dX0_rowsThatGo_18 2 rfl ?_
      refine nd_iconst dX0_rowsThatGo_19 ic_1 ?_
      refine nd_iadd dX0_rowsThatGo_20 ?_
      refine nd_idivN dX0_rowsThatGo_21 h (fun h => ?_)
      refine nd_istore_n (ls' := [(1, .int (((x1 * (2 : Int32)) * (((2 : Int32) * x2) - (1 : Int32))) / (x2 + (1 : Int32)))), (0, .int x0), (2, .int x2)]) dX0_rowsThatGo_22 (by decide) rfl ?_
      refine nd_iinc (v := (x2 + (1 : Int32))) (ls' := [(2, .int (x2 + (1 : Int32))), (1, .int (((x1 * (2 : Int32)) * (((2 : Int32) * x2) - (1 : Int32))) / (x2 + (1 : Int32)))), (0, .int x0)]) dX0_rowsThatGo_23 2 rfl (congrArg (HAdd.hAdd _) ic_1) (by decide) rfl ?_
      refine nd_goto dX0_rowsThatGo_26 4 (by decide) ?_
      refine nd_sub [2, 1, 0] rfl ?_
      exact hrec4 _ _ _ _ h
set_option maxRecDepth 100000 in
set_option maxHeartbeats 4000000 in
theorem t_X0_rowsThatGo (F : Nat) (sh : List nd_S) (hL : sh.length < nd_ro) {z : Int32 × nd_Mem} (x0 : Int32) (σ : nd_Mem) (h : f_X0_rowsThatGo F x0 σ = some z) : nd_Fn M_X0_rowsThatGo (nd_rm 0) [.int x0] sh σ (nd_Pi sh z) := by
  refine nd_Fn.ofV (ls := [(0, .int x0)]) pl_X0_rowsThatGo rfl (fun _ => Nat.le_of_ble_eq_true rfl) (fun _ => rfl) ?_
  unfold f_X0_rowsThatGo at h
  refine nd_iconst dX0_rowsThatGo_0 ic_1 ?_
  refine nd_istore_n (ls' := [(1, .int (1 : Int32)), (0, .int x0)]) dX0_rowsThatGo_1 (by decide) rfl ?_
  refine nd_iconst dX0_rowsThatGo_2 ic_1 ?_
  refine nd_istore_n (ls' := [(2, .int (1 : Int32)), (1, .int (1 : Int32)), (0, .int x0)]) dX0_rowsThatGo_3 (by decide) rfl ?_
  refine nd_sub [2, 1, 0] rfl ?_
  exact b_X0_rowsThatGo_4 F sh hL F _ _ _ _ h
def f_X0_wagons_74 (F : Nat) (σ : nd_Mem) : nd_Res := (some ((-1 : Int32), σ))
def f_X0_wagons_45 (F : Nat) (x1 : Int32) (x2 : Int32) (x3 : Int32) (σ : nd_Mem) : nd_Res := (if x3 = (1 : Int32) then (if x2 < (1 : Int32) then (f_X0_wagons_74 F σ) else (if (9 : Int32) < x2 then (f_X0_wagons_74 F σ) else (if x1 = (((1 : Int32) <<< (x2 &&& 31)) - (1 : Int32)) then (some (x2, σ)) else (f_X0_wagons_74 F σ)))) else (f_X0_wagons_74 F σ))
def f_X0_wagons_9_b (F : Nat) (rec9 : Int32 → Int32 → Int32 → Int32 → nd_Mem → nd_Res) (x1 : Int32) (x2 : Int32) (x3 : Int32) (x4 : Int32) (σ : nd_Mem) : nd_Res := (if (10 : Int32) ≤ x4 then (f_X0_wagons_45 F x1 x2 x3 σ) else (if x3 < (10 : Int32) then (f_X0_wagons_45 F x1 x2 x3 σ) else (rec9 (x1 ||| ((1 : Int32) <<< ((q_rem x3 (10 : Int32)) &&& 31))) (x2 + (1 : Int32)) (x3 / (10 : Int32)) (x4 + (1 : Int32)) σ)))
def f_X0_wagons_9 (F : Nat) : Nat → Int32 → Int32 → Int32 → Int32 → nd_Mem → nd_Res
  | 0, _, _, _, _, _ => none
  | m9 + 1, x1, x2, x3, x4, σ => f_X0_wagons_9_b F (f_X0_wagons_9 F m9) x1 x2 x3 x4 σ
def f_X0_wagons (F : Nat) (x0 : Int32) (σ : nd_Mem) : nd_Res := (f_X0_wagons_9 F F (0 : Int32) (0 : Int32) x0 (0 : Int32) σ)
set_option maxRecDepth 100000 in
set_option maxHeartbeats 4000000 in
theorem b_X0_wagons_74 (F : Nat) (sh : List nd_S) (hL : sh.length < nd_ro) {z : Int32 × nd_Mem} (σ : nd_Mem) (h : f_X0_wagons_74 F σ = some z) : nd_V M_X0_wagons (nd_rm 0) (nd_Pi sh z) 0 0 74 [] [] sh σ := by
  unfold f_X0_wagons_74 at h
  refine nd_iconst dX0_wagons_74 ic_m1 ?_
  exact nd_iret dX0_wagons_75 (Nat.zero_le _) (Nat.zero_le _) (vp_nar_int _) (by cases h; exact ⟨rfl, rfl, rfl⟩)
set_option maxRecDepth 100000 in
set_option maxHeartbeats 4000000 in
theorem b_X0_wagons_45 (F : Nat) (sh : List nd_S) (hL : sh.length < nd_ro) {z : Int32 × nd_Mem} (x1 : Int32) (x2 : Int32) (x3 : Int32) (σ : nd_Mem) (h : f_X0_wagons_45 F x1 x2 x3 σ = some z) : nd_V M_X0_wagons (nd_rm 0) (nd_Pi sh z) 0 0 45 [(1, .int x1), (2, .int x2), (3, .int x3)] [] sh σ := by
  unfold f_X0_wagons_45 at h
  refine nd_iload_n dX0_wagons_45 2 rfl ?_
  refine nd_iconst dX0_wagons_46 ic_1 ?_
  refine nd_icmp_neN dX0_wagons_47 74 (by decide) h (fun h => ?_) (fun h => ?_)
  · refine nd_sub [] rfl ?_
    exact b_X0_wagons_74 F sh hL _ h
  · refine nd_iload_n dX0_wagons_50 1 rfl ?_
    refine nd_iconst dX0_wagons_51 ic_1 ?_
    refine nd_icmp_ltN dX0_wagons_52 74 (by decide) h (fun h => ?_) (fun h => ?_)
    · refine nd_sub [] rfl ?_
      exact b_X0_wagons_74 F sh hL _ h
    · refine nd_iload_n dX0_wagons_55 1 rfl ?_
      refine nd_bipush dX0_wagons_56 ib_9 ?_
      refine nd_icmp_gtN dX0_wagons_58 74 (by decide) h (fun h => ?_) (fun h => ?_)
      · refine nd_sub [] rfl ?_
        exact b_X0_wagons_74 F sh hL _ h
      · refine nd_iload_n dX0_wagons_61 0 rfl ?_
        refine nd_iconst dX0_wagons_62 ic_1 ?_
        refine nd_iload_n dX0_wagons_63 1 rfl ?_
        refine nd_ishl dX0_wagons_64 ?_
        refine nd_iconst dX0_wagons_65 ic_1 ?_
        refine nd_isub dX0_wagons_66 ?_
        refine nd_icmp_neN dX0_wagons_67 74 (by decide) h (fun h => ?_) (fun h => ?_)
        · refine nd_sub [] rfl ?_
          exact b_X0_wagons_74 F sh hL _ h
        · refine nd_iload_n dX0_wagons_70 1 rfl ?_
          refine nd_goto dX0_wagons_71 75 (by decide) ?_
          exact nd_iret dX0_wagons_75 (Nat.zero_le _) (Nat.zero_le _) (vp_nar_int _) (by cases h; exact ⟨rfl, rfl, rfl⟩)
set_option maxRecDepth 100000 in
set_option maxHeartbeats 4000000 in
theorem b_X0_wagons_9 (F : Nat) (sh : List nd_S) (hL : sh.length < nd_ro) {z : Int32 × nd_Mem} (m9 : Nat) : ∀ (x1 : Int32) (x2 : Int32) (x3 : Int32) (x4 : Int32) (σ : nd_Mem), f_X0_wagons_9 F m9 x1 x2 x3 x4 σ = some z → nd_V M_X0_wagons (nd_rm 0) (nd_Pi sh z) 0 0 9 [(1, .int x1), (2, .int x2), (3, .int x3), (4, .int x4)] [] sh σ := by
  induction m9 with
  | zero =>
    intro x1 x2 x3 x4 σ h
    have h : none = some z := h
    cases h
  | succ m9 hrec9 =>
    intro x1 x2 x3 x4 σ h
    have h : f_X0_wagons_9_b F (f_X0_wagons_9 F m9) x1 x2 x3 x4 σ = some z := h
    unfold f_X0_wagons_9_b at h
    refine nd_iload dX0_wagons_9 3 rfl ?_
    refine nd_bipush dX0_wagons_11 ib_10 ?_
    refine nd_icmp_geN dX0_wagons_13 45 (by decide) h (fun h => ?_) (fun h => ?_)
    · refine nd_sub [0, 1, 2] rfl ?_
      exact b_X0_wagons_45 F sh hL _ _ _ _ h
    · refine nd_iload_n dX0_wagons_16 2 rfl ?_
      refine nd_bipush dX0_wagons_17 ib_10 ?_
      refine nd_icmp_ltN dX0_wagons_19 45 (by decide) h (fun h => ?_) (fun h => ?_)
      · refine nd_sub [0, 1, 2] rfl ?_
        exact b_X0_wagons_45 F sh hL _ _ _ _ h
      · refine nd_iload_n dX0_wagons_22 0 rfl ?_
        refine nd_iconst dX0_wagons_23 ic_1 ?_
        refine nd_iload_n dX0_wagons_24 2 rfl ?_
        refine nd_bipush dX0_wagons_25 ib_10 ?_
        refine nd_irem dX0_wagons_27 (by decide) ?_
        refine nd_ishl dX0_wagons_28 ?_
        refine nd_ior dX0_wagons_29 ?_
        refine nd_istore_n (ls' := [(1, .int (x1 ||| ((1 : Int32) <<< ((q_rem x3 (10 : Int32)) &&& 31)))), (2, .int x2), (3, .int x3), (4, .int x4)]) dX0_wagons_30 (by decide) rfl ?_
        refine nd_iload_n dX0_wagons_31 2 rfl ?_
        refine nd_bipush dX0_wagons_32 ib_10 ?_
        refine nd_idiv dX0_wagons_34 (by decide) ?_
        refine nd_istore_n (ls' := [(3, .int (x3 / (10 : Int32))), (1, .int (x1 ||| ((1 : Int32) <<< ((q_rem x3 (10 : Int32)) &&& 31)))), (2, .int x2), (4, .int x4)]) dX0_wagons_35 (by decide) rfl ?_
        refine nd_iinc (v := (x2 + (1 : Int32))) (ls' := [(2, .int (x2 + (1 : Int32))), (3, .int (x3 / (10 : Int32))), (1, .int (x1 ||| ((1 : Int32) <<< ((q_rem x3 (10 : Int32)) &&& 31)))), (4, .int x4)]) dX0_wagons_36 2 rfl (congrArg (HAdd.hAdd _) ic_1) (by decide) rfl ?_
        refine nd_iinc (v := (x4 + (1 : Int32))) (ls' := [(4, .int (x4 + (1 : Int32))), (2, .int (x2 + (1 : Int32))), (3, .int (x3 / (10 : Int32))), (1, .int (x1 ||| ((1 : Int32) <<< ((q_rem x3 (10 : Int32)) &&& 31))))]) dX0_wagons_39 3 rfl (congrArg (HAdd.hAdd _) ic_1) (by decide) rfl ?_
        refine nd_goto dX0_wagons_42 9 (by decide) ?_
        refine nd_sub [3, 1, 2, 0] rfl ?_
        exact hrec9 _ _ _ _ _ h
set_option maxRecDepth 100000 in
set_option maxHeartbeats 4000000 in
theorem t_X0_wagons (F : Nat) (sh : List nd_S) (hL : sh.length < nd_ro) {z : Int32 × nd_Mem} (x0 : Int32) (σ : nd_Mem) (h : f_X0_wagons F x0 σ = some z) : nd_Fn M_X0_wagons (nd_rm 0) [.int x0] sh σ (nd_Pi sh z) := by
  refine nd_Fn.ofV (ls := [(0, .int x0)]) pl_X0_wagons rfl (fun _ => Nat.le_of_ble_eq_true rfl) (fun _ => rfl) ?_
  unfold f_X0_wagons at h
  refine nd_iconst dX0_wagons_0 ic_0 ?_
  refine nd_istore_n (ls' := [(1, .int (0 : Int32)), (0, .int x0)]) dX0_wagons_1 (by decide) rfl ?_
  refine nd_iconst dX0_wagons_2 ic_0 ?_
  refine nd_istore_n (ls' := [(2, .int (0 : Int32)), (1, .int (0 : Int32)), (0, .int x0)]) dX0_wagons_3 (by decide) rfl ?_
  refine nd_iload_n dX0_wagons_4 2 rfl ?_
  refine nd_istore_n (ls' := [(3, .int x0), (2, .int (0 : Int32)), (1, .int (0 : Int32)), (0, .int x0)]) dX0_wagons_5 (by decide) rfl ?_
  refine nd_iconst dX0_wagons_6 ic_0 ?_
  refine nd_istore (ls' := [(4, .int (0 : Int32)), (3, .int x0), (2, .int (0 : Int32)), (1, .int (0 : Int32)), (0, .int x0)]) dX0_wagons_7 (by decide) rfl ?_
  refine nd_sub [3, 2, 1, 0] rfl ?_
  exact b_X0_wagons_9 F sh hL F _ _ _ _ _ h
def f_X10_canBe_29 (F : Nat) (σ : nd_Mem) : nd_Res := (some ((0 : Int32), σ))
def f_X10_canBe (F : Nat) (x0 : Int32) (x1 : Int32) (σ : nd_Mem) : nd_Res := (if x0 < 0 then (f_X10_canBe_29 F σ) else (if (5 : Int32) ≤ x0 then (f_X10_canBe_29 F σ) else (if x1 < 0 then (f_X10_canBe_29 F σ) else (if x0 < 0 ∨ 5 ≤ (x0).toNatClampNeg then none else (if (nd_mo (x0).toNatClampNeg) < x1 then (f_X10_canBe_29 F σ) else (some ((1 : Int32), σ)))))))
set_option maxRecDepth 100000 in
set_option maxHeartbeats 4000000 in
theorem b_X10_canBe_29 (F : Nat) (sh : List nd_S) (hL : sh.length < nd_ro) {z : Int32 × nd_Mem} (σ : nd_Mem) (h : f_X10_canBe_29 F σ = some z) : nd_V M_X10_canBe (nd_rm 0) (nd_Pi sh z) 0 0 29 [] [] sh σ := by
  unfold f_X10_canBe_29 at h
  refine nd_iconst dX10_canBe_29 ic_0 ?_
  exact nd_iret dX10_canBe_30 (Nat.zero_le _) (Nat.zero_le _) rfl (by cases h; exact ⟨rfl, rfl, rfl⟩)
set_option maxRecDepth 100000 in
set_option maxHeartbeats 4000000 in
theorem t_X10_canBe (F : Nat) (sh : List nd_S) (hL : sh.length < nd_ro) {z : Int32 × nd_Mem} (x0 : Int32) (x1 : Int32) (σ : nd_Mem) (h : f_X10_canBe F x0 x1 σ = some z) : nd_Fn M_X10_canBe (nd_rm 0) [.int x0, .int x1] sh σ (nd_Pi sh z) := by
  refine nd_Fn.ofV (ls := [(0, .int x0), (1, .int x1)]) pl_X10_canBe rfl (fun _ => Nat.le_of_ble_eq_true rfl) (fun _ => rfl) ?_
  unfold f_X10_canBe at h
  refine nd_iload_n dX10_canBe_0 0 rfl ?_
  refine nd_if_ltN dX10_canBe_1 29 (by decide) h (fun h => ?_) (fun h => ?_)
  · refine nd_sub [] rfl ?_
    exact b_X10_canBe_29 F sh hL _ h
  · refine nd_iload_n dX10_canBe_4 0 rfl ?_
    refine nd_getsM dX10_canBe_5 gs_X10_328 ?_
    refine nd_alenM dX10_canBe_8 rfl ?_
    refine nd_icmp_geN dX10_canBe_9 29 (by decide) h (fun h => ?_) (fun h => ?_)
    · refine nd_sub [] rfl ?_
      exact b_X10_canBe_29 F sh hL _ h
    · refine nd_iload_n dX10_canBe_12 1 rfl ?_
      refine nd_if_ltN dX10_canBe_13 29 (by decide) h (fun h => ?_) (fun h => ?_)
      · refine nd_sub [] rfl ?_
        exact b_X10_canBe_29 F sh hL _ h
      · refine nd_iload_n dX10_canBe_16 1 rfl ?_
        refine nd_getsM dX10_canBe_17 gs_X10_328 ?_
        refine nd_iload_n dX10_canBe_20 0 rfl ?_
        refine nd_ialoadMN dX10_canBe_21 h (fun h => ?_)
        refine nd_icmp_gtN dX10_canBe_22 29 (by decide) h (fun h => ?_) (fun h => ?_)
        · refine nd_sub [] rfl ?_
          exact b_X10_canBe_29 F sh hL _ h
        · refine nd_iconst dX10_canBe_25 ic_1 ?_
          refine nd_goto dX10_canBe_26 30 (by decide) ?_
          exact nd_iret dX10_canBe_30 (Nat.zero_le _) (Nat.zero_le _) rfl (by cases h; exact ⟨rfl, rfl, rfl⟩)
def f_J0_length_8abf5 (F : Nat) (i : Nat) (σ : nd_Mem) : nd_Res := (nd_bind (f_J0_coder_7d493 F i σ) fun r1 σ2 => (some (((Int32.ofNat (nd_ln.getD i 0)) >>> (r1 &&& 31)), σ2)))
set_option maxRecDepth 100000 in
set_option maxHeartbeats 4000000 in
theorem t_J0_length_8abf5 (F : Nat) (i : Nat) (sh : List nd_S) (hL : sh.length < nd_ro) (hs : i < 5) {z : Int32 × nd_Mem} (σ : nd_Mem) (h : f_J0_length_8abf5 F i σ = some z) : nd_Fn M_J0_length_8abf5 (nd_rm 1) [.ref (1000001 + i)] sh σ (nd_Pi sh z) := by
  refine nd_Fn.ofV (ls := [(0, .ref (1000001 + i))]) pl_J0_length_8abf5 rfl (fun _ => Nat.le_of_ble_eq_true rfl) (fun _ => rfl) ?_
  unfold f_J0_length_8abf5 at h
  refine nd_aload_n dJ0_length_8abf5_0 0 rfl ?_
  refine nd_getSv hs dJ0_length_8abf5_1 sl_J0_9 ?_
  refine nd_alenS (v := (Int32.ofNat (nd_ln.getD i 0))) hs dJ0_length_8abf5_4 rfl ?_
  refine nd_aload_n dJ0_length_8abf5_5 0 rfl ?_
  obtain ⟨r1, σ2, hc3, h⟩ := nd_bind_e h
  refine nd_cti [] [.int (Int32.ofNat (nd_ln.getD i 0))] hs dJ0_length_8abf5_6 cl_J0_335 ⟨Nat.le_of_ble_eq_true rfl, Nat.le_of_ble_eq_true rfl⟩ rfl (Nat.le_of_ble_eq_true rfl) hL (t_J0_coder_7d493 F i sh hL hs _ hc3) ?_
  refine nd_ishr dJ0_length_8abf5_9 ?_
  exact nd_iret dJ0_length_8abf5_10 (Nat.zero_le _) (Nat.zero_le _) (vp_nar_int _) (by cases h; exact ⟨rfl, rfl, rfl⟩)
def f_J1_indexOf_4cfef (F : Nat) (o0i : Nat) (x1 : Int32) (x2 : Int32) (x3 : Int32) (σ : nd_Mem) : nd_Res := (nd_bind (f_J1_canEncode_9a6ad F x1 σ) fun r1 σ2 => (if r1 = 0 then (some ((-1 : Int32), σ2)) else (if (if x2 < (0 : Int32) then (0 : Int32) else x2) < (if (Int32.ofNat (nd_ln.getD o0i 0)) < x3 then (Int32.ofNat (nd_ln.getD o0i 0)) else x3) then (nd_bind (f_J1_indexOfChar_4cfef F o0i x1 (if x2 < (0 : Int32) then (0 : Int32) else x2) (if (Int32.ofNat (nd_ln.getD o0i 0)) < x3 then (Int32.ofNat (nd_ln.getD o0i 0)) else x3) σ2) fun r4 σ5 => (some (r4, σ5))) else (some ((-1 : Int32), σ2)))))
set_option maxRecDepth 100000 in
set_option maxHeartbeats 4000000 in
theorem t_J1_indexOf_4cfef (F : Nat) (o0i : Nat) (sh : List nd_S) (hL : sh.length < nd_ro) (hso0 : o0i < 5) {z : Int32 × nd_Mem} (x1 : Int32) (x2 : Int32) (x3 : Int32) (σ : nd_Mem) (h : f_J1_indexOf_4cfef F o0i x1 x2 x3 σ = some z) : nd_Fn M_J1_indexOf_4cfef (nd_rm 1) [.ref (1000006 + o0i), .int x1, .int x2, .int x3] sh σ (nd_Pi sh z) := by
  refine nd_Fn.ofV (ls := [(0, .ref (1000006 + o0i)), (1, .int x1), (2, .int x2), (3, .int x3)]) pl_J1_indexOf_4cfef rfl (fun _ => Nat.le_of_ble_eq_true rfl) (fun _ => rfl) ?_
  unfold f_J1_indexOf_4cfef at h
  refine nd_iload_n dJ1_indexOf_4cfef_0 1 rfl ?_
  obtain ⟨r1, σ2, hc3, h⟩ := nd_bind_e h
  refine nd_csi [.int x1] [] dJ1_indexOf_4cfef_1 cl_J1_88 ⟨Nat.le_of_ble_eq_true rfl, Nat.le_of_ble_eq_true rfl⟩ rfl (Nat.le_of_ble_eq_true rfl) hL (t_J1_canEncode_9a6ad F sh hL _ _ hc3) ?_
  refine nd_if_neN dJ1_indexOf_4cfef_4 9 (by decide) h (fun h => ?_) (fun h => ?_)
  · refine nd_iload_n dJ1_indexOf_4cfef_9 2 rfl ?_
    refine nd_iconst dJ1_indexOf_4cfef_10 ic_0 ?_
    refine nd_max dJ1_indexOf_4cfef_11 lk_J1_92 wmax_s wmax_i wmax_c ⟨by decide, by decide⟩ (Nat.le_refl _) (Nat.le_refl _) (Nat.le_of_ble_eq_true rfl) ?_
    refine nd_istore_n (ls' := [(2, .int (if x2 < (0 : Int32) then (0 : Int32) else x2)), (0, .ref (1000006 + o0i)), (1, .int x1), (3, .int x3)]) dJ1_indexOf_4cfef_14 (by decide) rfl ?_
    refine nd_iload_n dJ1_indexOf_4cfef_15 3 rfl ?_
    refine nd_aload_n dJ1_indexOf_4cfef_16 1 rfl ?_
    refine nd_alenS (v := (Int32.ofNat (nd_ln.getD o0i 0))) hso0 dJ1_indexOf_4cfef_17 rfl ?_
    refine nd_min dJ1_indexOf_4cfef_18 lk_J1_38 wmin_s wmin_i wmin_c ⟨by decide, by decide⟩ (Nat.le_refl _) (Nat.le_refl _) (Nat.le_of_ble_eq_true rfl) ?_
    refine nd_istore_n (ls' := [(3, .int (if (Int32.ofNat (nd_ln.getD o0i 0)) < x3 then (Int32.ofNat (nd_ln.getD o0i 0)) else x3)), (2, .int (if x2 < (0 : Int32) then (0 : Int32) else x2)), (0, .ref (1000006 + o0i)), (1, .int x1)]) dJ1_indexOf_4cfef_21 (by decide) rfl ?_
    refine nd_iload_n dJ1_indexOf_4cfef_22 1 rfl ?_
    refine nd_iload_n dJ1_indexOf_4cfef_23 0 rfl ?_
    refine nd_icmp_ltN dJ1_indexOf_4cfef_24 29 (by decide) h (fun h => ?_) (fun h => ?_)
    · refine nd_aload_n dJ1_indexOf_4cfef_29 2 rfl ?_
      refine nd_iload_n dJ1_indexOf_4cfef_30 3 rfl ?_
      refine nd_iload_n dJ1_indexOf_4cfef_31 1 rfl ?_
      refine nd_iload_n dJ1_indexOf_4cfef_32 0 rfl ?_
      obtain ⟨r4, σ5, hc6, h⟩ := nd_bind_e h
      refine nd_csi [.ref (1000006 + o0i), .int x1, .int (if x2 < (0 : Int32) then (0 : Int32) else x2), .int (if (Int32.ofNat (nd_ln.getD o0i 0)) < x3 then (Int32.ofNat (nd_ln.getD o0i 0)) else x3)] [] dJ1_indexOf_4cfef_33 cl_J1_95 ⟨Nat.le_of_ble_eq_true rfl, Nat.le_of_ble_eq_true rfl⟩ rfl (Nat.le_of_ble_eq_true rfl) hL (t_J1_indexOfChar_4cfef F o0i sh hL hso0 _ _ _ _ hc6) ?_
      exact nd_iret dJ1_indexOf_4cfef_36 (Nat.zero_le _) (Nat.zero_le _) (vp_nar_int _) (by cases h; exact ⟨rfl, rfl, rfl⟩)
    · refine nd_iconst dJ1_indexOf_4cfef_27 ic_m1 ?_
      exact nd_iret dJ1_indexOf_4cfef_28 (Nat.zero_le _) (Nat.zero_le _) (vp_nar_int _) (by cases h; exact ⟨rfl, rfl, rfl⟩)
  · refine nd_iconst dJ1_indexOf_4cfef_7 ic_m1 ?_
    exact nd_iret dJ1_indexOf_4cfef_8 (Nat.zero_le _) (Nat.zero_le _) (vp_nar_int _) (by cases h; exact ⟨rfl, rfl, rfl⟩)
def f_X0_apartBehind (F : Nat) (x0 : Int32) (x1 : Int32) (x2 : Int32) (x3 : Int32) (σ : nd_Mem) : nd_Res := (if x0 ≤ 0 then (some ((0 : Int32), σ)) else (nd_bind (f_J9_floorMod_7cf53 F (x2 - ((x1 + (1 : Int32)) * x3)) x0 σ) fun r1 σ2 => (some (r1, σ2))))
set_option maxRecDepth 100000 in
set_option maxHeartbeats 4000000 in
theorem t_X0_apartBehind (F : Nat) (sh : List nd_S) (hL : sh.length < nd_ro) {z : Int32 × nd_Mem} (x0 : Int32) (x1 : Int32) (x2 : Int32) (x3 : Int32) (σ : nd_Mem) (h : f_X0_apartBehind F x0 x1 x2 x3 σ = some z) : nd_Fn M_X0_apartBehind (nd_rm 1) [.int x0, .int x1, .int x2, .int x3] sh σ (nd_Pi sh z) := by
  refine nd_Fn.ofV (ls := [(0, .int x0), (1, .int x1), (2, .int x2), (3, .int x3)]) pl_X0_apartBehind rfl (fun _ => Nat.le_of_ble_eq_true rfl) (fun _ => rfl) ?_
  unfold f_X0_apartBehind at h
  refine nd_iload_n dX0_apartBehind_0 0 rfl ?_
  refine nd_if_leN dX0_apartBehind_1 18 (by decide) h (fun h => ?_) (fun h => ?_)
  · refine nd_iconst dX0_apartBehind_18 ic_0 ?_
    exact nd_iret dX0_apartBehind_19 (Nat.zero_le _) (Nat.zero_le _) (vp_nar_int _) (by cases h; exact ⟨rfl, rfl, rfl⟩)
  · refine nd_iload_n dX0_apartBehind_4 2 rfl ?_
    refine nd_iload_n dX0_apartBehind_5 1 rfl ?_
    refine nd_iconst dX0_apartBehind_6 ic_1 ?_
    refine nd_iadd dX0_apartBehind_7 ?_
    refine nd_iload_n dX0_apartBehind_8 3 rfl ?_
    refine nd_imul dX0_apartBehind_9 ?_
    refine nd_isub dX0_apartBehind_10 ?_
    refine nd_iload_n dX0_apartBehind_11 0 rfl ?_
    obtain ⟨r1, σ2, hc3, h⟩ := nd_bind_e h
    refine nd_csi [.int (x2 - ((x1 + (1 : Int32)) * x3)), .int x0] [] dX0_apartBehind_12 cl_X0_15 ⟨Nat.le_of_ble_eq_true rfl, Nat.le_of_ble_eq_true rfl⟩ rfl (Nat.le_of_ble_eq_true rfl) hL (t_J9_floorMod_7cf53 F sh hL _ _ _ hc3) ?_
    refine nd_goto dX0_apartBehind_15 19 (by decide) ?_
    exact nd_iret dX0_apartBehind_19 (Nat.zero_le _) (Nat.zero_le _) (vp_nar_int _) (by cases h; exact ⟨rfl, rfl, rfl⟩)
def f_X0_inOrderBehind_37 (F : Nat) (rec2 : Int32 → Int32 → nd_Mem → nd_Res) (rec13 : Int32 → Int32 → Int32 → Int32 → nd_Mem → nd_Res) (x0 : Int32) (x1 : Int32) (x3 : Int32) (s0 : Int32) (σ : nd_Mem) : nd_Res := (rec13 x0 x1 s0 (x3 + (1 : Int32)) σ)
def f_X0_inOrderBehind_44 (F : Nat) (rec2 : Int32 → Int32 → nd_Mem → nd_Res) (x0 : Int32) (x1 : Int32) (x2 : Int32) (σ : nd_Mem) : nd_Res := (if x2 = 0 then (rec2 x0 (x1 + (1 : Int32)) σ) else (some (x1, σ)))
def f_X0_inOrderBehind_13_b (F : Nat) (rec2 : Int32 → Int32 → nd_Mem → nd_Res) (rec13 : Int32 → Int32 → Int32 → Int32 → nd_Mem → nd_Res) (x0 : Int32) (x1 : Int32) (x2 : Int32) (x3 : Int32) (σ : nd_Mem) : nd_Res := (if x0 ≤ x3 then (f_X0_inOrderBehind_44 F rec2 x0 x1 x2 σ) else (if x2 = 0 then (f_X0_inOrderBehind_44 F rec2 x0 x1 x2 σ) else (nd_bind (f_X0_placeBehind F x0 x3 x1 σ) fun r1 σ2 => (if r1 = x3 then (f_X0_inOrderBehind_37 F rec2 rec13 x0 x1 x3 (1 : Int32) σ2) else (f_X0_inOrderBehind_37 F rec2 rec13 x0 x1 x3 (0 : Int32) σ2)))))
def f_X0_inOrderBehind_13 (F : Nat) (rec2 : Int32 → Int32 → nd_Mem → nd_Res) : Nat → Int32 → Int32 → Int32 → Int32 → nd_Mem → nd_Res
  | 0, _, _, _, _, _ => none
  | m9 + 1, x0, x1, x2, x3, σ => f_X0_inOrderBehind_13_b F rec2 (f_X0_inOrderBehind_13 F rec2 m9) x0 x1 x2 x3 σ
def f_X0_inOrderBehind_2_b (F : Nat) (rec2 : Int32 → Int32 → nd_Mem → nd_Res) (x0 : Int32) (x1 : Int32) (σ : nd_Mem) : nd_Res := (if (1000 : Int32) < x1 then (some ((-1 : Int32), σ)) else (f_X0_inOrderBehind_13 F rec2 F x0 x1 (1 : Int32) (0 : Int32) σ))
def f_X0_inOrderBehind_2 (F : Nat) : Nat → Int32 → Int32 → nd_Mem → nd_Res
  | 0, _, _, _ => none
  | m9 + 1, x0, x1, σ => f_X0_inOrderBehind_2_b F (f_X0_inOrderBehind_2 F m9) x0 x1 σ
def f_X0_inOrderBehind (F : Nat) (x0 : Int32) (σ : nd_Mem) : nd_Res := (f_X0_inOrderBehind_2 F F x0 (1 : Int32) σ)
set_option maxRecDepth 100000 in
set_option maxHeartbeats 4000000 in
theorem b_X0_inOrderBehind_37 (F : Nat) (rec2 : Int32 → Int32 → nd_Mem → nd_Res) (rec13 : Int32 → Int32 → Int32 → Int32 → nd_Mem → nd_Res) (sh : List nd_S) (hL : sh.length < nd_ro) {z : Int32 × nd_Mem} (hrec2 : ∀ (x0 : Int32) (x1 : Int32) (σ : nd_Mem), rec2 x0 x1 σ = some z → nd_V M_X0_inOrderBehind (nd_rm 1) (nd_Pi sh z) 0 0 2 [(0, .int x0), (1, .int x1)] [] sh σ) (hrec13 : ∀ (x0 : Int32) (x1 : Int32) (x2 : Int32) (x3 : Int32) (σ : nd_Mem), rec13 x0 x1 x2 x3 σ = some z → nd_V M_X0_inOrderBehind (nd_rm 1) (nd_Pi sh z) 0 0 13 [(0, .int x0), (1, .int x1), (2, .int x2), (3, .int x3)] [] sh σ) (x0 : Int32) (x1 : Int32) (x3 : Int32) (s0 : Int32) (σ : nd_Mem) (h : f_X0_inOrderBehind_37 F rec2 rec13 x0 x1 x3 s0 σ = some z) : nd_V M_X0_inOrderBehind (nd_rm 1) (nd_Pi sh z) 0 0 37 [(0, .int x0), (1, .int x1), (3, .int x3)] [.int s0] sh σ := by
  unfold f_X0_inOrderBehind_37 at h
  refine nd_istore_n (ls' := [(2, .int s0), (0, .int x0), (1, .int x1), (3, .int x3)]) dX0_inOrderBehind_37 (by decide) rfl ?_
  refine nd_iinc (v := (x3 + (1 : Int32))) (ls' := [(3, .int (x3 + (1 : Int32))), (2, .int s0), (0, .int x0), (1, .int x1)]) dX0_inOrderBehind_38 3 rfl (congrArg (HAdd.hAdd _) ic_1) (by decide) rfl ?_
  refine nd_goto dX0_inOrderBehind_41 13 (by decide) ?_
  refine nd_sub [2, 3, 1, 0] rfl ?_
  exact hrec13 _ _ _ _ _ h
set_option maxRecDepth 100000 in
set_option maxHeartbeats 4000000 in
theorem b_X0_inOrderBehind_44 (F : Nat) (rec2 : Int32 → Int32 → nd_Mem → nd_Res) (sh : List nd_S) (hL : sh.length < nd_ro) {z : Int32 × nd_Mem} (hrec2 : ∀ (x0 : Int32) (x1 : Int32) (σ : nd_Mem), rec2 x0 x1 σ = some z → nd_V M_X0_inOrderBehind (nd_rm 1) (nd_Pi sh z) 0 0 2 [(0, .int x0), (1, .int x1)] [] sh σ) (x0 : Int32) (x1 : Int32) (x2 : Int32) (σ : nd_Mem) (h : f_X0_inOrderBehind_44 F rec2 x0 x1 x2 σ = some z) : nd_V M_X0_inOrderBehind (nd_rm 1) (nd_Pi sh z) 0 0 44 [(0, .int x0), (1, .int x1), (2, .int x2)] [] sh σ := by
  unfold f_X0_inOrderBehind_44 at h
  refine nd_iload_n dX0_inOrderBehind_44 2 rfl ?_
  refine nd_if_eqN dX0_inOrderBehind_45 50 (by decide) h (fun h => ?_) (fun h => ?_)
  · refine nd_iinc (v := (x1 + (1 : Int32))) (ls' := [(1, .int (x1 + (1 : Int32))), (0, .int x0), (2, .int x2)]) dX0_inOrderBehind_50 1 rfl (congrArg (HAdd.hAdd _) ic_1) (by decide) rfl ?_
    refine nd_goto dX0_inOrderBehind_53 2 (by decide) ?_
    refine nd_sub [1, 0] rfl ?_
    exact hrec2 _ _ _ h
  · refine nd_iload_n dX0_inOrderBehind_48 1 rfl ?_
    exact nd_iret dX0_inOrderBehind_49 (Nat.zero_le _) (Nat.zero_le _) (vp_nar_int _) (by cases h; exact ⟨rfl, rfl, rfl⟩)
set_option maxRecDepth 100000 in
set_option maxHeartbeats 4000000 in
theorem b_X0_inOrderBehind_13 (F : Nat) (rec2 : Int32 → Int32 → nd_Mem → nd_Res) (sh : List nd_S) (hL : sh.length < nd_ro) {z : Int32 × nd_Mem} (hrec2 : ∀ (x0 : Int32) (x1 : Int32) (σ : nd_Mem), rec2 x0 x1 σ = some z → nd_V M_X0_inOrderBehind (nd_rm 1) (nd_Pi sh z) 0 0 2 [(0, .int x0), (1, .int x1)] [] sh σ) (m9 : Nat) : ∀ (x0 : Int32) (x1 : Int32) (x2 : Int32) (x3 : Int32) (σ : nd_Mem), f_X0_inOrderBehind_13 F rec2 m9 x0 x1 x2 x3 σ = some z → nd_V M_X0_inOrderBehind (nd_rm 1) (nd_Pi sh z) 0 0 13 [(0, .int x0), (1, .int x1), (2, .int x2), (3, .int x3)] [] sh σ := by
  induction m9 with
  | zero =>
    intro x0 x1 x2 x3 σ h
    have h : none = some z := h
    cases h
  | succ m9 hrec13 =>
    intro x0 x1 x2 x3 σ h
    have h : f_X0_inOrderBehind_13_b F rec2 (f_X0_inOrderBehind_13 F rec2 m9) x0 x1 x2 x3 σ = some z := h
    unfold f_X0_inOrderBehind_13_b at h
    refine nd_iload_n dX0_inOrderBehind_13 3 rfl ?_
    refine nd_iload_n dX0_inOrderBehind_14 0 rfl ?_
    refine nd_icmp_geN dX0_inOrderBehind_15 44 (by decide) h (fun h => ?_) (fun h => ?_)
    · refine nd_sub [0, 1, 2] rfl ?_
      exact b_X0_inOrderBehind_44 F _ sh hL hrec2 _ _ _ _ h
    · refine nd_iload_n dX0_inOrderBehind_18 2 rfl ?_
      refine nd_if_eqN dX0_inOrderBehind_19 44 (by decide) h (fun h => ?_) (fun h => ?_)
      · refine nd_sub [0, 1, 2] rfl ?_
        exact b_X0_inOrderBehind_44 F _ sh hL hrec2 _ _ _ _ h
      · refine nd_iload_n dX0_inOrderBehind_22 0 rfl ?_
        refine nd_iload_n dX0_inOrderBehind_23 3 rfl ?_
        refine nd_iload_n dX0_inOrderBehind_24 1 rfl ?_
        obtain ⟨r1, σ2, hc3, h⟩ := nd_bind_e h
        refine nd_csi [.int x0, .int x3, .int x1] [] dX0_inOrderBehind_25 cl_X0_32 ⟨Nat.le_of_ble_eq_true rfl, Nat.le_of_ble_eq_true rfl⟩ rfl (Nat.le_of_ble_eq_true rfl) hL (t_X0_placeBehind F sh hL _ _ _ _ hc3) ?_
        refine nd_iload_n dX0_inOrderBehind_28 3 rfl ?_
        refine nd_icmp_neN dX0_inOrderBehind_29 36 (by decide) h (fun h => ?_) (fun h => ?_)
        · refine nd_iconst dX0_inOrderBehind_36 ic_0 ?_
          refine nd_sub [0, 1, 3] rfl ?_
          exact b_X0_inOrderBehind_37 F _ _ sh hL hrec2 hrec13 _ _ _ _ _ h
        · refine nd_iconst dX0_inOrderBehind_32 ic_1 ?_
          refine nd_goto dX0_inOrderBehind_33 37 (by decide) ?_
          refine nd_sub [0, 1, 3] rfl ?_
          exact b_X0_inOrderBehind_37 F _ _ sh hL hrec2 hrec13 _ _ _ _ _ h
set_option maxRecDepth 100000 in
set_option maxHeartbeats 4000000 in
theorem b_X0_inOrderBehind_2 (F : Nat) (sh : List nd_S) (hL : sh.length < nd_ro) {z : Int32 × nd_Mem} (m9 : Nat) : ∀ (x0 : Int32) (x1 : Int32) (σ : nd_Mem), f_X0_inOrderBehind_2 F m9 x0 x1 σ = some z → nd_V M_X0_inOrderBehind (nd_rm 1) (nd_Pi sh z) 0 0 2 [(0, .int x0), (1, .int x1)] [] sh σ := by
  induction m9 with
  | zero =>
    intro x0 x1 σ h
    have h : none = some z := h
    cases h
  | succ m9 hrec2 =>
    intro x0 x1 σ h
    have h : f_X0_inOrderBehind_2_b F (f_X0_inOrderBehind_2 F m9) x0 x1 σ = some z := h
    unfold f_X0_inOrderBehind_2_b at h
    refine nd_iload_n dX0_inOrderBehind_2 1 rfl ?_
    refine nd_sipush dX0_inOrderBehind_3 is_1000 ?_
    refine nd_icmp_gtN dX0_inOrderBehind_6 56 (by decide) h (fun h => ?_) (fun h => ?_)
    · refine nd_iconst dX0_inOrderBehind_56 ic_m1 ?_
      exact nd_iret dX0_inOrderBehind_57 (Nat.zero_le _) (Nat.zero_le _) (vp_nar_int _) (by cases h; exact ⟨rfl, rfl, rfl⟩)
    · refine nd_iconst dX0_inOrderBehind_9 ic_1 ?_
      refine nd_istore_n (ls' := [(2, .int (1 : Int32)), (0, .int x0), (1, .int x1)]) dX0_inOrderBehind_10 (by decide) rfl ?_
      refine nd_iconst dX0_inOrderBehind_11 ic_0 ?_
      refine nd_istore_n (ls' := [(3, .int (0 : Int32)), (2, .int (1 : Int32)), (0, .int x0), (1, .int x1)]) dX0_inOrderBehind_12 (by decide) rfl ?_
      refine nd_sub [2, 3, 1, 0] rfl ?_
      exact b_X0_inOrderBehind_13 F _ sh hL hrec2 F _ _ _ _ _ h
set_option maxRecDepth 100000 in
set_option maxHeartbeats 4000000 in
theorem t_X0_inOrderBehind (F : Nat) (sh : List nd_S) (hL : sh.length < nd_ro) {z : Int32 × nd_Mem} (x0 : Int32) (σ : nd_Mem) (h : f_X0_inOrderBehind F x0 σ = some z) : nd_Fn M_X0_inOrderBehind (nd_rm 1) [.int x0] sh σ (nd_Pi sh z) := by
  refine nd_Fn.ofV (ls := [(0, .int x0)]) pl_X0_inOrderBehind rfl (fun _ => Nat.le_of_ble_eq_true rfl) (fun _ => rfl) ?_
  unfold f_X0_inOrderBehind at h
  refine nd_iconst dX0_inOrderBehind_0 ic_1 ?_
  refine nd_istore_n (ls' := [(1, .int (1 : Int32)), (0, .int x0)]) dX0_inOrderBehind_1 (by decide) rfl ?_
  refine nd_sub [1, 0] rfl ?_
  exact b_X0_inOrderBehind_2 F sh hL F _ _ _ h
def f_X0_lowest (F : Nat) (x0 : Int32) (x1 : Int32) (x2 : Int32) (σ : nd_Mem) : nd_Res := (nd_bind (f_X0_commonPart F x0 x1 σ) fun r1 σ2 => (if r1 = 0 then (some ((0 : Int32), σ2)) else (if x2 = 0 then (if r1 = 0 then none else (some ((x0 / r1), σ2))) else (if r1 = 0 then none else (some ((x1 / r1), σ2))))))
set_option maxRecDepth 100000 in
set_option maxHeartbeats 4000000 in
theorem t_X0_lowest (F : Nat) (sh : List nd_S) (hL : sh.length < nd_ro) {z : Int32 × nd_Mem} (x0 : Int32) (x1 : Int32) (x2 : Int32) (σ : nd_Mem) (h : f_X0_lowest F x0 x1 x2 σ = some z) : nd_Fn M_X0_lowest (nd_rm 1) [.int x0, .int x1, .int x2] sh σ (nd_Pi sh z) := by
  refine nd_Fn.ofV (ls := [(0, .int x0), (1, .int x1), (2, .int x2)]) pl_X0_lowest rfl (fun _ => Nat.le_of_ble_eq_true rfl) (fun _ => rfl) ?_
  unfold f_X0_lowest at h
  refine nd_iload_n dX0_lowest_0 0 rfl ?_
  refine nd_iload_n dX0_lowest_1 1 rfl ?_
  obtain ⟨r1, σ2, hc3, h⟩ := nd_bind_e h
  refine nd_csi [.int x0, .int x1] [] dX0_lowest_2 cl_X0_29 ⟨Nat.le_of_ble_eq_true rfl, Nat.le_of_ble_eq_true rfl⟩ rfl (Nat.le_of_ble_eq_true rfl) hL (t_X0_commonPart F sh hL _ _ _ hc3) ?_
  refine nd_istore_n (ls' := [(3, .int r1), (0, .int x0), (1, .int x1), (2, .int x2)]) dX0_lowest_5 (by decide) rfl ?_
  refine nd_iload_n dX0_lowest_6 0 rfl ?_
  refine nd_if_neN dX0_lowest_7 12 (by decide) h (fun h => ?_) (fun h => ?_)
  · refine nd_iload_n dX0_lowest_12 3 rfl ?_
    refine nd_if_neN dX0_lowest_13 22 (by decide) h (fun h => ?_) (fun h => ?_)
    · refine nd_iload_n dX0_lowest_22 2 rfl ?_
      refine nd_iload_n dX0_lowest_23 0 rfl ?_
      refine nd_idivN dX0_lowest_24 h (fun h => ?_)
      exact nd_iret dX0_lowest_25 (Nat.zero_le _) (Nat.zero_le _) (vp_nar_int _) (by cases h; exact ⟨rfl, rfl, rfl⟩)
    · refine nd_iload_n dX0_lowest_16 1 rfl ?_
      refine nd_iload_n dX0_lowest_17 0 rfl ?_
      refine nd_idivN dX0_lowest_18 h (fun h => ?_)
      refine nd_goto dX0_lowest_19 25 (by decide) ?_
      exact nd_iret dX0_lowest_25 (Nat.zero_le _) (Nat.zero_le _) (vp_nar_int _) (by cases h; exact ⟨rfl, rfl, rfl⟩)
  · refine nd_iconst dX0_lowest_10 ic_0 ?_
    exact nd_iret dX0_lowest_11 (Nat.zero_le _) (Nat.zero_le _) (vp_nar_int _) (by cases h; exact ⟨rfl, rfl, rfl⟩)
def f_X0_mostInSiding_114 (F : Nat) (rec16 : Int32 → Int32 → Int64 → Int32 → Int32 → Int32 → Int32 → nd_Mem → nd_Res) (x0 : Int32) (x1 : Int32) (x2 : Int64) (x4 : Int32) (x5 : Int32) (x6 : Int32) (x7 : Int32) (σ : nd_Mem) : nd_Res := (rec16 x0 x1 x2 x4 x5 x6 (x7 + (-1 : Int32)) σ)
def f_X0_mostInSiding_73_b (F : Nat) (rec16 : Int32 → Int32 → Int64 → Int32 → Int32 → Int32 → Int32 → nd_Mem → nd_Res) (rec73 : Int32 → Int32 → Int64 → Int32 → Int32 → Int32 → Int32 → Int32 → nd_Mem → nd_Res) (x0 : Int32) (x1 : Int32) (x2 : Int64) (x4 : Int32) (x5 : Int32) (x6 : Int32) (x7 : Int32) (x9 : Int32) (σ : nd_Mem) : nd_Res := (if x1 ≤ x9 then (f_X0_mostInSiding_114 F rec16 x0 x1 x2 x4 x5 x6 x7 σ) else (if x4 ≤ 0 then (f_X0_mostInSiding_114 F rec16 x0 x1 x2 x4 x5 x6 x7 σ) else (if (lg_cmp (q_lrem x2 (10 : Int64)) (x6).toInt64) = 0 then (rec73 x0 x1 (x2 / (10 : Int64)) (x4 + (-1 : Int32)) x5 (x6 + (1 : Int32)) x7 (x9 + (1 : Int32)) σ) else (f_X0_mostInSiding_114 F rec16 x0 x1 x2 x4 x5 x6 x7 σ))))
def f_X0_mostInSiding_73 (F : Nat) (rec16 : Int32 → Int32 → Int64 → Int32 → Int32 → Int32 → Int32 → nd_Mem → nd_Res) : Nat → Int32 → Int32 → Int64 → Int32 → Int32 → Int32 → Int32 → Int32 → nd_Mem → nd_Res
  | 0, _, _, _, _, _, _, _, _, _ => none
  | m9 + 1, x0, x1, x2, x4, x5, x6, x7, x9, σ => f_X0_mostInSiding_73_b F rec16 (f_X0_mostInSiding_73 F rec16 m9) x0 x1 x2 x4 x5 x6 x7 x9 σ
def f_X0_mostInSiding_70 (F : Nat) (rec16 : Int32 → Int32 → Int64 → Int32 → Int32 → Int32 → Int32 → nd_Mem → nd_Res) (x0 : Int32) (x1 : Int32) (x2 : Int64) (x4 : Int32) (x5 : Int32) (x6 : Int32) (x7 : Int32) (σ : nd_Mem) : nd_Res := (f_X0_mostInSiding_73 F rec16 F x0 x1 x2 x4 x5 x6 x7 (0 : Int32) σ)
def f_X0_mostInSiding_16_b (F : Nat) (rec16 : Int32 → Int32 → Int64 → Int32 → Int32 → Int32 → Int32 → nd_Mem → nd_Res) (x0 : Int32) (x1 : Int32) (x2 : Int64) (x4 : Int32) (x5 : Int32) (x6 : Int32) (x7 : Int32) (σ : nd_Mem) : nd_Res := (if x7 < 0 then (if x4 = 0 then (some (x5, σ)) else (some ((-1 : Int32), σ))) else (nd_bind (f_X0_power F (10 : Int32) x7 σ) fun r1 σ2 => (if r1 = 0 then none else (if (q_rem (x0 / r1) (10 : Int32)) = x6 then (f_X0_mostInSiding_70 F rec16 x0 x1 x2 x4 x5 (x6 + (1 : Int32)) x7 σ2) else (f_X0_mostInSiding_70 F rec16 x0 x1 ((x2 * (10 : Int64)) + ((q_rem (x0 / r1) (10 : Int32))).toInt64) (x4 + (1 : Int32)) (if x5 < (x4 + (1 : Int32)) then (x4 + (1 : Int32)) else x5) x6 x7 σ2)))))
def f_X0_mostInSiding_16 (F : Nat) : Nat → Int32 → Int32 → Int64 → Int32 → Int32 → Int32 → Int32 → nd_Mem → nd_Res
  | 0, _, _, _, _, _, _, _, _ => none
  | m9 + 1, x0, x1, x2, x4, x5, x6, x7, σ => f_X0_mostInSiding_16_b F (f_X0_mostInSiding_16 F m9) x0 x1 x2 x4 x5 x6 x7 σ
def f_X0_mostInSiding (F : Nat) (x0 : Int32) (x1 : Int32) (σ : nd_Mem) : nd_Res := (f_X0_mostInSiding_16 F F x0 x1 (0 : Int64) (0 : Int32) (0 : Int32) (0 : Int32) (x1 - (1 : Int32)) σ)
set_option maxRecDepth 100000 in
set_option maxHeartbeats 4000000 in
theorem b_X0_mostInSiding_114 (F : Nat) (rec16 : Int32 → Int32 → Int64 → Int32 → Int32 → Int32 → Int32 → nd_Mem → nd_Res) (sh : List nd_S) (hL : sh.length < nd_ro) {z : Int32 × nd_Mem} (hrec16 : ∀ (x0 : Int32) (x1 : Int32) (x2 : Int64) (x4 : Int32) (x5 : Int32) (x6 : Int32) (x7 : Int32) (σ : nd_Mem), rec16 x0 x1 x2 x4 x5 x6 x7 σ = some z → nd_V M_X0_mostInSiding (nd_rm 1) (nd_Pi sh z) 0 0 16 [(0, .int x0), (1, .int x1), (2, .long x2), (4, .int x4), (5, .int x5), (6, .int x6), (7, .int x7)] [] sh σ) (x0 : Int32) (x1 : Int32) (x2 : Int64) (x4 : Int32) (x5 : Int32) (x6 : Int32) (x7 : Int32) (σ : nd_Mem) (h : f_X0_mostInSiding_114 F rec16 x0 x1 x2 x4 x5 x6 x7 σ = some z) : nd_V M_X0_mostInSiding (nd_rm 1) (nd_Pi sh z) 0 0 114 [(0, .int x0), (1, .int x1), (2, .long x2), (4, .int x4), (5, .int x5), (6, .int x6), (7, .int x7)] [] sh σ := by
  unfold f_X0_mostInSiding_114 at h
  refine nd_iinc (v := (x7 + (-1 : Int32))) (ls' := [(7, .int (x7 + (-1 : Int32))), (0, .int x0), (1, .int x1), (2, .long x2), (4, .int x4), (5, .int x5), (6, .int x6)]) dX0_mostInSiding_114 6 rfl (congrArg (HAdd.hAdd _) ic_m1) (by decide) rfl ?_
  refine nd_goto dX0_mostInSiding_117 16 (by decide) ?_
  refine nd_sub [1, 2, 3, 4, 5, 6, 0] rfl ?_
  exact hrec16 _ _ _ _ _ _ _ _ h
set_option maxRecDepth 100000 in
set_option maxHeartbeats 4000000 in
theorem b_X0_mostInSiding_73 (F : Nat) (rec16 : Int32 → Int32 → Int64 → Int32 → Int32 → Int32 → Int32 → nd_Mem → nd_Res) (sh : List nd_S) (hL : sh.length < nd_ro) {z : Int32 × nd_Mem} (hrec16 : ∀ (x0 : Int32) (x1 : Int32) (x2 : Int64) (x4 : Int32) (x5 : Int32) (x6 : Int32) (x7 : Int32) (σ : nd_Mem), rec16 x0 x1 x2 x4 x5 x6 x7 σ = some z → nd_V M_X0_mostInSiding (nd_rm 1) (nd_Pi sh z) 0 0 16 [(0, .int x0), (1, .int x1), (2, .long x2), (4, .int x4), (5, .int x5), (6, .int x6), (7, .int x7)] [] sh σ) (m9 : Nat) : ∀ (x0 : Int32) (x1 : Int32) (x2 : Int64) (x4 : Int32) (x5 : Int32) (x6 : Int32) (x7 : Int32) (x9 : Int32) (σ : nd_Mem), f_X0_mostInSiding_73 F rec16 m9 x0 x1 x2 x4 x5 x6 x7 x9 σ = some z → nd_V M_X0_mostInSiding (nd_rm 1) (nd_Pi sh z) 0 0 73 [(0, .int x0), (1, .int x1), (2, .long x2), (4, .int x4), (5, .int x5), (6, .int x6), (7, .int x7), (9, .int x9)] [] sh σ := by
  induction m9 with
  | zero =>
    intro x0 x1 x2 x4 x5 x6 x7 x9 σ h
    have h : none = some z := h
    cases h
  | succ m9 hrec73 =>
    intro x0 x1 x2 x4 x5 x6 x7 x9 σ h
    have h : f_X0_mostInSiding_73_b F rec16 (f_X0_mostInSiding_73 F rec16 m9) x0 x1 x2 x4 x5 x6 x7 x9 σ = some z := h
    unfold f_X0_mostInSiding_73_b at h
    refine nd_iload dX0_mostInSiding_73 7 rfl ?_
    refine nd_iload_n dX0_mostInSiding_75 1 rfl ?_
    refine nd_icmp_geN dX0_mostInSiding_76 114 (by decide) h (fun h => ?_) (fun h => ?_)
    · refine nd_sub [0, 1, 2, 3, 4, 5, 6] rfl ?_
      exact b_X0_mostInSiding_114 F _ sh hL hrec16 _ _ _ _ _ _ _ _ h
    · refine nd_iload dX0_mostInSiding_79 3 rfl ?_
      refine nd_if_leN dX0_mostInSiding_81 114 (by decide) h (fun h => ?_) (fun h => ?_)
      · refine nd_sub [0, 1, 2, 3, 4, 5, 6] rfl ?_
        exact b_X0_mostInSiding_114 F _ sh hL hrec16 _ _ _ _ _ _ _ _ h
      · refine nd_lload_n dX0_mostInSiding_84 2 rfl ?_
        refine nd_ldc2 dX0_mostInSiding_85 kc_X0_24 ?_
        refine nd_lrem dX0_mostInSiding_88 (by decide) ?_
        refine nd_iload dX0_mostInSiding_89 5 rfl ?_
        refine nd_i2l dX0_mostInSiding_91 ?_
        refine nd_lcmp dX0_mostInSiding_92 ?_
        refine nd_if_neN dX0_mostInSiding_93 114 (by decide) h (fun h => ?_) (fun h => ?_)
        · refine nd_sub [0, 1, 2, 3, 4, 5, 6] rfl ?_
          exact b_X0_mostInSiding_114 F _ sh hL hrec16 _ _ _ _ _ _ _ _ h
        · refine nd_lload_n dX0_mostInSiding_96 2 rfl ?_
          refine nd_ldc2 dX0_mostInSiding_97 kc_X0_24 ?_
          refine nd_ldiv dX0_mostInSiding_100 (by decide) ?_
          refine nd_lstore_n (ls' := [(2, .long (x2 / (10 : Int64))), (0, .int x0), (1, .int x1), (4, .int x4), (5, .int x5), (6, .int x6), (7, .int x7), (9, .int x9)]) dX0_mostInSiding_101 (by decide) rfl ?_
          refine nd_iinc (v := (x4 + (-1 : Int32))) (ls' := [(4, .int (x4 + (-1 : Int32))), (2, .long (x2 / (10 : Int64))), (0, .int x0), (1, .int x1), (5, .int x5), (6, .int x6), (7, .int x7), (9, .int x9)]) dX0_mostInSiding_102 3 rfl (congrArg (HAdd.hAdd _) ic_m1) (by decide) rfl ?_
          refine nd_iinc (v := (x6 + (1 : Int32))) (ls' := [(6, .int (x6 + (1 : Int32))), (4, .int (x4 + (-1 : Int32))), (2, .long (x2 / (10 : Int64))), (0, .int x0), (1, .int x1), (5, .int x5), (7, .int x7), (9, .int x9)]) dX0_mostInSiding_105 5 rfl (congrArg (HAdd.hAdd _) ic_1) (by decide) rfl ?_
          refine nd_iinc (v := (x9 + (1 : Int32))) (ls' := [(9, .int (x9 + (1 : Int32))), (6, .int (x6 + (1 : Int32))), (4, .int (x4 + (-1 : Int32))), (2, .long (x2 / (10 : Int64))), (0, .int x0), (1, .int x1), (5, .int x5), (7, .int x7)]) dX0_mostInSiding_108 7 rfl (congrArg (HAdd.hAdd _) ic_1) (by decide) rfl ?_
          refine nd_goto dX0_mostInSiding_111 73 (by decide) ?_
          refine nd_sub [4, 5, 3, 2, 6, 1, 7, 0] rfl ?_
          exact hrec73 _ _ _ _ _ _ _ _ _ h
set_option maxRecDepth 100000 in
set_option maxHeartbeats 4000000 in
theorem b_X0_mostInSiding_70 (F : Nat) (rec16 : Int32 → Int32 → Int64 → Int32 → Int32 → Int32 → Int32 → nd_Mem → nd_Res) (sh : List nd_S) (hL : sh.length < nd_ro) {z : Int32 × nd_Mem} (hrec16 : ∀ (x0 : Int32) (x1 : Int32) (x2 : Int64) (x4 : Int32) (x5 : Int32) (x6 : Int32) (x7 : Int32) (σ : nd_Mem), rec16 x0 x1 x2 x4 x5 x6 x7 σ = some z → nd_V M_X0_mostInSiding (nd_rm 1) (nd_Pi sh z) 0 0 16 [(0, .int x0), (1, .int x1), (2, .long x2), (4, .int x4), (5, .int x5), (6, .int x6), (7, .int x7)] [] sh σ) (x0 : Int32) (x1 : Int32) (x2 : Int64) (x4 : Int32) (x5 : Int32) (x6 : Int32) (x7 : Int32) (σ : nd_Mem) (h : f_X0_mostInSiding_70 F rec16 x0 x1 x2 x4 x5 x6 x7 σ = some z) : nd_V M_X0_mostInSiding (nd_rm 1) (nd_Pi sh z) 0 0 70 [(0, .int x0), (1, .int x1), (2, .long x2), (4, .int x4), (5, .int x5), (6, .int x6), (7, .int x7)] [] sh σ := by
  unfold f_X0_mostInSiding_70 at h
  refine nd_iconst dX0_mostInSiding_70 ic_0 ?_
  refine nd_istore (ls' := [(9, .int (0 : Int32)), (0, .int x0), (1, .int x1), (2, .long x2), (4, .int x4), (5, .int x5), (6, .int x6), (7, .int x7)]) dX0_mostInSiding_71 (by decide) rfl ?_
  refine nd_sub [1, 2, 3, 4, 5, 6, 7, 0] rfl ?_
  exact b_X0_mostInSiding_73 F _ sh hL hrec16 F _ _ _ _ _ _ _ _ _ h
set_option maxRecDepth 100000 in
set_option maxHeartbeats 4000000 in
theorem b_X0_mostInSiding_16 (F : Nat) (sh : List nd_S) (hL : sh.length < nd_ro) {z : Int32 × nd_Mem} (m9 : Nat) : ∀ (x0 : Int32) (x1 : Int32) (x2 : Int64) (x4 : Int32) (x5 : Int32) (x6 : Int32) (x7 : Int32) (σ : nd_Mem), f_X0_mostInSiding_16 F m9 x0 x1 x2 x4 x5 x6 x7 σ = some z → nd_V M_X0_mostInSiding (nd_rm 1) (nd_Pi sh z) 0 0 16 [(0, .int x0), (1, .int x1), (2, .long x2), (4, .int x4), (5, .int x5), (6, .int x6), (7, .int x7)] [] sh σ := by
  induction m9 with
  | zero =>
    intro x0 x1 x2 x4 x5 x6 x7 σ h
    have h : none = some z := h
    cases h
  | succ m9 hrec16 =>
    intro x0 x1 x2 x4 x5 x6 x7 σ h
    have h : f_X0_mostInSiding_16_b F (f_X0_mostInSiding_16 F m9) x0 x1 x2 x4 x5 x6 x7 σ = some z := h
    unfold f_X0_mostInSiding_16_b at h
    refine nd_iload dX0_mostInSiding_16 6 rfl ?_
    refine nd_if_ltN dX0_mostInSiding_18 120 (by decide) h (fun h => ?_) (fun h => ?_)
    · refine nd_iload dX0_mostInSiding_120 3 rfl ?_
      refine nd_if_neN dX0_mostInSiding_122 130 (by decide) h (fun h => ?_) (fun h => ?_)
      · refine nd_iconst dX0_mostInSiding_130 ic_m1 ?_
        exact nd_iret dX0_mostInSiding_131 (Nat.zero_le _) (Nat.zero_le _) (vp_nar_int _) (by cases h; exact ⟨rfl, rfl, rfl⟩)
      · refine nd_iload dX0_mostInSiding_125 4 rfl ?_
        refine nd_goto dX0_mostInSiding_127 131 (by decide) ?_
        exact nd_iret dX0_mostInSiding_131 (Nat.zero_le _) (Nat.zero_le _) (vp_nar_int _) (by cases h; exact ⟨rfl, rfl, rfl⟩)
    · refine nd_iload_n dX0_mostInSiding_21 0 rfl ?_
      refine nd_bipush dX0_mostInSiding_22 ib_10 ?_
      refine nd_iload dX0_mostInSiding_24 6 rfl ?_
      obtain ⟨r1, σ2, hc3, h⟩ := nd_bind_e h
      refine nd_csi [.int (10 : Int32), .int x7] [.int x0] dX0_mostInSiding_26 cl_X0_21 ⟨Nat.le_of_ble_eq_true rfl, Nat.le_of_ble_eq_true rfl⟩ rfl (Nat.le_of_ble_eq_true rfl) hL (t_X0_power F sh hL _ _ _ hc3) ?_
      refine nd_idivN dX0_mostInSiding_29 h (fun h => ?_)
      refine nd_bipush dX0_mostInSiding_30 ib_10 ?_
      refine nd_irem dX0_mostInSiding_32 (by decide) ?_
      refine nd_istore (ls' := [(8, .int (q_rem (x0 / r1) (10 : Int32))), (0, .int x0), (1, .int x1), (2, .long x2), (4, .int x4), (5, .int x5), (6, .int x6), (7, .int x7)]) dX0_mostInSiding_33 (by decide) rfl ?_
      refine nd_iload dX0_mostInSiding_35 0 rfl ?_
      refine nd_iload dX0_mostInSiding_37 6 rfl ?_
      refine nd_icmp_neN dX0_mostInSiding_39 48 (by decide) h (fun h => ?_) (fun h => ?_)
      · refine nd_lload_n dX0_mostInSiding_48 3 rfl ?_
        refine nd_ldc2 dX0_mostInSiding_49 kc_X0_24 ?_
        refine nd_lmul dX0_mostInSiding_52 ?_
        refine nd_iload dX0_mostInSiding_53 0 rfl ?_
        refine nd_i2l dX0_mostInSiding_55 ?_
        refine nd_ladd dX0_mostInSiding_56 ?_
        refine nd_lstore_n (ls' := [(2, .long ((x2 * (10 : Int64)) + ((q_rem (x0 / r1) (10 : Int32))).toInt64)), (8, .int (q_rem (x0 / r1) (10 : Int32))), (0, .int x0), (1, .int x1), (4, .int x4), (5, .int x5), (6, .int x6), (7, .int x7)]) dX0_mostInSiding_57 (by decide) rfl ?_
        refine nd_iinc (v := (x4 + (1 : Int32))) (ls' := [(4, .int (x4 + (1 : Int32))), (2, .long ((x2 * (10 : Int64)) + ((q_rem (x0 / r1) (10 : Int32))).toInt64)), (8, .int (q_rem (x0 / r1) (10 : Int32))), (0, .int x0), (1, .int x1), (5, .int x5), (6, .int x6), (7, .int x7)]) dX0_mostInSiding_58 4 rfl (congrArg (HAdd.hAdd _) ic_1) (by decide) rfl ?_
        refine nd_iload dX0_mostInSiding_61 5 rfl ?_
        refine nd_iload dX0_mostInSiding_63 0 rfl ?_
        refine nd_max dX0_mostInSiding_65 lk_X0_26 wmax_s wmax_i wmax_c ⟨by decide, by decide⟩ (Nat.le_refl _) (Nat.le_refl _) (Nat.le_of_ble_eq_true rfl) ?_
        refine nd_istore (ls' := [(5, .int (if x5 < (x4 + (1 : Int32)) then (x4 + (1 : Int32)) else x5)), (4, .int (x4 + (1 : Int32))), (2, .long ((x2 * (10 : Int64)) + ((q_rem (x0 / r1) (10 : Int32))).toInt64)), (8, .int (q_rem (x0 / r1) (10 : Int32))), (0, .int x0), (1, .int x1), (6, .int x6), (7, .int x7)]) dX0_mostInSiding_68 (by decide) rfl ?_
        refine nd_sub [4, 5, 2, 1, 0, 6, 7] rfl ?_
        exact b_X0_mostInSiding_70 F _ sh hL hrec16 _ _ _ _ _ _ _ _ h
      · refine nd_iinc (v := (x6 + (1 : Int32))) (ls' := [(6, .int (x6 + (1 : Int32))), (8, .int (q_rem (x0 / r1) (10 : Int32))), (0, .int x0), (1, .int x1), (2, .long x2), (4, .int x4), (5, .int x5), (7, .int x7)]) dX0_mostInSiding_42 6 rfl (congrArg (HAdd.hAdd _) ic_1) (by decide) rfl ?_
        refine nd_goto dX0_mostInSiding_45 70 (by decide) ?_
        refine nd_sub [2, 3, 4, 5, 6, 0, 7] rfl ?_
        exact b_X0_mostInSiding_70 F _ sh hL hrec16 _ _ _ _ _ _ _ _ h
set_option maxRecDepth 100000 in
set_option maxHeartbeats 4000000 in
theorem t_X0_mostInSiding (F : Nat) (sh : List nd_S) (hL : sh.length < nd_ro) {z : Int32 × nd_Mem} (x0 : Int32) (x1 : Int32) (σ : nd_Mem) (h : f_X0_mostInSiding F x0 x1 σ = some z) : nd_Fn M_X0_mostInSiding (nd_rm 1) [.int x0, .int x1] sh σ (nd_Pi sh z) := by
  refine nd_Fn.ofV (ls := [(0, .int x0), (1, .int x1)]) pl_X0_mostInSiding rfl (fun _ => Nat.le_of_ble_eq_true rfl) (fun _ => rfl) ?_
  unfold f_X0_mostInSiding at h
  refine nd_lconst (v := (0 : Int64)) dX0_mostInSiding_0 (by decide) ?_
  refine nd_lstore_n (ls' := [(2, .long (0 : Int64)), (0, .int x0), (1, .int x1)]) dX0_mostInSiding_1 (by decide) rfl ?_
  refine nd_iconst dX0_mostInSiding_2 ic_0 ?_
  refine nd_istore (ls' := [(4, .int (0 : Int32)), (2, .long (0 : Int64)), (0, .int x0), (1, .int x1)]) dX0_mostInSiding_3 (by decide) rfl ?_
  refine nd_iconst dX0_mostInSiding_5 ic_0 ?_
  refine nd_istore (ls' := [(5, .int (0 : Int32)), (4, .int (0 : Int32)), (2, .long (0 : Int64)), (0, .int x0), (1, .int x1)]) dX0_mostInSiding_6 (by decide) rfl ?_
  refine nd_iconst dX0_mostInSiding_8 ic_0 ?_
  refine nd_istore (ls' := [(6, .int (0 : Int32)), (5, .int (0 : Int32)), (4, .int (0 : Int32)), (2, .long (0 : Int64)), (0, .int x0), (1, .int x1)]) dX0_mostInSiding_9 (by decide) rfl ?_
  refine nd_iload_n dX0_mostInSiding_11 5 rfl ?_
  refine nd_iconst dX0_mostInSiding_12 ic_1 ?_
  refine nd_isub dX0_mostInSiding_13 ?_
  refine nd_istore (ls' := [(7, .int (x1 - (1 : Int32))), (6, .int (0 : Int32)), (5, .int (0 : Int32)), (4, .int (0 : Int32)), (2, .long (0 : Int64)), (0, .int x0), (1, .int x1)]) dX0_mostInSiding_14 (by decide) rfl ?_
  refine nd_sub [5, 6, 4, 3, 2, 1, 0] rfl ?_
  exact b_X0_mostInSiding_16 F sh hL F _ _ _ _ _ _ _ _ h
def f_X0_sameFromBehind_25 (F : Nat) (rec4 : Int32 → Int32 → Int32 → Int32 → nd_Mem → nd_Res) (x0 : Int32) (x1 : Int32) (x2 : Int32) (x3 : Int32) (s0 : Int32) (σ : nd_Mem) : nd_Res := (nd_bind (f_X0_power F x1 ((x0 + s0) / (2 : Int32)) σ) fun r1 σ2 => (rec4 x0 x1 (x2 + r1) (x3 + (1 : Int32)) σ2))
def f_X0_sameFromBehind_4_b (F : Nat) (rec4 : Int32 → Int32 → Int32 → Int32 → nd_Mem → nd_Res) (x0 : Int32) (x1 : Int32) (x2 : Int32) (x3 : Int32) (σ : nd_Mem) : nd_Res := (if x0 ≤ x3 then (some (x2, σ)) else (if (q_rem x0 (2 : Int32)) = (1 : Int32) then (f_X0_sameFromBehind_25 F rec4 x0 x1 x2 x3 (1 : Int32) σ) else (f_X0_sameFromBehind_25 F rec4 x0 x1 x2 x3 ((q_rem x3 (2 : Int32)) * (2 : Int32)) σ)))
def f_X0_sameFromBehind_4 (F : Nat) : Nat → Int32 → Int32 → Int32 → Int32 → nd_Mem → nd_Res
  | 0, _, _, _, _, _ => none
  | m9 + 1, x0, x1, x2, x3, σ => f_X0_sameFromBehind_4_b F (f_X0_sameFromBehind_4 F m9) x0 x1 x2 x3 σ
def f_X0_sameFromBehind (F : Nat) (x0 : Int32) (x1 : Int32) (σ : nd_Mem) : nd_Res := (f_X0_sameFromBehind_4 F F x0 x1 (0 : Int32) (0 : Int32) σ)
set_option maxRecDepth 100000 in
set_option maxHeartbeats 4000000 in
theorem b_X0_sameFromBehind_25 (F : Nat) (rec4 : Int32 → Int32 → Int32 → Int32 → nd_Mem → nd_Res) (sh : List nd_S) (hL : sh.length < nd_ro) {z : Int32 × nd_Mem} (hrec4 : ∀ (x0 : Int32) (x1 : Int32) (x2 : Int32) (x3 : Int32) (σ : nd_Mem), rec4 x0 x1 x2 x3 σ = some z → nd_V M_X0_sameFromBehind (nd_rm 1) (nd_Pi sh z) 0 0 4 [(0, .int x0), (1, .int x1), (2, .int x2), (3, .int x3)] [] sh σ) (x0 : Int32) (x1 : Int32) (x2 : Int32) (x3 : Int32) (s0 : Int32) (σ : nd_Mem) (h : f_X0_sameFromBehind_25 F rec4 x0 x1 x2 x3 s0 σ = some z) : nd_V M_X0_sameFromBehind (nd_rm 1) (nd_Pi sh z) 0 0 25 [(0, .int x0), (1, .int x1), (2, .int x2), (3, .int x3)] [.int s0] sh σ := by
  unfold f_X0_sameFromBehind_25 at h
  refine nd_istore (ls' := [(4, .int s0), (0, .int x0), (1, .int x1), (2, .int x2), (3, .int x3)]) dX0_sameFromBehind_25 (by decide) rfl ?_
  refine nd_iload_n dX0_sameFromBehind_27 3 rfl ?_
  refine nd_iload_n dX0_sameFromBehind_28 2 rfl ?_
  refine nd_iload_n dX0_sameFromBehind_29 1 rfl ?_
  refine nd_iload dX0_sameFromBehind_30 0 rfl ?_
  refine nd_iadd dX0_sameFromBehind_32 ?_
  refine nd_iconst dX0_sameFromBehind_33 ic_2 ?_
  refine nd_idiv dX0_sameFromBehind_34 (by decide) ?_
  obtain ⟨r1, σ2, hc3, h⟩ := nd_bind_e h
  refine nd_csi [.int x1, .int ((x0 + s0) / (2 : Int32))] [.int x2] dX0_sameFromBehind_35 cl_X0_21 ⟨Nat.le_of_ble_eq_true rfl, Nat.le_of_ble_eq_true rfl⟩ rfl (Nat.le_of_ble_eq_true rfl) hL (t_X0_power F sh hL _ _ _ hc3) ?_
  refine nd_iadd dX0_sameFromBehind_38 ?_
  refine nd_istore_n (ls' := [(2, .int (x2 + r1)), (4, .int s0), (0, .int x0), (1, .int x1), (3, .int x3)]) dX0_sameFromBehind_39 (by decide) rfl ?_
  refine nd_iinc (v := (x3 + (1 : Int32))) (ls' := [(3, .int (x3 + (1 : Int32))), (2, .int (x2 + r1)), (4, .int s0), (0, .int x0), (1, .int x1)]) dX0_sameFromBehind_40 4 rfl (congrArg (HAdd.hAdd _) ic_1) (by decide) rfl ?_
  refine nd_goto dX0_sameFromBehind_43 4 (by decide) ?_
  refine nd_sub [3, 4, 1, 0] rfl ?_
  exact hrec4 _ _ _ _ _ h
set_option maxRecDepth 100000 in
set_option maxHeartbeats 4000000 in
theorem b_X0_sameFromBehind_4 (F : Nat) (sh : List nd_S) (hL : sh.length < nd_ro) {z : Int32 × nd_Mem} (m9 : Nat) : ∀ (x0 : Int32) (x1 : Int32) (x2 : Int32) (x3 : Int32) (σ : nd_Mem), f_X0_sameFromBehind_4 F m9 x0 x1 x2 x3 σ = some z → nd_V M_X0_sameFromBehind (nd_rm 1) (nd_Pi sh z) 0 0 4 [(0, .int x0), (1, .int x1), (2, .int x2), (3, .int x3)] [] sh σ := by
  induction m9 with
  | zero =>
    intro x0 x1 x2 x3 σ h
    have h : none = some z := h
    cases h
  | succ m9 hrec4 =>
    intro x0 x1 x2 x3 σ h
    have h : f_X0_sameFromBehind_4_b F (f_X0_sameFromBehind_4 F m9) x0 x1 x2 x3 σ = some z := h
    unfold f_X0_sameFromBehind_4_b at h
    refine nd_iload_n dX0_sameFromBehind_4 3 rfl ?_
    refine nd_iload_n dX0_sameFromBehind_5 0 rfl ?_
    refine nd_icmp_geN dX0_sameFromBehind_6 46 (by decide) h (fun h => ?_) (fun h => ?_)
    · refine nd_iload_n dX0_sameFromBehind_46 2 rfl ?_
      exact nd_iret dX0_sameFromBehind_47 (Nat.zero_le _) (Nat.zero_le _) (vp_nar_int _) (by cases h; exact ⟨rfl, rfl, rfl⟩)
    · refine nd_iload_n dX0_sameFromBehind_9 0 rfl ?_
      refine nd_iconst dX0_sameFromBehind_10 ic_2 ?_
      refine nd_irem dX0_sameFromBehind_11 (by decide) ?_
      refine nd_iconst dX0_sameFromBehind_12 ic_1 ?_
      refine nd_icmp_neN dX0_sameFromBehind_13 20 (by decide) h (fun h => ?_) (fun h => ?_)
      · refine nd_iload_n dX0_sameFromBehind_20 3 rfl ?_
        refine nd_iconst dX0_sameFromBehind_21 ic_2 ?_
        refine nd_irem dX0_sameFromBehind_22 (by decide) ?_
        refine nd_iconst dX0_sameFromBehind_23 ic_2 ?_
        refine nd_imul dX0_sameFromBehind_24 ?_
        exact b_X0_sameFromBehind_25 F _ sh hL hrec4 _ _ _ _ _ _ h
      · refine nd_iconst dX0_sameFromBehind_16 ic_1 ?_
        refine nd_goto dX0_sameFromBehind_17 25 (by decide) ?_
        exact b_X0_sameFromBehind_25 F _ sh hL hrec4 _ _ _ _ _ _ h
set_option maxRecDepth 100000 in
set_option maxHeartbeats 4000000 in
theorem t_X0_sameFromBehind (F : Nat) (sh : List nd_S) (hL : sh.length < nd_ro) {z : Int32 × nd_Mem} (x0 : Int32) (x1 : Int32) (σ : nd_Mem) (h : f_X0_sameFromBehind F x0 x1 σ = some z) : nd_Fn M_X0_sameFromBehind (nd_rm 1) [.int x0, .int x1] sh σ (nd_Pi sh z) := by
  refine nd_Fn.ofV (ls := [(0, .int x0), (1, .int x1)]) pl_X0_sameFromBehind rfl (fun _ => Nat.le_of_ble_eq_true rfl) (fun _ => rfl) ?_
  unfold f_X0_sameFromBehind at h
  refine nd_iconst dX0_sameFromBehind_0 ic_0 ?_
  refine nd_istore_n (ls' := [(2, .int (0 : Int32)), (0, .int x0), (1, .int x1)]) dX0_sameFromBehind_1 (by decide) rfl ?_
  refine nd_iconst dX0_sameFromBehind_2 ic_0 ?_
  refine nd_istore_n (ls' := [(3, .int (0 : Int32)), (2, .int (0 : Int32)), (0, .int x0), (1, .int x1)]) dX0_sameFromBehind_3 (by decide) rfl ?_
  refine nd_sub [2, 3, 1, 0] rfl ?_
  exact b_X0_sameFromBehind_4 F sh hL F _ _ _ _ _ h
def f_X0_sameTurned_4_b (F : Nat) (rec4 : Int32 → Int32 → Int32 → Int32 → nd_Mem → nd_Res) (x0 : Int32) (x1 : Int32) (x2 : Int32) (x3 : Int32) (σ : nd_Mem) : nd_Res := (if x0 < x3 then (some (x2, σ)) else (nd_bind (f_X0_commonPart F x3 x0 σ) fun r1 σ2 => (nd_bind (f_X0_power F x1 r1 σ2) fun r4 σ5 => (rec4 x0 x1 (x2 + r4) (x3 + (1 : Int32)) σ5))))
def f_X0_sameTurned_4 (F : Nat) : Nat → Int32 → Int32 → Int32 → Int32 → nd_Mem → nd_Res
  | 0, _, _, _, _, _ => none
  | m9 + 1, x0, x1, x2, x3, σ => f_X0_sameTurned_4_b F (f_X0_sameTurned_4 F m9) x0 x1 x2 x3 σ
def f_X0_sameTurned (F : Nat) (x0 : Int32) (x1 : Int32) (σ : nd_Mem) : nd_Res := (f_X0_sameTurned_4 F F x0 x1 (0 : Int32) (1 : Int32) σ)
set_option maxRecDepth 100000 in
set_option maxHeartbeats 4000000 in
theorem b_X0_sameTurned_4 (F : Nat) (sh : List nd_S) (hL : sh.length < nd_ro) {z : Int32 × nd_Mem} (m9 : Nat) : ∀ (x0 : Int32) (x1 : Int32) (x2 : Int32) (x3 : Int32) (σ : nd_Mem), f_X0_sameTurned_4 F m9 x0 x1 x2 x3 σ = some z → nd_V M_X0_sameTurned (nd_rm 1) (nd_Pi sh z) 0 0 4 [(0, .int x0), (1, .int x1), (2, .int x2), (3, .int x3)] [] sh σ := by
  induction m9 with
  | zero =>
    intro x0 x1 x2 x3 σ h
    have h : none = some z := h
    cases h
  | succ m9 hrec4 =>
    intro x0 x1 x2 x3 σ h
    have h : f_X0_sameTurned_4_b F (f_X0_sameTurned_4 F m9) x0 x1 x2 x3 σ = some z := h
    unfold f_X0_sameTurned_4_b at h
    refine nd_iload_n dX0_sameTurned_4 3 rfl ?_
    refine nd_iload_n dX0_sameTurned_5 0 rfl ?_
    refine nd_icmp_gtN dX0_sameTurned_6 27 (by decide) h (fun h => ?_) (fun h => ?_)
    · refine nd_iload_n dX0_sameTurned_27 2 rfl ?_
      exact nd_iret dX0_sameTurned_28 (Nat.zero_le _) (Nat.zero_le _) (vp_nar_int _) (by cases h; exact ⟨rfl, rfl, rfl⟩)
    · refine nd_iload_n dX0_sameTurned_9 2 rfl ?_
      refine nd_iload_n dX0_sameTurned_10 1 rfl ?_
      refine nd_iload_n dX0_sameTurned_11 3 rfl ?_
      refine nd_iload_n dX0_sameTurned_12 0 rfl ?_
      obtain ⟨r1, σ2, hc3, h⟩ := nd_bind_e h
      refine nd_csi [.int x3, .int x0] [.int x1, .int x2] dX0_sameTurned_13 cl_X0_29 ⟨Nat.le_of_ble_eq_true rfl, Nat.le_of_ble_eq_true rfl⟩ rfl (Nat.le_of_ble_eq_true rfl) hL (t_X0_commonPart F sh hL _ _ _ hc3) ?_
      obtain ⟨r4, σ5, hc6, h⟩ := nd_bind_e h
      refine nd_csi [.int x1, .int r1] [.int x2] dX0_sameTurned_16 cl_X0_21 ⟨Nat.le_of_ble_eq_true rfl, Nat.le_of_ble_eq_true rfl⟩ rfl (Nat.le_of_ble_eq_true rfl) hL (t_X0_power F sh hL _ _ _ hc6) ?_
      refine nd_iadd dX0_sameTurned_19 ?_
      refine nd_istore_n (ls' := [(2, .int (x2 + r4)), (0, .int x0), (1, .int x1), (3, .int x3)]) dX0_sameTurned_20 (by decide) rfl ?_
      refine nd_iinc (v := (x3 + (1 : Int32))) (ls' := [(3, .int (x3 + (1 : Int32))), (2, .int (x2 + r4)), (0, .int x0), (1, .int x1)]) dX0_sameTurned_21 3 rfl (congrArg (HAdd.hAdd _) ic_1) (by decide) rfl ?_
      refine nd_goto dX0_sameTurned_24 4 (by decide) ?_
      refine nd_sub [2, 3, 1, 0] rfl ?_
      exact hrec4 _ _ _ _ _ h
set_option maxRecDepth 100000 in
set_option maxHeartbeats 4000000 in
theorem t_X0_sameTurned (F : Nat) (sh : List nd_S) (hL : sh.length < nd_ro) {z : Int32 × nd_Mem} (x0 : Int32) (x1 : Int32) (σ : nd_Mem) (h : f_X0_sameTurned F x0 x1 σ = some z) : nd_Fn M_X0_sameTurned (nd_rm 1) [.int x0, .int x1] sh σ (nd_Pi sh z) := by
  refine nd_Fn.ofV (ls := [(0, .int x0), (1, .int x1)]) pl_X0_sameTurned rfl (fun _ => Nat.le_of_ble_eq_true rfl) (fun _ => rfl) ?_
  unfold f_X0_sameTurned at h
  refine nd_iconst dX0_sameTurned_0 ic_0 ?_
  refine nd_istore_n (ls' := [(2, .int (0 : Int32)), (0, .int x0), (1, .int x1)]) dX0_sameTurned_1 (by decide) rfl ?_
  refine nd_iconst dX0_sameTurned_2 ic_1 ?_
  refine nd_istore_n (ls' := [(3, .int (1 : Int32)), (2, .int (0 : Int32)), (0, .int x0), (1, .int x1)]) dX0_sameTurned_3 (by decide) rfl ?_
  refine nd_sub [2, 3, 1, 0] rfl ?_
  exact b_X0_sameTurned_4 F sh hL F _ _ _ _ _ h
def f_X0_weight_6_b (F : Nat) (rec6 : Int32 → Int32 → Int32 → Int32 → Int32 → Int32 → nd_Mem → nd_Res) (x0 : Int32) (x1 : Int32) (x2 : Int32) (x3 : Int32) (x4 : Int32) (x5 : Int32) (σ : nd_Mem) : nd_Res := (if x0 ≤ x5 then (some (x4, σ)) else (nd_bind (f_X0_power F x3 x5 σ) fun r1 σ2 => (nd_bind (f_X0_power F x2 ((x1 - (1 : Int32)) - x5) σ2) fun r4 σ5 => (rec6 x0 x1 x2 x3 (x4 + (r1 * r4)) (x5 + (1 : Int32)) σ5))))
def f_X0_weight_6 (F : Nat) : Nat → Int32 → Int32 → Int32 → Int32 → Int32 → Int32 → nd_Mem → nd_Res
  | 0, _, _, _, _, _, _, _ => none
  | m9 + 1, x0, x1, x2, x3, x4, x5, σ => f_X0_weight_6_b F (f_X0_weight_6 F m9) x0 x1 x2 x3 x4 x5 σ
def f_X0_weight (F : Nat) (x0 : Int32) (x1 : Int32) (x2 : Int32) (x3 : Int32) (σ : nd_Mem) : nd_Res := (f_X0_weight_6 F F x0 x1 x2 x3 (0 : Int32) (0 : Int32) σ)
set_option maxRecDepth 100000 in
set_option maxHeartbeats 4000000 in
theorem b_X0_weight_6 (F : Nat) (sh : List nd_S) (hL : sh.length < nd_ro) {z : Int32 × nd_Mem} (m9 : Nat) : ∀ (x0 : Int32) (x1 : Int32) (x2 : Int32) (x3 : Int32) (x4 : Int32) (x5 : Int32) (σ : nd_Mem), f_X0_weight_6 F m9 x0 x1 x2 x3 x4 x5 σ = some z → nd_V M_X0_weight (nd_rm 1) (nd_Pi sh z) 0 0 6 [(0, .int x0), (1, .int x1), (2, .int x2), (3, .int x3), (4, .int x4), (5, .int x5)] [] sh σ := by
  induction m9 with
  | zero =>
    intro x0 x1 x2 x3 x4 x5 σ h
    have h : none = some z := h
    cases h
  | succ m9 hrec6 =>
    intro x0 x1 x2 x3 x4 x5 σ h
    have h : f_X0_weight_6_b F (f_X0_weight_6 F m9) x0 x1 x2 x3 x4 x5 σ = some z := h
    unfold f_X0_weight_6_b at h
    refine nd_iload dX0_weight_6 5 rfl ?_
    refine nd_iload_n dX0_weight_8 0 rfl ?_
    refine nd_icmp_geN dX0_weight_9 40 (by decide) h (fun h => ?_) (fun h => ?_)
    · refine nd_iload dX0_weight_40 4 rfl ?_
      exact nd_iret dX0_weight_42 (Nat.zero_le _) (Nat.zero_le _) (vp_nar_int _) (by cases h; exact ⟨rfl, rfl, rfl⟩)
    · refine nd_iload dX0_weight_12 4 rfl ?_
      refine nd_iload_n dX0_weight_14 3 rfl ?_
      refine nd_iload dX0_weight_15 5 rfl ?_
      obtain ⟨r1, σ2, hc3, h⟩ := nd_bind_e h
      refine nd_csi [.int x3, .int x5] [.int x4] dX0_weight_17 cl_X0_21 ⟨Nat.le_of_ble_eq_true rfl, Nat.le_of_ble_eq_true rfl⟩ rfl (Nat.le_of_ble_eq_true rfl) hL (t_X0_power F sh hL _ _ _ hc3) ?_
      refine nd_iload_n dX0_weight_20 2 rfl ?_
      refine nd_iload_n dX0_weight_21 1 rfl ?_
      refine nd_iconst dX0_weight_22 ic_1 ?_
      refine nd_isub dX0_weight_23 ?_
      refine nd_iload dX0_weight_24 5 rfl ?_
      refine nd_isub dX0_weight_26 ?_
      obtain ⟨r4, σ5, hc6, h⟩ := nd_bind_e h
      refine nd_csi [.int x2, .int ((x1 - (1 : Int32)) - x5)] [.int r1, .int x4] dX0_weight_27 cl_X0_21 ⟨Nat.le_of_ble_eq_true rfl, Nat.le_of_ble_eq_true rfl⟩ rfl (Nat.le_of_ble_eq_true rfl) hL (t_X0_power F sh hL _ _ _ hc6) ?_
      refine nd_imul dX0_weight_30 ?_
      refine nd_iadd dX0_weight_31 ?_
      refine nd_istore (ls' := [(4, .int (x4 + (r1 * r4))), (0, .int x0), (1, .int x1), (2, .int x2), (3, .int x3), (5, .int x5)]) dX0_weight_32 (by decide) rfl ?_
      refine nd_iinc (v := (x5 + (1 : Int32))) (ls' := [(5, .int (x5 + (1 : Int32))), (4, .int (x4 + (r1 * r4))), (0, .int x0), (1, .int x1), (2, .int x2), (3, .int x3)]) dX0_weight_34 5 rfl (congrArg (HAdd.hAdd _) ic_1) (by decide) rfl ?_
      refine nd_goto dX0_weight_37 6 (by decide) ?_
      refine nd_sub [2, 3, 4, 5, 1, 0] rfl ?_
      exact hrec6 _ _ _ _ _ _ _ h
set_option maxRecDepth 100000 in
set_option maxHeartbeats 4000000 in
theorem t_X0_weight (F : Nat) (sh : List nd_S) (hL : sh.length < nd_ro) {z : Int32 × nd_Mem} (x0 : Int32) (x1 : Int32) (x2 : Int32) (x3 : Int32) (σ : nd_Mem) (h : f_X0_weight F x0 x1 x2 x3 σ = some z) : nd_Fn M_X0_weight (nd_rm 1) [.int x0, .int x1, .int x2, .int x3] sh σ (nd_Pi sh z) := by
  refine nd_Fn.ofV (ls := [(0, .int x0), (1, .int x1), (2, .int x2), (3, .int x3)]) pl_X0_weight rfl (fun _ => Nat.le_of_ble_eq_true rfl) (fun _ => rfl) ?_
  unfold f_X0_weight at h
  refine nd_iconst dX0_weight_0 ic_0 ?_
  refine nd_istore (ls' := [(4, .int (0 : Int32)), (0, .int x0), (1, .int x1), (2, .int x2), (3, .int x3)]) dX0_weight_1 (by decide) rfl ?_
  refine nd_iconst dX0_weight_3 ic_0 ?_
  refine nd_istore (ls' := [(5, .int (0 : Int32)), (4, .int (0 : Int32)), (0, .int x0), (1, .int x1), (2, .int x2), (3, .int x3)]) dX0_weight_4 (by decide) rfl ?_
  refine nd_sub [2, 3, 4, 5, 1, 0] rfl ?_
  exact b_X0_weight_6 F sh hL F _ _ _ _ _ _ _ h
def f_J0_indexOf_7cf53 (F : Nat) (i : Nat) (x1 : Int32) (x2 : Int32) (σ : nd_Mem) : nd_Res := (nd_bind (f_J0_isLatin1_aae02 F i σ) fun r1 σ2 => (if r1 = 0 then (nd_bind (f_J0_length_8abf5 F i σ2) fun r4 σ5 => none) else (nd_bind (f_J0_length_8abf5 F i σ2) fun r7 σ8 => (nd_bind (f_J1_indexOf_4cfef F i x1 x2 r7 σ8) fun r10 σ11 => (some (r10, σ11))))))
set_option maxRecDepth 100000 in
set_option maxHeartbeats 4000000 in
theorem t_J0_indexOf_7cf53 (F : Nat) (i : Nat) (sh : List nd_S) (hL : sh.length < nd_ro) (hs : i < 5) {z : Int32 × nd_Mem} (x1 : Int32) (x2 : Int32) (σ : nd_Mem) (h : f_J0_indexOf_7cf53 F i x1 x2 σ = some z) : nd_Fn M_J0_indexOf_7cf53 (nd_rm 2) [.ref (1000001 + i), .int x1, .int x2] sh σ (nd_Pi sh z) := by
  refine nd_Fn.ofV (ls := [(0, .ref (1000001 + i)), (1, .int x1), (2, .int x2)]) pl_J0_indexOf_7cf53 rfl (fun _ => Nat.le_of_ble_eq_true rfl) (fun _ => rfl) ?_
  unfold f_J0_indexOf_7cf53 at h
  refine nd_aload_n dJ0_indexOf_7cf53_0 0 rfl ?_
  obtain ⟨r1, σ2, hc3, h⟩ := nd_bind_e h
  refine nd_cti [] [] hs dJ0_indexOf_7cf53_1 cl_J0_492 ⟨Nat.le_of_ble_eq_true rfl, Nat.le_of_ble_eq_true rfl⟩ rfl (Nat.le_of_ble_eq_true rfl) hL (t_J0_isLatin1_aae02 F i sh hL hs _ hc3) ?_
  refine nd_if_eqN dJ0_indexOf_7cf53_4 23 (by decide) h (fun h => ?_) (fun h => ?_)
  · refine nd_aload_n dJ0_indexOf_7cf53_23 0 rfl ?_
    refine nd_getSv hs dJ0_indexOf_7cf53_24 sl_J0_9 ?_
    refine nd_iload_n dJ0_indexOf_7cf53_27 1 rfl ?_
    refine nd_iload_n dJ0_indexOf_7cf53_28 2 rfl ?_
    refine nd_aload_n dJ0_indexOf_7cf53_29 0 rfl ?_
    obtain ⟨r4, σ5, hc6, h⟩ := nd_bind_e h
    refine nd_cti [] [.int x2, .int x1, .ref (1000006 + i)] hs dJ0_indexOf_7cf53_30 cl_J0_505 ⟨Nat.le_of_ble_eq_true rfl, Nat.le_of_ble_eq_true rfl⟩ rfl (Nat.le_of_ble_eq_true rfl) hL (t_J0_length_8abf5 F i sh hL hs _ hc6) ?_
    cases h
  · refine nd_aload_n dJ0_indexOf_7cf53_7 0 rfl ?_
    refine nd_getSv hs dJ0_indexOf_7cf53_8 sl_J0_9 ?_
    refine nd_iload_n dJ0_indexOf_7cf53_11 1 rfl ?_
    refine nd_iload_n dJ0_indexOf_7cf53_12 2 rfl ?_
    refine nd_aload_n dJ0_indexOf_7cf53_13 0 rfl ?_
    obtain ⟨r7, σ8, hc9, h⟩ := nd_bind_e h
    refine nd_cti [] [.int x2, .int x1, .ref (1000006 + i)] hs dJ0_indexOf_7cf53_14 cl_J0_505 ⟨Nat.le_of_ble_eq_true rfl, Nat.le_of_ble_eq_true rfl⟩ rfl (Nat.le_of_ble_eq_true rfl) hL (t_J0_length_8abf5 F i sh hL hs _ hc9) ?_
    obtain ⟨r10, σ11, hc12, h⟩ := nd_bind_e h
    refine nd_csi [.ref (1000006 + i), .int x1, .int x2, .int r7] [] dJ0_indexOf_7cf53_17 cl_J0_637 ⟨Nat.le_of_ble_eq_true rfl, Nat.le_of_ble_eq_true rfl⟩ rfl (Nat.le_of_ble_eq_true rfl) hL (t_J1_indexOf_4cfef F i sh hL hs _ _ _ _ hc12) ?_
    refine nd_goto dJ0_indexOf_7cf53_20 36 (by decide) ?_
    exact nd_iret dJ0_indexOf_7cf53_36 (Nat.zero_le _) (Nat.zero_le _) (vp_nar_int _) (by cases h; exact ⟨rfl, rfl, rfl⟩)
def f_J1_charAt_3b067 (F : Nat) (o0i : Nat) (x1 : Int32) (σ : nd_Mem) : nd_Res := (nd_bind (f_J0_checkIndex_df160 F x1 (Int32.ofNat (nd_ln.getD o0i 0)) σ) fun r1 σ2 => (if x1 < 0 ∨ nd_ln.getD o0i 0 ≤ (x1).toNatClampNeg then none else (if ¬ (narrow .char (.int (((((nd_by.getD o0i []).getD (x1).toNatClampNeg 0) &&& (255 : Int32))).toUInt32 % 65536).toInt32) = .int (((((nd_by.getD o0i []).getD (x1).toNatClampNeg 0) &&& (255 : Int32))).toUInt32 % 65536).toInt32) then none else (some ((((((nd_by.getD o0i []).getD (x1).toNatClampNeg 0) &&& (255 : Int32))).toUInt32 % 65536).toInt32, σ2)))))
set_option maxRecDepth 100000 in
set_option maxHeartbeats 4000000 in
theorem t_J1_charAt_3b067 (F : Nat) (o0i : Nat) (sh : List nd_S) (hL : sh.length < nd_ro) (hso0 : o0i < 5) {z : Int32 × nd_Mem} (x1 : Int32) (σ : nd_Mem) (h : f_J1_charAt_3b067 F o0i x1 σ = some z) : nd_Fn M_J1_charAt_3b067 (nd_rm 2) [.ref (1000006 + o0i), .int x1] sh σ (nd_Pi sh z) := by
  refine nd_Fn.ofV (ls := [(0, .ref (1000006 + o0i)), (1, .int x1)]) pl_J1_charAt_3b067 rfl (fun _ => Nat.le_of_ble_eq_true rfl) (fun _ => rfl) ?_
  unfold f_J1_charAt_3b067 at h
  refine nd_iload_n dJ1_charAt_3b067_0 1 rfl ?_
  refine nd_aload_n dJ1_charAt_3b067_1 0 rfl ?_
  refine nd_alenS (v := (Int32.ofNat (nd_ln.getD o0i 0))) hso0 dJ1_charAt_3b067_2 rfl ?_
  obtain ⟨r1, σ2, hc3, h⟩ := nd_bind_e h
  refine nd_csv [.int x1, .int (Int32.ofNat (nd_ln.getD o0i 0))] [] dJ1_charAt_3b067_3 cl_J1_9 ⟨Nat.le_of_ble_eq_true rfl, Nat.le_of_ble_eq_true rfl⟩ rfl (Nat.le_of_ble_eq_true rfl) hL (t_J0_checkIndex_df160 F sh hL _ _ _ hc3) ?_
  refine nd_aload_n dJ1_charAt_3b067_6 0 rfl ?_
  refine nd_iload_n dJ1_charAt_3b067_7 1 rfl ?_
  refine nd_baloadN hso0 dJ1_charAt_3b067_8 h (fun h => ?_)
  refine nd_sipush dJ1_charAt_3b067_9 is_255 ?_
  refine nd_iand dJ1_charAt_3b067_12 ?_
  refine nd_i2c dJ1_charAt_3b067_13 ?_
  exact nd_iret dJ1_charAt_3b067_14 (Nat.zero_le _) (Nat.zero_le _) (nd_charok (Classical.not_not.mp (nd_no_e h).1)) (by have h := (nd_no_e h).2; cases h; exact ⟨rfl, rfl, rfl⟩)
def f_X0_meetsBehind_2_b (F : Nat) (rec2 : Int32 → Int32 → Int32 → Int32 → nd_Mem → nd_Res) (x0 : Int32) (x1 : Int32) (x2 : Int32) (x3 : Int32) (σ : nd_Mem) : nd_Res := (if x0 ≤ x3 then (some ((-1 : Int32), σ)) else (nd_bind (f_X0_apartBehind F x0 x1 x2 x3 σ) fun r1 σ2 => (if r1 = 0 then (some (x3, σ2)) else (rec2 x0 x1 x2 (x3 + (1 : Int32)) σ2))))
def f_X0_meetsBehind_2 (F : Nat) : Nat → Int32 → Int32 → Int32 → Int32 → nd_Mem → nd_Res
  | 0, _, _, _, _, _ => none
  | m9 + 1, x0, x1, x2, x3, σ => f_X0_meetsBehind_2_b F (f_X0_meetsBehind_2 F m9) x0 x1 x2 x3 σ
def f_X0_meetsBehind (F : Nat) (x0 : Int32) (x1 : Int32) (x2 : Int32) (σ : nd_Mem) : nd_Res := (f_X0_meetsBehind_2 F F x0 x1 x2 (0 : Int32) σ)
set_option maxRecDepth 100000 in
set_option maxHeartbeats 4000000 in
theorem b_X0_meetsBehind_2 (F : Nat) (sh : List nd_S) (hL : sh.length < nd_ro) {z : Int32 × nd_Mem} (m9 : Nat) : ∀ (x0 : Int32) (x1 : Int32) (x2 : Int32) (x3 : Int32) (σ : nd_Mem), f_X0_meetsBehind_2 F m9 x0 x1 x2 x3 σ = some z → nd_V M_X0_meetsBehind (nd_rm 2) (nd_Pi sh z) 0 0 2 [(0, .int x0), (1, .int x1), (2, .int x2), (3, .int x3)] [] sh σ := by
  induction m9 with
  | zero =>
    intro x0 x1 x2 x3 σ h
    have h : none = some z := h
    cases h
  | succ m9 hrec2 =>
    intro x0 x1 x2 x3 σ h
    have h : f_X0_meetsBehind_2_b F (f_X0_meetsBehind_2 F m9) x0 x1 x2 x3 σ = some z := h
    unfold f_X0_meetsBehind_2_b at h
    refine nd_iload_n dX0_meetsBehind_2 3 rfl ?_
    refine nd_iload_n dX0_meetsBehind_3 0 rfl ?_
    refine nd_icmp_geN dX0_meetsBehind_4 25 (by decide) h (fun h => ?_) (fun h => ?_)
    · refine nd_iconst dX0_meetsBehind_25 ic_m1 ?_
      exact nd_iret dX0_meetsBehind_26 (Nat.zero_le _) (Nat.zero_le _) (vp_nar_int _) (by cases h; exact ⟨rfl, rfl, rfl⟩)
    · refine nd_iload_n dX0_meetsBehind_7 0 rfl ?_
      refine nd_iload_n dX0_meetsBehind_8 1 rfl ?_
      refine nd_iload_n dX0_meetsBehind_9 2 rfl ?_
      refine nd_iload_n dX0_meetsBehind_10 3 rfl ?_
      obtain ⟨r1, σ2, hc3, h⟩ := nd_bind_e h
      refine nd_csi [.int x0, .int x1, .int x2, .int x3] [] dX0_meetsBehind_11 cl_X0_9 ⟨Nat.le_of_ble_eq_true rfl, Nat.le_of_ble_eq_true rfl⟩ rfl (Nat.le_of_ble_eq_true rfl) hL (t_X0_apartBehind F sh hL _ _ _ _ _ hc3) ?_
      refine nd_if_neN dX0_meetsBehind_14 19 (by decide) h (fun h => ?_) (fun h => ?_)
      · refine nd_iinc (v := (x3 + (1 : Int32))) (ls' := [(3, .int (x3 + (1 : Int32))), (0, .int x0), (1, .int x1), (2, .int x2)]) dX0_meetsBehind_19 3 rfl (congrArg (HAdd.hAdd _) ic_1) (by decide) rfl ?_
        refine nd_goto dX0_meetsBehind_22 2 (by decide) ?_
        refine nd_sub [1, 2, 3, 0] rfl ?_
        exact hrec2 _ _ _ _ _ h
      · refine nd_iload_n dX0_meetsBehind_17 3 rfl ?_
        exact nd_iret dX0_meetsBehind_18 (Nat.zero_le _) (Nat.zero_le _) (vp_nar_int _) (by cases h; exact ⟨rfl, rfl, rfl⟩)
set_option maxRecDepth 100000 in
set_option maxHeartbeats 4000000 in
theorem t_X0_meetsBehind (F : Nat) (sh : List nd_S) (hL : sh.length < nd_ro) {z : Int32 × nd_Mem} (x0 : Int32) (x1 : Int32) (x2 : Int32) (σ : nd_Mem) (h : f_X0_meetsBehind F x0 x1 x2 σ = some z) : nd_Fn M_X0_meetsBehind (nd_rm 2) [.int x0, .int x1, .int x2] sh σ (nd_Pi sh z) := by
  refine nd_Fn.ofV (ls := [(0, .int x0), (1, .int x1), (2, .int x2)]) pl_X0_meetsBehind rfl (fun _ => Nat.le_of_ble_eq_true rfl) (fun _ => rfl) ?_
  unfold f_X0_meetsBehind at h
  refine nd_iconst dX0_meetsBehind_0 ic_0 ?_
  refine nd_istore_n (ls' := [(3, .int (0 : Int32)), (0, .int x0), (1, .int x1), (2, .int x2)]) dX0_meetsBehind_1 (by decide) rfl ?_
  refine nd_sub [1, 2, 3, 0] rfl ?_
  exact b_X0_meetsBehind_2 F sh hL F _ _ _ _ _ h
def f_X0_passesFirst_2_b (F : Nat) (rec2 : Int32 → Int32 → Int32 → Int32 → nd_Mem → nd_Res) (x0 : Int32) (x1 : Int32) (x2 : Int32) (x3 : Int32) (σ : nd_Mem) : nd_Res := (if x0 ≤ x3 then (some ((0 : Int32), σ)) else (nd_bind (f_X0_apartBehind F x0 x1 x2 x3 σ) fun r1 σ2 => (if x1 < r1 then (rec2 x0 x1 x2 (x3 + (1 : Int32)) σ2) else (if r1 = 0 then (some ((0 : Int32), σ2)) else (some ((1 : Int32), σ2))))))
def f_X0_passesFirst_2 (F : Nat) : Nat → Int32 → Int32 → Int32 → Int32 → nd_Mem → nd_Res
  | 0, _, _, _, _, _ => none
  | m9 + 1, x0, x1, x2, x3, σ => f_X0_passesFirst_2_b F (f_X0_passesFirst_2 F m9) x0 x1 x2 x3 σ
def f_X0_passesFirst (F : Nat) (x0 : Int32) (x1 : Int32) (x2 : Int32) (σ : nd_Mem) : nd_Res := (f_X0_passesFirst_2 F F x0 x1 x2 (0 : Int32) σ)
set_option maxRecDepth 100000 in
set_option maxHeartbeats 4000000 in
theorem b_X0_passesFirst_2 (F : Nat) (sh : List nd_S) (hL : sh.length < nd_ro) {z : Int32 × nd_Mem} (m9 : Nat) : ∀ (x0 : Int32) (x1 : Int32) (x2 : Int32) (x3 : Int32) (σ : nd_Mem), f_X0_passesFirst_2 F m9 x0 x1 x2 x3 σ = some z → nd_V M_X0_passesFirst (nd_rm 2) (nd_Pi sh z) 0 0 2 [(0, .int x0), (1, .int x1), (2, .int x2), (3, .int x3)] [] sh σ := by
  induction m9 with
  | zero =>
    intro x0 x1 x2 x3 σ h
    have h : none = some z := h
    cases h
  | succ m9 hrec2 =>
    intro x0 x1 x2 x3 σ h
    have h : f_X0_passesFirst_2_b F (f_X0_passesFirst_2 F m9) x0 x1 x2 x3 σ = some z := h
    unfold f_X0_passesFirst_2_b at h
    refine nd_iload_n dX0_passesFirst_2 3 rfl ?_
    refine nd_iload_n dX0_passesFirst_3 0 rfl ?_
    refine nd_icmp_geN dX0_passesFirst_4 39 (by decide) h (fun h => ?_) (fun h => ?_)
    · refine nd_iconst dX0_passesFirst_39 ic_0 ?_
      exact nd_iret dX0_passesFirst_40 (Nat.zero_le _) (Nat.zero_le _) (vp_nar_int _) (by cases h; exact ⟨rfl, rfl, rfl⟩)
    · refine nd_iload_n dX0_passesFirst_7 0 rfl ?_
      refine nd_iload_n dX0_passesFirst_8 1 rfl ?_
      refine nd_iload_n dX0_passesFirst_9 2 rfl ?_
      refine nd_iload_n dX0_passesFirst_10 3 rfl ?_
      obtain ⟨r1, σ2, hc3, h⟩ := nd_bind_e h
      refine nd_csi [.int x0, .int x1, .int x2, .int x3] [] dX0_passesFirst_11 cl_X0_9 ⟨Nat.le_of_ble_eq_true rfl, Nat.le_of_ble_eq_true rfl⟩ rfl (Nat.le_of_ble_eq_true rfl) hL (t_X0_apartBehind F sh hL _ _ _ _ _ hc3) ?_
      refine nd_istore (ls' := [(4, .int r1), (0, .int x0), (1, .int x1), (2, .int x2), (3, .int x3)]) dX0_passesFirst_14 (by decide) rfl ?_
      refine nd_iload dX0_passesFirst_16 0 rfl ?_
      refine nd_iload_n dX0_passesFirst_18 2 rfl ?_
      refine nd_icmp_gtN dX0_passesFirst_19 33 (by decide) h (fun h => ?_) (fun h => ?_)
      · refine nd_iinc (v := (x3 + (1 : Int32))) (ls' := [(3, .int (x3 + (1 : Int32))), (4, .int r1), (0, .int x0), (1, .int x1), (2, .int x2)]) dX0_passesFirst_33 4 rfl (congrArg (HAdd.hAdd _) ic_1) (by decide) rfl ?_
        refine nd_goto dX0_passesFirst_36 2 (by decide) ?_
        refine nd_sub [2, 3, 4, 0] rfl ?_
        exact hrec2 _ _ _ _ _ h
      · refine nd_iload dX0_passesFirst_22 0 rfl ?_
        refine nd_if_neN dX0_passesFirst_24 31 (by decide) h (fun h => ?_) (fun h => ?_)
        · refine nd_iconst dX0_passesFirst_31 ic_1 ?_
          exact nd_iret dX0_passesFirst_32 (Nat.zero_le _) (Nat.zero_le _) (vp_nar_int _) (by cases h; exact ⟨rfl, rfl, rfl⟩)
        · refine nd_iconst dX0_passesFirst_27 ic_0 ?_
          refine nd_goto dX0_passesFirst_28 32 (by decide) ?_
          exact nd_iret dX0_passesFirst_32 (Nat.zero_le _) (Nat.zero_le _) (vp_nar_int _) (by cases h; exact ⟨rfl, rfl, rfl⟩)
set_option maxRecDepth 100000 in
set_option maxHeartbeats 4000000 in
theorem t_X0_passesFirst (F : Nat) (sh : List nd_S) (hL : sh.length < nd_ro) {z : Int32 × nd_Mem} (x0 : Int32) (x1 : Int32) (x2 : Int32) (σ : nd_Mem) (h : f_X0_passesFirst F x0 x1 x2 σ = some z) : nd_Fn M_X0_passesFirst (nd_rm 2) [.int x0, .int x1, .int x2] sh σ (nd_Pi sh z) := by
  refine nd_Fn.ofV (ls := [(0, .int x0), (1, .int x1), (2, .int x2)]) pl_X0_passesFirst rfl (fun _ => Nat.le_of_ble_eq_true rfl) (fun _ => rfl) ?_
  unfold f_X0_passesFirst at h
  refine nd_iconst dX0_passesFirst_0 ic_0 ?_
  refine nd_istore_n (ls' := [(3, .int (0 : Int32)), (0, .int x0), (1, .int x1), (2, .int x2)]) dX0_passesFirst_1 (by decide) rfl ?_
  refine nd_sub [1, 2, 3, 0] rfl ?_
  exact b_X0_passesFirst_2 F sh hL F _ _ _ _ _ h
def f_J0_charAt_5068e (F : Nat) (i : Nat) (x1 : Int32) (σ : nd_Mem) : nd_Res := (nd_bind (f_J0_isLatin1_aae02 F i σ) fun r1 σ2 => (if r1 = 0 then none else (nd_bind (f_J1_charAt_3b067 F i x1 σ2) fun r4 σ5 => (if ¬ (narrow .char (.int r4) = .int r4) then none else (some (r4, σ5))))))
set_option maxRecDepth 100000 in
set_option maxHeartbeats 4000000 in
theorem t_J0_charAt_5068e (F : Nat) (i : Nat) (sh : List nd_S) (hL : sh.length < nd_ro) (hs : i < 5) {z : Int32 × nd_Mem} (x1 : Int32) (σ : nd_Mem) (h : f_J0_charAt_5068e F i x1 σ = some z) : nd_Fn M_J0_charAt_5068e (nd_rm 3) [.ref (1000001 + i), .int x1] sh σ (nd_Pi sh z) := by
  refine nd_Fn.ofV (ls := [(0, .ref (1000001 + i)), (1, .int x1)]) pl_J0_charAt_5068e rfl (fun _ => Nat.le_of_ble_eq_true rfl) (fun _ => rfl) ?_
  unfold f_J0_charAt_5068e at h
  refine nd_aload_n dJ0_charAt_5068e_0 0 rfl ?_
  obtain ⟨r1, σ2, hc3, h⟩ := nd_bind_e h
  refine nd_cti [] [] hs dJ0_charAt_5068e_1 cl_J0_492 ⟨Nat.le_of_ble_eq_true rfl, Nat.le_of_ble_eq_true rfl⟩ rfl (Nat.le_of_ble_eq_true rfl) hL (t_J0_isLatin1_aae02 F i sh hL hs _ hc3) ?_
  refine nd_if_eqN dJ0_charAt_5068e_4 16 (by decide) h (fun h => ?_) (fun h => ?_)
  · refine nd_aload_n dJ0_charAt_5068e_16 0 rfl ?_
    refine nd_getSv hs dJ0_charAt_5068e_17 sl_J0_9 ?_
    refine nd_iload_n dJ0_charAt_5068e_20 1 rfl ?_
    cases h
  · refine nd_aload_n dJ0_charAt_5068e_7 0 rfl ?_
    refine nd_getSv hs dJ0_charAt_5068e_8 sl_J0_9 ?_
    refine nd_iload_n dJ0_charAt_5068e_11 1 rfl ?_
    obtain ⟨r4, σ5, hc6, h⟩ := nd_bind_e h
    refine nd_csi [.ref (1000006 + i), .int x1] [] dJ0_charAt_5068e_12 cl_J0_495 ⟨Nat.le_of_ble_eq_true rfl, Nat.le_of_ble_eq_true rfl⟩ rfl (Nat.le_of_ble_eq_true rfl) hL (t_J1_charAt_3b067 F i sh hL hs _ _ hc6) ?_
    exact nd_iret dJ0_charAt_5068e_15 (Nat.zero_le _) (Nat.zero_le _) (nd_charok (Classical.not_not.mp (nd_no_e h).1)) (by have h := (nd_no_e h).2; cases h; exact ⟨rfl, rfl, rfl⟩)
def f_J0_indexOf_0f7a4 (F : Nat) (i : Nat) (x1 : Int32) (σ : nd_Mem) : nd_Res := (nd_bind (f_J0_indexOf_7cf53 F i x1 (0 : Int32) σ) fun r1 σ2 => (some (r1, σ2)))
set_option maxRecDepth 100000 in
set_option maxHeartbeats 4000000 in
theorem t_J0_indexOf_0f7a4 (F : Nat) (i : Nat) (sh : List nd_S) (hL : sh.length < nd_ro) (hs : i < 5) {z : Int32 × nd_Mem} (x1 : Int32) (σ : nd_Mem) (h : f_J0_indexOf_0f7a4 F i x1 σ = some z) : nd_Fn M_J0_indexOf_0f7a4 (nd_rm 3) [.ref (1000001 + i), .int x1] sh σ (nd_Pi sh z) := by
  refine nd_Fn.ofV (ls := [(0, .ref (1000001 + i)), (1, .int x1)]) pl_J0_indexOf_0f7a4 rfl (fun _ => Nat.le_of_ble_eq_true rfl) (fun _ => rfl) ?_
  unfold f_J0_indexOf_0f7a4 at h
  refine nd_aload_n dJ0_indexOf_0f7a4_0 0 rfl ?_
  refine nd_iload_n dJ0_indexOf_0f7a4_1 1 rfl ?_
  refine nd_iconst dJ0_indexOf_0f7a4_2 ic_0 ?_
  obtain ⟨r1, σ2, hc3, h⟩ := nd_bind_e h
  refine nd_cti [.int x1, .int (0 : Int32)] [] hs dJ0_indexOf_0f7a4_3 cl_J0_633 ⟨Nat.le_of_ble_eq_true rfl, Nat.le_of_ble_eq_true rfl⟩ rfl (Nat.le_of_ble_eq_true rfl) hL (t_J0_indexOf_7cf53 F i sh hL hs _ _ _ hc3) ?_
  exact nd_iret dJ0_indexOf_0f7a4_6 (Nat.zero_le _) (Nat.zero_le _) (vp_nar_int _) (by cases h; exact ⟨rfl, rfl, rfl⟩)
