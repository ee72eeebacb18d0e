def f_X3_addToken (F : Nat) (x1 : Int32) (x2 : Int32) (x3 : Int32) (σ : nd_Mem) : nd_Res := (if (401 : Int32) ≤ (σ 38 10) then (some (0, σ)) else (if (σ 38 10) < 0 ∨ 401 ≤ ((σ 38 10)).toNatClampNeg then none else (nd_let (nd_up σ 48 ((σ 38 10)).toNatClampNeg x1) fun σ1 => (if (σ1 38 10) < 0 ∨ 401 ≤ ((σ1 38 10)).toNatClampNeg then none else (nd_let (nd_up σ1 49 ((σ1 38 10)).toNatClampNeg x2) fun σ2 => (if (σ2 38 10) < 0 ∨ 401 ≤ ((σ2 38 10)).toNatClampNeg then none else (nd_let (nd_up σ2 50 ((σ2 38 10)).toNatClampNeg x3) fun σ3 => (nd_let (nd_up σ3 38 10 ((σ3 38 10) + (1 : Int32))) fun σ4 => (some (0, σ4))))))))))
set_option maxRecDepth 100000 in
set_option maxHeartbeats 4000000 in
theorem t_X3_addToken (F : Nat) (t : List nd_S) (hL : (nd_SH ++ t).length < nd_ro) {z : Int32 × nd_Mem} (x1 : Int32) (x2 : Int32) (x3 : Int32) (σ : nd_Mem) (h : f_X3_addToken F x1 x2 x3 σ = some z) : nd_Fn M_X3_addToken (nd_rm 0) [.ref 38, .int x1, .int x2, .int x3] (nd_SH ++ t) σ (nd_Pv (nd_SH ++ t) z) := by
  refine nd_Fn.ofV (ls := [(0, .ref 38), (1, .int x1), (2, .int x2), (3, .int x3)]) pl_X3_addToken rfl (fun _ => Nat.le_of_ble_eq_true rfl) (fun _ => rfl) ?_
  unfold f_X3_addToken at h
  refine nd_aload_n dX3_addToken_0 0 rfl ?_
  refine nd_get dX3_addToken_1 gf_X3_159 (sh_38 t) rfl ?_
  refine nd_aload_n dX3_addToken_4 0 rfl ?_
  refine nd_get dX3_addToken_5 gf_X3_22 (sh_38 t) rfl ?_
  refine nd_alen (v := (401 : Int32)) dX3_addToken_8 (sh_48 t) rfl ?_
  refine nd_icmp_geN dX3_addToken_9 52 (by decide) h (fun h => ?_) (fun h => ?_)
  · exact nd_vret dX3_addToken_52 (Nat.zero_le _) (Nat.zero_le _) trivial (by cases h; exact ⟨rfl, rfl, rfl⟩)
  · refine nd_aload_n dX3_addToken_12 0 rfl ?_
    refine nd_get dX3_addToken_13 gf_X3_22 (sh_38 t) rfl ?_
    refine nd_aload_n dX3_addToken_16 0 rfl ?_
    refine nd_get dX3_addToken_17 gf_X3_159 (sh_38 t) rfl ?_
    refine nd_iload_n dX3_addToken_20 1 rfl ?_
    refine nd_iastoreN dX3_addToken_21 (sh_48 t) h (fun σ1 h => ?_)
    refine nd_aload_n dX3_addToken_22 0 rfl ?_
    refine nd_get dX3_addToken_23 gf_X3_25 (sh_38 t) rfl ?_
    refine nd_aload_n dX3_addToken_26 0 rfl ?_
    refine nd_get dX3_addToken_27 gf_X3_159 (sh_38 t) rfl ?_
    refine nd_iload_n dX3_addToken_30 2 rfl ?_
    refine nd_iastoreN dX3_addToken_31 (sh_49 t) h (fun σ2 h => ?_)
    refine nd_aload_n dX3_addToken_32 0 rfl ?_
    refine nd_get dX3_addToken_33 gf_X3_28 (sh_38 t) rfl ?_
    refine nd_aload_n dX3_addToken_36 0 rfl ?_
    refine nd_get dX3_addToken_37 gf_X3_159 (sh_38 t) rfl ?_
    refine nd_iload_n dX3_addToken_40 3 rfl ?_
    refine nd_iastoreN dX3_addToken_41 (sh_50 t) h (fun σ3 h => ?_)
    refine nd_aload_n dX3_addToken_42 0 rfl ?_
    refine nd_dup dX3_addToken_43 rfl ?_
    refine nd_get dX3_addToken_44 gf_X3_159 (sh_38 t) rfl ?_
    refine nd_iconst dX3_addToken_47 ic_1 ?_
    refine nd_iadd dX3_addToken_48 ?_
    refine nd_putiN dX3_addToken_49 pf_X3_159 (sh_38 t) rfl h (fun σ4 h => ?_)
    exact nd_vret dX3_addToken_52 (Nat.zero_le _) (Nat.zero_le _) trivial (by cases h; exact ⟨rfl, rfl, rfl⟩)
def f_X3_advance (F : Nat) (σ : nd_Mem) : nd_Res := (if (σ 38 10) ≤ (σ 38 14) then (some (0, σ)) else (if (401 : Int32) ≤ (σ 38 14) then (some (0, σ)) else (if (σ 38 14) < 0 ∨ 401 ≤ ((σ 38 14)).toNatClampNeg then none else (nd_let (nd_up σ 38 11 (σ 48 ((σ 38 14)).toNatClampNeg)) fun σ1 => (if (σ1 38 14) < 0 ∨ 401 ≤ ((σ1 38 14)).toNatClampNeg then none else (nd_let (nd_up σ1 38 12 (σ1 49 ((σ1 38 14)).toNatClampNeg)) fun σ2 => (if (σ2 38 14) < 0 ∨ 401 ≤ ((σ2 38 14)).toNatClampNeg then none else (nd_let (nd_up σ2 38 13 (σ2 50 ((σ2 38 14)).toNatClampNeg)) fun σ3 => (nd_let (nd_up σ3 38 14 ((σ3 38 14) + (1 : Int32))) fun σ4 => (some (0, σ4)))))))))))
set_option maxRecDepth 100000 in
set_option maxHeartbeats 4000000 in
theorem t_X3_advance (F : Nat) (t : List nd_S) (hL : (nd_SH ++ t).length < nd_ro) {z : Int32 × nd_Mem} (σ : nd_Mem) (h : f_X3_advance F σ = some z) : nd_Fn M_X3_advance (nd_rm 0) [.ref 38] (nd_SH ++ t) σ (nd_Pv (nd_SH ++ t) z) := by
  refine nd_Fn.ofV (ls := [(0, .ref 38)]) pl_X3_advance rfl (fun _ => Nat.le_of_ble_eq_true rfl) (fun _ => rfl) ?_
  unfold f_X3_advance at h
  refine nd_aload_n dX3_advance_0 0 rfl ?_
  refine nd_get dX3_advance_1 gf_X3_156 (sh_38 t) rfl ?_
  refine nd_aload_n dX3_advance_4 0 rfl ?_
  refine nd_get dX3_advance_5 gf_X3_159 (sh_38 t) rfl ?_
  refine nd_icmp_geN dX3_advance_8 72 (by decide) h (fun h => ?_) (fun h => ?_)
  · exact nd_vret dX3_advance_72 (Nat.zero_le _) (Nat.zero_le _) trivial (by cases h; exact ⟨rfl, rfl, rfl⟩)
  · refine nd_aload_n dX3_advance_11 0 rfl ?_
    refine nd_get dX3_advance_12 gf_X3_156 (sh_38 t) rfl ?_
    refine nd_aload_n dX3_advance_15 0 rfl ?_
    refine nd_get dX3_advance_16 gf_X3_22 (sh_38 t) rfl ?_
    refine nd_alen (v := (401 : Int32)) dX3_advance_19 (sh_48 t) rfl ?_
    refine nd_icmp_geN dX3_advance_20 72 (by decide) h (fun h => ?_) (fun h => ?_)
    · exact nd_vret dX3_advance_72 (Nat.zero_le _) (Nat.zero_le _) trivial (by cases h; exact ⟨rfl, rfl, rfl⟩)
    · refine nd_aload_n dX3_advance_23 0 rfl ?_
      refine nd_aload_n dX3_advance_24 0 rfl ?_
      refine nd_get dX3_advance_25 gf_X3_22 (sh_38 t) rfl ?_
      refine nd_aload_n dX3_advance_28 0 rfl ?_
      refine nd_get dX3_advance_29 gf_X3_156 (sh_38 t) rfl ?_
      refine nd_ialoadN dX3_advance_32 (sh_48 t) h (fun h => ?_)
      refine nd_putiN dX3_advance_33 pf_X3_64 (sh_38 t) rfl h (fun σ1 h => ?_)
      refine nd_aload_n dX3_advance_36 0 rfl ?_
      refine nd_aload_n dX3_advance_37 0 rfl ?_
      refine nd_get dX3_advance_38 gf_X3_25 (sh_38 t) rfl ?_
      refine nd_aload_n dX3_advance_41 0 rfl ?_
      refine nd_get dX3_advance_42 gf_X3_156 (sh_38 t) rfl ?_
      refine nd_ialoadN dX3_advance_45 (sh_49 t) h (fun h => ?_)
      refine nd_putiN dX3_advance_46 pf_X3_81 (sh_38 t) rfl h (fun σ2 h => ?_)
      refine nd_aload_n dX3_advance_49 0 rfl ?_
      refine nd_aload_n dX3_advance_50 0 rfl ?_
      refine nd_get dX3_advance_51 gf_X3_28 (sh_38 t) rfl ?_
      refine nd_aload_n dX3_advance_54 0 rfl ?_
      refine nd_get dX3_advance_55 gf_X3_156 (sh_38 t) rfl ?_
      refine nd_ialoadN dX3_advance_58 (sh_50 t) h (fun h => ?_)
      refine nd_putiN dX3_advance_59 pf_X3_153 (sh_38 t) rfl h (fun σ3 h => ?_)
      refine nd_aload_n dX3_advance_62 0 rfl ?_
      refine nd_dup dX3_advance_63 rfl ?_
      refine nd_get dX3_advance_64 gf_X3_156 (sh_38 t) rfl ?_
      refine nd_iconst dX3_advance_67 ic_1 ?_
      refine nd_iadd dX3_advance_68 ?_
      refine nd_putiN dX3_advance_69 pf_X3_156 (sh_38 t) rfl h (fun σ4 h => ?_)
      exact nd_vret dX3_advance_72 (Nat.zero_le _) (Nat.zero_le _) trivial (by cases h; exact ⟨rfl, rfl, rfl⟩)
def f_X3_cut_12 (F : Nat) (σ : nd_Mem) : nd_Res := (some ((0 : Int32), σ))
def f_X3_cut (F : Nat) (x1 : Int32) (σ : nd_Mem) : nd_Res := (if x1 < 0 then (f_X3_cut_12 F σ) else (if x1 ≤ (σ 38 2) then (nd_let (nd_up σ 38 2 x1) fun σ1 => (some ((1 : Int32), σ1))) else (f_X3_cut_12 F σ)))
set_option maxRecDepth 100000 in
set_option maxHeartbeats 4000000 in
theorem b_X3_cut_12 (F : Nat) (t : List nd_S) (hL : (nd_SH ++ t).length < nd_ro) {z : Int32 × nd_Mem} (σ : nd_Mem) (h : f_X3_cut_12 F σ = some z) : nd_V M_X3_cut (nd_rm 0) (nd_Pi (nd_SH ++ t) z) 0 0 12 [(0, .ref 38)] [] (nd_SH ++ t) σ := by
  unfold f_X3_cut_12 at h
  refine nd_iconst dX3_cut_12 ic_0 ?_
  exact nd_iret dX3_cut_13 (Nat.zero_le _) (Nat.zero_le _) rfl (by cases h; exact ⟨rfl, rfl, rfl⟩)
set_option maxRecDepth 100000 in
set_option maxHeartbeats 4000000 in
theorem t_X3_cut (F : Nat) (t : List nd_S) (hL : (nd_SH ++ t).length < nd_ro) {z : Int32 × nd_Mem} (x1 : Int32) (σ : nd_Mem) (h : f_X3_cut F x1 σ = some z) : nd_Fn M_X3_cut (nd_rm 0) [.ref 38, .int x1] (nd_SH ++ t) σ (nd_Pi (nd_SH ++ t) z) := by
  refine nd_Fn.ofV (ls := [(0, .ref 38), (1, .int x1)]) pl_X3_cut rfl (fun _ => Nat.le_of_ble_eq_true rfl) (fun _ => rfl) ?_
  unfold f_X3_cut at h
  refine nd_iload_n dX3_cut_0 1 rfl ?_
  refine nd_if_ltN dX3_cut_1 12 (by decide) h (fun h => ?_) (fun h => ?_)
  · refine nd_sub [0] rfl ?_
    exact b_X3_cut_12 F t hL _ h
  · refine nd_iload_n dX3_cut_4 1 rfl ?_
    refine nd_aload_n dX3_cut_5 0 rfl ?_
    refine nd_get dX3_cut_6 gf_X3_41 (sh_38 t) rfl ?_
    refine nd_icmp_leN dX3_cut_9 14 (by decide) h (fun h => ?_) (fun h => ?_)
    · refine nd_aload_n dX3_cut_14 0 rfl ?_
      refine nd_iload_n dX3_cut_15 1 rfl ?_
      refine nd_putiN dX3_cut_16 pf_X3_41 (sh_38 t) rfl h (fun σ1 h => ?_)
      refine nd_iconst dX3_cut_19 ic_1 ?_
      exact nd_iret dX3_cut_20 (Nat.zero_le _) (Nat.zero_le _) rfl (by cases h; exact ⟨rfl, rfl, rfl⟩)
    · refine nd_sub [0] rfl ?_
      exact b_X3_cut_12 F t hL _ h
def f_X3_hasRoom (F : Nat) (x1 : Int32) (σ : nd_Mem) : nd_Res := (if (400 : Int32) < ((σ 38 2) + x1) then (some ((0 : Int32), σ)) else (some ((1 : Int32), σ)))
set_option maxRecDepth 100000 in
set_option maxHeartbeats 4000000 in
theorem t_X3_hasRoom (F : Nat) (t : List nd_S) (hL : (nd_SH ++ t).length < nd_ro) {z : Int32 × nd_Mem} (x1 : Int32) (σ : nd_Mem) (h : f_X3_hasRoom F x1 σ = some z) : nd_Fn M_X3_hasRoom (nd_rm 0) [.ref 38, .int x1] (nd_SH ++ t) σ (nd_Pi (nd_SH ++ t) z) := by
  refine nd_Fn.ofV (ls := [(0, .ref 38), (1, .int x1)]) pl_X3_hasRoom rfl (fun _ => Nat.le_of_ble_eq_true rfl) (fun _ => rfl) ?_
  unfold f_X3_hasRoom at h
  refine nd_aload_n dX3_hasRoom_0 0 rfl ?_
  refine nd_get dX3_hasRoom_1 gf_X3_41 (sh_38 t) rfl ?_
  refine nd_iload_n dX3_hasRoom_4 1 rfl ?_
  refine nd_iadd dX3_hasRoom_5 ?_
  refine nd_sipush dX3_hasRoom_6 is_400 ?_
  refine nd_icmp_gtN dX3_hasRoom_9 16 (by decide) h (fun h => ?_) (fun h => ?_)
  · refine nd_iconst dX3_hasRoom_16 ic_0 ?_
    exact nd_iret dX3_hasRoom_17 (Nat.zero_le _) (Nat.zero_le _) rfl (by cases h; exact ⟨rfl, rfl, rfl⟩)
  · refine nd_iconst dX3_hasRoom_12 ic_1 ?_
    refine nd_goto dX3_hasRoom_13 17 (by decide) ?_
    exact nd_iret dX3_hasRoom_17 (Nat.zero_le _) (Nat.zero_le _) rfl (by cases h; exact ⟨rfl, rfl, rfl⟩)
def f_X3_isSign_20 (F : Nat) (σ : nd_Mem) : nd_Res := (some ((0 : Int32), σ))
def f_X3_isSign (F : Nat) (x1 : Int32) (σ : nd_Mem) : nd_Res := (if (σ 38 11) = (3 : Int32) then (if (σ 38 12) = x1 then (some ((1 : Int32), σ)) else (f_X3_isSign_20 F σ)) else (f_X3_isSign_20 F σ))
set_option maxRecDepth 100000 in
set_option maxHeartbeats 4000000 in
theorem b_X3_isSign_20 (F : Nat) (t : List nd_S) (hL : (nd_SH ++ t).length < nd_ro) {z : Int32 × nd_Mem} (σ : nd_Mem) (h : f_X3_isSign_20 F σ = some z) : nd_V M_X3_isSign (nd_rm 0) (nd_Pi (nd_SH ++ t) z) 0 0 20 [(0, .ref 38)] [] (nd_SH ++ t) σ := by
  unfold f_X3_isSign_20 at h
  refine nd_iconst dX3_isSign_20 ic_0 ?_
  exact nd_iret dX3_isSign_21 (Nat.zero_le _) (Nat.zero_le _) rfl (by cases h; exact ⟨rfl, rfl, rfl⟩)
set_option maxRecDepth 100000 in
set_option maxHeartbeats 4000000 in
theorem t_X3_isSign (F : Nat) (t : List nd_S) (hL : (nd_SH ++ t).length < nd_ro) {z : Int32 × nd_Mem} (x1 : Int32) (σ : nd_Mem) (h : f_X3_isSign F x1 σ = some z) : nd_Fn M_X3_isSign (nd_rm 0) [.ref 38, .int x1] (nd_SH ++ t) σ (nd_Pi (nd_SH ++ t) z) := by
  refine nd_Fn.ofV (ls := [(0, .ref 38), (1, .int x1)]) pl_X3_isSign rfl (fun _ => Nat.le_of_ble_eq_true rfl) (fun _ => rfl) ?_
  unfold f_X3_isSign at h
  refine nd_aload_n dX3_isSign_0 0 rfl ?_
  refine nd_get dX3_isSign_1 gf_X3_64 (sh_38 t) rfl ?_
  refine nd_iconst dX3_isSign_4 ic_3 ?_
  refine nd_icmp_neN dX3_isSign_5 20 (by decide) h (fun h => ?_) (fun h => ?_)
  · refine nd_sub [0] rfl ?_
    exact b_X3_isSign_20 F t hL _ h
  · refine nd_aload_n dX3_isSign_8 0 rfl ?_
    refine nd_get dX3_isSign_9 gf_X3_81 (sh_38 t) rfl ?_
    refine nd_iload_n dX3_isSign_12 1 rfl ?_
    refine nd_icmp_neN dX3_isSign_13 20 (by decide) h (fun h => ?_) (fun h => ?_)
    · refine nd_sub [0] rfl ?_
      exact b_X3_isSign_20 F t hL _ h
    · refine nd_iconst dX3_isSign_16 ic_1 ?_
      refine nd_goto dX3_isSign_17 21 (by decide) ?_
      exact nd_iret dX3_isSign_21 (Nat.zero_le _) (Nat.zero_le _) rfl (by cases h; exact ⟨rfl, rfl, rfl⟩)
def f_X3_isWord_20 (F : Nat) (σ : nd_Mem) : nd_Res := (some ((0 : Int32), σ))
def f_X3_isWord (F : Nat) (x1 : Int32) (σ : nd_Mem) : nd_Res := (if (σ 38 11) = (1 : Int32) then (if (σ 38 12) = x1 then (some ((1 : Int32), σ)) else (f_X3_isWord_20 F σ)) else (f_X3_isWord_20 F σ))
set_option maxRecDepth 100000 in
set_option maxHeartbeats 4000000 in
theorem b_X3_isWord_20 (F : Nat) (t : List nd_S) (hL : (nd_SH ++ t).length < nd_ro) {z : Int32 × nd_Mem} (σ : nd_Mem) (h : f_X3_isWord_20 F σ = some z) : nd_V M_X3_isWord (nd_rm 0) (nd_Pi (nd_SH ++ t) z) 0 0 20 [(0, .ref 38)] [] (nd_SH ++ t) σ := by
  unfold f_X3_isWord_20 at h
  refine nd_iconst dX3_isWord_20 ic_0 ?_
  exact nd_iret dX3_isWord_21 (Nat.zero_le _) (Nat.zero_le _) rfl (by cases h; exact ⟨rfl, rfl, rfl⟩)
set_option maxRecDepth 100000 in
set_option maxHeartbeats 4000000 in
theorem t_X3_isWord (F : Nat) (t : List nd_S) (hL : (nd_SH ++ t).length < nd_ro) {z : Int32 × nd_Mem} (x1 : Int32) (σ : nd_Mem) (h : f_X3_isWord F x1 σ = some z) : nd_Fn M_X3_isWord (nd_rm 0) [.ref 38, .int x1] (nd_SH ++ t) σ (nd_Pi (nd_SH ++ t) z) := by
  refine nd_Fn.ofV (ls := [(0, .ref 38), (1, .int x1)]) pl_X3_isWord rfl (fun _ => Nat.le_of_ble_eq_true rfl) (fun _ => rfl) ?_
  unfold f_X3_isWord at h
  refine nd_aload_n dX3_isWord_0 0 rfl ?_
  refine nd_get dX3_isWord_1 gf_X3_64 (sh_38 t) rfl ?_
  refine nd_iconst dX3_isWord_4 ic_1 ?_
  refine nd_icmp_neN dX3_isWord_5 20 (by decide) h (fun h => ?_) (fun h => ?_)
  · refine nd_sub [0] rfl ?_
    exact b_X3_isWord_20 F t hL _ h
  · refine nd_aload_n dX3_isWord_8 0 rfl ?_
    refine nd_get dX3_isWord_9 gf_X3_81 (sh_38 t) rfl ?_
    refine nd_iload_n dX3_isWord_12 1 rfl ?_
    refine nd_icmp_neN dX3_isWord_13 20 (by decide) h (fun h => ?_) (fun h => ?_)
    · refine nd_sub [0] rfl ?_
      exact b_X3_isWord_20 F t hL _ h
    · refine nd_iconst dX3_isWord_16 ic_1 ?_
      refine nd_goto dX3_isWord_17 21 (by decide) ?_
      exact nd_iret dX3_isWord_21 (Nat.zero_le _) (Nat.zero_le _) rfl (by cases h; exact ⟨rfl, rfl, rfl⟩)
def f_X3_numberOf_14_b (F : Nat) (rec14 : Int32 → Int32 → Int32 → nd_Mem → nd_Res) (x2 : Int32) (x3 : Int32) (x4 : Int32) (σ : nd_Mem) : nd_Res := (if x2 ≤ x4 then (some (x3, σ)) else (if x4 < 0 ∨ 400 ≤ (x4).toNatClampNeg then none else (rec14 x2 (((x3 * (10 : Int32)) + (σ 47 (x4).toNatClampNeg)) - (48 : Int32)) (x4 + (1 : Int32)) σ)))
def f_X3_numberOf_14 (F : Nat) : Nat → Int32 → Int32 → Int32 → nd_Mem → nd_Res
  | 0, _, _, _, _ => none
  | m9 + 1, x2, x3, x4, σ => f_X3_numberOf_14_b F (f_X3_numberOf_14 F m9) x2 x3 x4 σ
def f_X3_numberOf (F : Nat) (x1 : Int32) (x2 : Int32) (σ : nd_Mem) : nd_Res := (if (x2 - x1) ≤ (4 : Int32) then (f_X3_numberOf_14 F F x2 (0 : Int32) x1 σ) else (some ((-1 : Int32), σ)))
set_option maxRecDepth 100000 in
set_option maxHeartbeats 4000000 in
theorem b_X3_numberOf_14 (F : Nat) (t : List nd_S) (hL : (nd_SH ++ t).length < nd_ro) {z : Int32 × nd_Mem} (m9 : Nat) : ∀ (x2 : Int32) (x3 : Int32) (x4 : Int32) (σ : nd_Mem), f_X3_numberOf_14 F m9 x2 x3 x4 σ = some z → nd_V M_X3_numberOf (nd_rm 0) (nd_Pi (nd_SH ++ t) z) 0 0 14 [(0, .ref 38), (2, .int x2), (3, .int x3), (4, .int x4)] [] (nd_SH ++ t) σ := by
  induction m9 with
  | zero =>
    intro x2 x3 x4 σ h
    have h : none = some z := h
    cases h
  | succ m9 hrec14 =>
    intro x2 x3 x4 σ h
    have h : f_X3_numberOf_14_b F (f_X3_numberOf_14 F m9) x2 x3 x4 σ = some z := h
    unfold f_X3_numberOf_14_b at h
    refine nd_iload dX3_numberOf_14 3 rfl ?_
    refine nd_iload_n dX3_numberOf_16 1 rfl ?_
    refine nd_icmp_geN dX3_numberOf_17 42 (by decide) h (fun h => ?_) (fun h => ?_)
    · refine nd_iload_n dX3_numberOf_42 2 rfl ?_
      exact nd_iret dX3_numberOf_43 (Nat.zero_le _) (Nat.zero_le _) (vp_nar_int _) (by cases h; exact ⟨rfl, rfl, rfl⟩)
    · refine nd_iload_n dX3_numberOf_20 2 rfl ?_
      refine nd_bipush dX3_numberOf_21 ib_10 ?_
      refine nd_imul dX3_numberOf_23 ?_
      refine nd_aload_n dX3_numberOf_24 0 rfl ?_
      refine nd_get dX3_numberOf_25 gf_X3_18 (sh_38 t) rfl ?_
      refine nd_iload dX3_numberOf_28 3 rfl ?_
      refine nd_ialoadN dX3_numberOf_30 (sh_47 t) h (fun h => ?_)
      refine nd_iadd dX3_numberOf_31 ?_
      refine nd_bipush dX3_numberOf_32 ib_48 ?_
      refine nd_isub dX3_numberOf_34 ?_
      refine nd_istore_n (ls' := [(3, .int (((x3 * (10 : Int32)) + (σ 47 (x4).toNatClampNeg)) - (48 : Int32))), (0, .ref 38), (2, .int x2), (4, .int x4)]) dX3_numberOf_35 (by decide) rfl ?_
      refine nd_iinc (v := (x4 + (1 : Int32))) (ls' := [(4, .int (x4 + (1 : Int32))), (3, .int (((x3 * (10 : Int32)) + (σ 47 (x4).toNatClampNeg)) - (48 : Int32))), (0, .ref 38), (2, .int x2)]) dX3_numberOf_36 3 rfl (congrArg (HAdd.hAdd _) ic_1) (by decide) rfl ?_
      refine nd_goto dX3_numberOf_39 14 (by decide) ?_
      refine nd_sub [2, 3, 1, 0] rfl ?_
      exact hrec14 _ _ _ _ h
set_option maxRecDepth 100000 in
set_option maxHeartbeats 4000000 in
theorem t_X3_numberOf (F : Nat) (t : List nd_S) (hL : (nd_SH ++ t).length < nd_ro) {z : Int32 × nd_Mem} (x1 : Int32) (x2 : Int32) (σ : nd_Mem) (h : f_X3_numberOf F x1 x2 σ = some z) : nd_Fn M_X3_numberOf (nd_rm 0) [.ref 38, .int x1, .int x2] (nd_SH ++ t) σ (nd_Pi (nd_SH ++ t) z) := by
  refine nd_Fn.ofV (ls := [(0, .ref 38), (1, .int x1), (2, .int x2)]) pl_X3_numberOf rfl (fun _ => Nat.le_of_ble_eq_true rfl) (fun _ => rfl) ?_
  unfold f_X3_numberOf at h
  refine nd_iload_n dX3_numberOf_0 2 rfl ?_
  refine nd_iload_n dX3_numberOf_1 1 rfl ?_
  refine nd_isub dX3_numberOf_2 ?_
  refine nd_iconst dX3_numberOf_3 ic_4 ?_
  refine nd_icmp_leN dX3_numberOf_4 9 (by decide) h (fun h => ?_) (fun h => ?_)
  · refine nd_iconst dX3_numberOf_9 ic_0 ?_
    refine nd_istore_n (ls' := [(3, .int (0 : Int32)), (0, .ref 38), (1, .int x1), (2, .int x2)]) dX3_numberOf_10 (by decide) rfl ?_
    refine nd_iload_n dX3_numberOf_11 2 rfl ?_
    refine nd_istore (ls' := [(4, .int x1), (3, .int (0 : Int32)), (0, .ref 38), (1, .int x1), (2, .int x2)]) dX3_numberOf_12 (by decide) rfl ?_
    refine nd_sub [2, 4, 1, 0] rfl ?_
    exact b_X3_numberOf_14 F t hL F _ _ _ _ h
  · refine nd_iconst dX3_numberOf_7 ic_m1 ?_
    exact nd_iret dX3_numberOf_8 (Nat.zero_le _) (Nat.zero_le _) (vp_nar_int _) (by cases h; exact ⟨rfl, rfl, rfl⟩)
def f_X3_refuse (F : Nat) (x1 : Int32) (σ : nd_Mem) : nd_Res := (nd_let (nd_up σ 38 3 x1) fun σ1 => (nd_let (nd_up σ1 38 4 (σ1 38 13)) fun σ2 => (some ((0 : Int32), σ2))))
set_option maxRecDepth 100000 in
set_option maxHeartbeats 4000000 in
theorem t_X3_refuse (F : Nat) (t : List nd_S) (hL : (nd_SH ++ t).length < nd_ro) {z : Int32 × nd_Mem} (x1 : Int32) (σ : nd_Mem) (h : f_X3_refuse F x1 σ = some z) : nd_Fn M_X3_refuse (nd_rm 0) [.ref 38, .int x1] (nd_SH ++ t) σ (nd_Pi (nd_SH ++ t) z) := by
  refine nd_Fn.ofV (ls := [(0, .ref 38), (1, .int x1)]) pl_X3_refuse rfl (fun _ => Nat.le_of_ble_eq_true rfl) (fun _ => rfl) ?_
  unfold f_X3_refuse at h
  refine nd_aload_n dX3_refuse_0 0 rfl ?_
  refine nd_iload_n dX3_refuse_1 1 rfl ?_
  refine nd_putiN dX3_refuse_2 pf_X3_44 (sh_38 t) rfl h (fun σ1 h => ?_)
  refine nd_aload_n dX3_refuse_5 0 rfl ?_
  refine nd_aload_n dX3_refuse_6 0 rfl ?_
  refine nd_get dX3_refuse_7 gf_X3_153 (sh_38 t) rfl ?_
  refine nd_putiN dX3_refuse_10 pf_X3_31 (sh_38 t) rfl h (fun σ2 h => ?_)
  refine nd_iconst dX3_refuse_13 ic_0 ?_
  exact nd_iret dX3_refuse_14 (Nat.zero_le _) (Nat.zero_le _) rfl (by cases h; exact ⟨rfl, rfl, rfl⟩)
def f_X3_standsTogether_10 (F : Nat) (σ : nd_Mem) : nd_Res := (some ((1 : Int32), σ))
def f_X3_standsTogether (F : Nat) (x0 : Int32) (σ : nd_Mem) : nd_Res := (if x0 = (1 : Int32) then (f_X3_standsTogether_10 F σ) else (if x0 = (2 : Int32) then (f_X3_standsTogether_10 F σ) else (some ((0 : Int32), σ))))
set_option maxRecDepth 100000 in
set_option maxHeartbeats 4000000 in
theorem b_X3_standsTogether_10 (F : Nat) (sh : List nd_S) (hL : sh.length < nd_ro) {z : Int32 × nd_Mem} (σ : nd_Mem) (h : f_X3_standsTogether_10 F σ = some z) : nd_V M_X3_standsTogether (nd_rm 0) (nd_Pi sh z) 0 0 10 [] [] sh σ := by
  unfold f_X3_standsTogether_10 at h
  refine nd_iconst dX3_standsTogether_10 ic_1 ?_
  refine nd_goto dX3_standsTogether_11 15 (by decide) ?_
  exact nd_iret dX3_standsTogether_15 (Nat.zero_le _) (Nat.zero_le _) rfl (by cases h; exact ⟨rfl, rfl, rfl⟩)
set_option maxRecDepth 100000 in
set_option maxHeartbeats 4000000 in
theorem t_X3_standsTogether (F : Nat) (sh : List nd_S) (hL : sh.length < nd_ro) {z : Int32 × nd_Mem} (x0 : Int32) (σ : nd_Mem) (h : f_X3_standsTogether F x0 σ = some z) : nd_Fn M_X3_standsTogether (nd_rm 0) [.int x0] sh σ (nd_Pi sh z) := by
  refine nd_Fn.ofV (ls := [(0, .int x0)]) pl_X3_standsTogether rfl (fun _ => Nat.le_of_ble_eq_true rfl) (fun _ => rfl) ?_
  unfold f_X3_standsTogether at h
  refine nd_iload_n dX3_standsTogether_0 0 rfl ?_
  refine nd_iconst dX3_standsTogether_1 ic_1 ?_
  refine nd_icmp_eqN dX3_standsTogether_2 10 (by decide) h (fun h => ?_) (fun h => ?_)
  · refine nd_sub [] rfl ?_
    exact b_X3_standsTogether_10 F sh hL _ h
  · refine nd_iload_n dX3_standsTogether_5 0 rfl ?_
    refine nd_iconst dX3_standsTogether_6 ic_2 ?_
    refine nd_icmp_neN dX3_standsTogether_7 14 (by decide) h (fun h => ?_) (fun h => ?_)
    · refine nd_iconst dX3_standsTogether_14 ic_0 ?_
      exact nd_iret dX3_standsTogether_15 (Nat.zero_le _) (Nat.zero_le _) rfl (by cases h; exact ⟨rfl, rfl, rfl⟩)
    · refine nd_sub [] rfl ?_
      exact b_X3_standsTogether_10 F sh hL _ h
def f_X3_take_43 (F : Nat) (rec3 : Int32 → Int32 → nd_Mem → nd_Res) (x1 : Int32) (x2 : Int32) (σ : nd_Mem) : nd_Res := (rec3 x1 (x2 + (-8 : Int32)) σ)
def f_X3_take_3_b (F : Nat) (rec3 : Int32 → Int32 → nd_Mem → nd_Res) (x1 : Int32) (x2 : Int32) (σ : nd_Mem) : nd_Res := (if x2 < 0 then (some ((σ 38 2), σ)) else (if (400 : Int32) ≤ (σ 38 2) then (f_X3_take_43 F rec3 x1 x2 σ) else (if (σ 38 2) < 0 ∨ 400 ≤ ((σ 38 2)).toNatClampNeg then none else (nd_let (nd_up σ 47 ((σ 38 2)).toNatClampNeg ((q_ushr x1 x2) &&& (255 : Int32))) fun σ1 => (nd_let (nd_up σ1 38 2 ((σ1 38 2) + (1 : Int32))) fun σ2 => (f_X3_take_43 F rec3 x1 x2 σ2))))))
def f_X3_take_3 (F : Nat) : Nat → Int32 → Int32 → nd_Mem → nd_Res
  | 0, _, _, _ => none
  | m9 + 1, x1, x2, σ => f_X3_take_3_b F (f_X3_take_3 F m9) x1 x2 σ
def f_X3_take (F : Nat) (x1 : Int32) (σ : nd_Mem) : nd_Res := (f_X3_take_3 F F x1 (24 : Int32) σ)
set_option maxRecDepth 100000 in
set_option maxHeartbeats 4000000 in
theorem b_X3_take_43 (F : Nat) (rec3 : Int32 → Int32 → nd_Mem → nd_Res) (t : List nd_S) (hL : (nd_SH ++ t).length < nd_ro) {z : Int32 × nd_Mem} (hrec3 : ∀ (x1 : Int32) (x2 : Int32) (σ : nd_Mem), rec3 x1 x2 σ = some z → nd_V M_X3_take (nd_rm 0) (nd_Pi (nd_SH ++ t) z) 0 0 3 [(0, .ref 38), (1, .int x1), (2, .int x2)] [] (nd_SH ++ t) σ) (x1 : Int32) (x2 : Int32) (σ : nd_Mem) (h : f_X3_take_43 F rec3 x1 x2 σ = some z) : nd_V M_X3_take (nd_rm 0) (nd_Pi (nd_SH ++ t) z) 0 0 43 [(0, .ref 38), (1, .int x1), (2, .int x2)] [] (nd_SH ++ t) σ := by
  unfold f_X3_take_43 at h
  refine nd_iinc (v := (x2 + (-8 : Int32))) (ls' := [(2, .int (x2 + (-8 : Int32))), (0, .ref 38), (1, .int x1)]) dX3_take_43 2 rfl (congrArg (HAdd.hAdd _) ic_m8) (by decide) rfl ?_
  refine nd_goto dX3_take_46 3 (by decide) ?_
  refine nd_sub [1, 2, 0] rfl ?_
  exact hrec3 _ _ _ h
set_option maxRecDepth 100000 in
set_option maxHeartbeats 4000000 in
theorem b_X3_take_3 (F : Nat) (t : List nd_S) (hL : (nd_SH ++ t).length < nd_ro) {z : Int32 × nd_Mem} (m9 : Nat) : ∀ (x1 : Int32) (x2 : Int32) (σ : nd_Mem), f_X3_take_3 F m9 x1 x2 σ = some z → nd_V M_X3_take (nd_rm 0) (nd_Pi (nd_SH ++ t) z) 0 0 3 [(0, .ref 38), (1, .int x1), (2, .int x2)] [] (nd_SH ++ t) σ := by
  induction m9 with
  | zero =>
    intro x1 x2 σ h
    have h : none = some z := h
    cases h
  | succ m9 hrec3 =>
    intro x1 x2 σ h
    have h : f_X3_take_3_b F (f_X3_take_3 F m9) x1 x2 σ = some z := h
    unfold f_X3_take_3_b at h
    refine nd_iload_n dX3_take_3 2 rfl ?_
    refine nd_if_ltN dX3_take_4 49 (by decide) h (fun h => ?_) (fun h => ?_)
    · refine nd_aload_n dX3_take_49 0 rfl ?_
      refine nd_get dX3_take_50 gf_X3_41 (sh_38 t) rfl ?_
      exact nd_iret dX3_take_53 (Nat.zero_le _) (Nat.zero_le _) (vp_nar_int _) (by cases h; exact ⟨rfl, rfl, rfl⟩)
    · refine nd_aload_n dX3_take_7 0 rfl ?_
      refine nd_get dX3_take_8 gf_X3_41 (sh_38 t) rfl ?_
      refine nd_sipush dX3_take_11 is_400 ?_
      refine nd_icmp_geN dX3_take_14 43 (by decide) h (fun h => ?_) (fun h => ?_)
      · exact b_X3_take_43 F _ t hL hrec3 _ _ _ h
      · refine nd_aload_n dX3_take_17 0 rfl ?_
        refine nd_get dX3_take_18 gf_X3_18 (sh_38 t) rfl ?_
        refine nd_aload_n dX3_take_21 0 rfl ?_
        refine nd_get dX3_take_22 gf_X3_41 (sh_38 t) rfl ?_
        refine nd_iload_n dX3_take_25 1 rfl ?_
        refine nd_iload_n dX3_take_26 2 rfl ?_
        refine nd_iushr dX3_take_27 ?_
        refine nd_sipush dX3_take_28 is_255 ?_
        refine nd_iand dX3_take_31 ?_
        refine nd_iastoreN dX3_take_32 (sh_47 t) h (fun σ1 h => ?_)
        refine nd_aload_n dX3_take_33 0 rfl ?_
        refine nd_dup dX3_take_34 rfl ?_
        refine nd_get dX3_take_35 gf_X3_41 (sh_38 t) rfl ?_
        refine nd_iconst dX3_take_38 ic_1 ?_
        refine nd_iadd dX3_take_39 ?_
        refine nd_putiN dX3_take_40 pf_X3_41 (sh_38 t) rfl h (fun σ2 h => ?_)
        exact b_X3_take_43 F _ t hL hrec3 _ _ _ h
set_option maxRecDepth 100000 in
set_option maxHeartbeats 4000000 in
theorem t_X3_take (F : Nat) (t : List nd_S) (hL : (nd_SH ++ t).length < nd_ro) {z : Int32 × nd_Mem} (x1 : Int32) (σ : nd_Mem) (h : f_X3_take F x1 σ = some z) : nd_Fn M_X3_take (nd_rm 0) [.ref 38, .int x1] (nd_SH ++ t) σ (nd_Pi (nd_SH ++ t) z) := by
  refine nd_Fn.ofV (ls := [(0, .ref 38), (1, .int x1)]) pl_X3_take rfl (fun _ => Nat.le_of_ble_eq_true rfl) (fun _ => rfl) ?_
  unfold f_X3_take at h
  refine nd_bipush dX3_take_0 ib_24 ?_
  refine nd_istore_n (ls' := [(2, .int (24 : Int32)), (0, .ref 38), (1, .int x1)]) dX3_take_2 (by decide) rfl ?_
  refine nd_sub [1, 2, 0] rfl ?_
  exact b_X3_take_3 F t hL F _ _ _ h
def f_X3_wordsOf (F : Nat) (x0 : Int32) (σ : nd_Mem) : nd_Res := (if x0 = (0 : Int32) then (some ((0 : Int32), σ)) else (if x0 = (1 : Int32) then (some ((1 : Int32), σ)) else (if x0 = (2 : Int32) then (some ((2 : Int32), σ)) else (some ((3 : Int32), σ)))))
set_option maxRecDepth 100000 in
set_option maxHeartbeats 4000000 in
theorem t_X3_wordsOf (F : Nat) (sh : List nd_S) (hL : sh.length < nd_ro) {z : Int32 × nd_Mem} (x0 : Int32) (σ : nd_Mem) (h : f_X3_wordsOf F x0 σ = some z) : nd_Fn M_X3_wordsOf (nd_rm 0) [.int x0] sh σ (nd_Pr sh z) := by
  refine nd_Fn.ofV (ls := [(0, .int x0)]) pl_X3_wordsOf rfl (fun _ => Nat.le_of_ble_eq_true rfl) (fun _ => rfl) ?_
  unfold f_X3_wordsOf at h
  refine nd_iload_n dX3_wordsOf_0 0 rfl ?_
  rcases nd_ite_e h with ⟨c1, h⟩ | ⟨c1, h⟩
  · refine nd_tin dX3_wordsOf_1 0 (by rw [c1] <;> decide) (by rw [c1] <;> decide) rfl 28 (by decide) ?_
    refine nd_ldcS 0 (by decide) dX3_wordsOf_28 rfl rfl ?_
    exact nd_aret dX3_wordsOf_30 (Nat.zero_le _) (Nat.zero_le _) (Or.inl ⟨_, rfl⟩) (by cases h; exact ⟨rfl, rfl, rfl⟩)
  rcases nd_ite_e h with ⟨c2, h⟩ | ⟨c2, h⟩
  · refine nd_tin dX3_wordsOf_1 1 (by rw [c2] <;> decide) (by rw [c2] <;> decide) rfl 31 (by decide) ?_
    refine nd_ldcS 1 (by decide) dX3_wordsOf_31 rfl rfl ?_
    exact nd_aret dX3_wordsOf_33 (Nat.zero_le _) (Nat.zero_le _) (Or.inl ⟨_, rfl⟩) (by cases h; exact ⟨rfl, rfl, rfl⟩)
  rcases nd_ite_e h with ⟨c3, h⟩ | ⟨c3, h⟩
  · refine nd_tin dX3_wordsOf_1 2 (by rw [c3] <;> decide) (by rw [c3] <;> decide) rfl 34 (by decide) ?_
    refine nd_ldcS 2 (by decide) dX3_wordsOf_34 rfl rfl ?_
    exact nd_aret dX3_wordsOf_36 (Nat.zero_le _) (Nat.zero_le _) (Or.inl ⟨_, rfl⟩) (by cases h; exact ⟨rfl, rfl, rfl⟩)
  refine nd_tout dX3_wordsOf_1 (fun j h1 h2 => ?_) 37 (by decide) ?_
  · rcases (show j = 0 ∨ j = 1 ∨ j = 2 by omega) with rfl | rfl | rfl
    · exact fun e => c1 (e.trans ic_0)
    · exact fun e => c2 (e.trans ic_1)
    · exact fun e => c3 (e.trans ic_2)
  · refine nd_ldcS 3 (by decide) dX3_wordsOf_37 rfl rfl ?_
    exact nd_aret dX3_wordsOf_39 (Nat.zero_le _) (Nat.zero_le _) (Or.inl ⟨_, rfl⟩) (by cases h; exact ⟨rfl, rfl, rfl⟩)
def f_X3_mayOpen (F : Nat) (x1 : Int32) (σ : nd_Mem) : nd_Res := (if x1 < (8 : Int32) then (nd_bind (f_X3_advance F σ) fun r1 σ2 => (some ((1 : Int32), σ2))) else (nd_bind (f_X3_refuse F (3 : Int32) σ) fun r4 σ5 => (if ¬ (r4 = 0 ∨ r4 = 1) then none else (some (r4, σ5)))))
set_option maxRecDepth 100000 in
set_option maxHeartbeats 4000000 in
theorem t_X3_mayOpen (F : Nat) (t : List nd_S) (hL : (nd_SH ++ t).length < nd_ro) {z : Int32 × nd_Mem} (x1 : Int32) (σ : nd_Mem) (h : f_X3_mayOpen F x1 σ = some z) : nd_Fn M_X3_mayOpen (nd_rm 1) [.ref 38, .int x1] (nd_SH ++ t) σ (nd_Pi (nd_SH ++ t) z) := by
  refine nd_Fn.ofV (ls := [(0, .ref 38), (1, .int x1)]) pl_X3_mayOpen rfl (fun _ => Nat.le_of_ble_eq_true rfl) (fun _ => rfl) ?_
  unfold f_X3_mayOpen at h
  refine nd_iload_n dX3_mayOpen_0 1 rfl ?_
  refine nd_bipush dX3_mayOpen_1 ib_8 ?_
  refine nd_icmp_ltN dX3_mayOpen_3 12 (by decide) h (fun h => ?_) (fun h => ?_)
  · refine nd_aload_n dX3_mayOpen_12 0 rfl ?_
    obtain ⟨r1, σ2, hc3, h⟩ := nd_bind_e h
    refine nd_cvv [] [] dX3_mayOpen_13 cl_X3_61 (sh_38 t) ⟨Nat.le_of_ble_eq_true rfl, Nat.le_of_ble_eq_true rfl⟩ rfl (Nat.le_of_ble_eq_true rfl) hL (t_X3_advance F t hL _ hc3) ?_
    refine nd_iconst dX3_mayOpen_16 ic_1 ?_
    exact nd_iret dX3_mayOpen_17 (Nat.zero_le _) (Nat.zero_le _) rfl (by cases h; exact ⟨rfl, rfl, rfl⟩)
  · refine nd_aload_n dX3_mayOpen_6 0 rfl ?_
    refine nd_iconst dX3_mayOpen_7 ic_3 ?_
    obtain ⟨r4, σ5, hc6, h⟩ := nd_bind_e h
    refine nd_cvi [.int (3 : Int32)] [] dX3_mayOpen_8 cl_X3_84 (sh_38 t) ⟨Nat.le_of_ble_eq_true rfl, Nat.le_of_ble_eq_true rfl⟩ rfl (Nat.le_of_ble_eq_true rfl) hL (t_X3_refuse F t hL _ _ hc6) ?_
    have hz7 := nd_no_e h
    have h := hz7.2
    exact nd_iret dX3_mayOpen_11 (Nat.zero_le _) (Nat.zero_le _) (nd_zok rfl (Classical.not_not.mp hz7.1)) (by cases h; exact ⟨rfl, rfl, rfl⟩)
def f_X3_readNumber_38 (F : Nat) (σ : nd_Mem) : nd_Res := (nd_bind (f_X3_refuse F (2 : Int32) σ) fun r1 σ2 => (if ¬ (r1 = 0 ∨ r1 = 1) then none else (some (r1, σ2))))
def f_X3_readNumber (F : Nat) (x1 : Int32) (x2 : Int32) (x3 : Int32) (σ : nd_Mem) : nd_Res := (if (σ 38 11) = (2 : Int32) then (if (σ 38 12) < x1 then (f_X3_readNumber_38 F σ) else (if x2 < (σ 38 12) then (f_X3_readNumber_38 F σ) else (if (σ 38 12) = x3 then (f_X3_readNumber_38 F σ) else (nd_bind (f_X3_advance F σ) fun r1 σ2 => (some ((1 : Int32), σ2)))))) else (nd_bind (f_X3_refuse F (1 : Int32) σ) fun r4 σ5 => (if ¬ (r4 = 0 ∨ r4 = 1) then none else (some (r4, σ5)))))
set_option maxRecDepth 100000 in
set_option maxHeartbeats 4000000 in
theorem b_X3_readNumber_38 (F : Nat) (t : List nd_S) (hL : (nd_SH ++ t).length < nd_ro) {z : Int32 × nd_Mem} (σ : nd_Mem) (h : f_X3_readNumber_38 F σ = some z) : nd_V M_X3_readNumber (nd_rm 1) (nd_Pi (nd_SH ++ t) z) 0 0 38 [(0, .ref 38)] [] (nd_SH ++ t) σ := by
  unfold f_X3_readNumber_38 at h
  refine nd_aload_n dX3_readNumber_38 0 rfl ?_
  refine nd_iconst dX3_readNumber_39 ic_2 ?_
  obtain ⟨r1, σ2, hc3, h⟩ := nd_bind_e h
  refine nd_cvi [.int (2 : Int32)] [] dX3_readNumber_40 cl_X3_84 (sh_38 t) ⟨Nat.le_of_ble_eq_true rfl, Nat.le_of_ble_eq_true rfl⟩ rfl (Nat.le_of_ble_eq_true rfl) hL (t_X3_refuse F t hL _ _ hc3) ?_
  have hz4 := nd_no_e h
  have h := hz4.2
  exact nd_iret dX3_readNumber_43 (Nat.zero_le _) (Nat.zero_le _) (nd_zok rfl (Classical.not_not.mp hz4.1)) (by cases h; exact ⟨rfl, rfl, rfl⟩)
set_option maxRecDepth 100000 in
set_option maxHeartbeats 4000000 in
theorem t_X3_readNumber (F : Nat) (t : List nd_S) (hL : (nd_SH ++ t).length < nd_ro) {z : Int32 × nd_Mem} (x1 : Int32) (x2 : Int32) (x3 : Int32) (σ : nd_Mem) (h : f_X3_readNumber F x1 x2 x3 σ = some z) : nd_Fn M_X3_readNumber (nd_rm 1) [.ref 38, .int x1, .int x2, .int x3] (nd_SH ++ t) σ (nd_Pi (nd_SH ++ t) z) := by
  refine nd_Fn.ofV (ls := [(0, .ref 38), (1, .int x1), (2, .int x2), (3, .int x3)]) pl_X3_readNumber rfl (fun _ => Nat.le_of_ble_eq_true rfl) (fun _ => rfl) ?_
  unfold f_X3_readNumber at h
  refine nd_aload_n dX3_readNumber_0 0 rfl ?_
  refine nd_get dX3_readNumber_1 gf_X3_64 (sh_38 t) rfl ?_
  refine nd_iconst dX3_readNumber_4 ic_2 ?_
  refine nd_icmp_eqN dX3_readNumber_5 14 (by decide) h (fun h => ?_) (fun h => ?_)
  · refine nd_aload_n dX3_readNumber_14 0 rfl ?_
    refine nd_get dX3_readNumber_15 gf_X3_81 (sh_38 t) rfl ?_
    refine nd_iload_n dX3_readNumber_18 1 rfl ?_
    refine nd_icmp_ltN dX3_readNumber_19 38 (by decide) h (fun h => ?_) (fun h => ?_)
    · refine nd_sub [0] rfl ?_
      exact b_X3_readNumber_38 F t hL _ h
    · refine nd_aload_n dX3_readNumber_22 0 rfl ?_
      refine nd_get dX3_readNumber_23 gf_X3_81 (sh_38 t) rfl ?_
      refine nd_iload_n dX3_readNumber_26 2 rfl ?_
      refine nd_icmp_gtN dX3_readNumber_27 38 (by decide) h (fun h => ?_) (fun h => ?_)
      · refine nd_sub [0] rfl ?_
        exact b_X3_readNumber_38 F t hL _ h
      · refine nd_aload_n dX3_readNumber_30 0 rfl ?_
        refine nd_get dX3_readNumber_31 gf_X3_81 (sh_38 t) rfl ?_
        refine nd_iload_n dX3_readNumber_34 3 rfl ?_
        refine nd_icmp_neN dX3_readNumber_35 44 (by decide) h (fun h => ?_) (fun h => ?_)
        · refine nd_aload_n dX3_readNumber_44 0 rfl ?_
          obtain ⟨r1, σ2, hc3, h⟩ := nd_bind_e h
          refine nd_cvv [] [] dX3_readNumber_45 cl_X3_61 (sh_38 t) ⟨Nat.le_of_ble_eq_true rfl, Nat.le_of_ble_eq_true rfl⟩ rfl (Nat.le_of_ble_eq_true rfl) hL (t_X3_advance F t hL _ hc3) ?_
          refine nd_iconst dX3_readNumber_48 ic_1 ?_
          exact nd_iret dX3_readNumber_49 (Nat.zero_le _) (Nat.zero_le _) rfl (by cases h; exact ⟨rfl, rfl, rfl⟩)
        · refine nd_sub [0] rfl ?_
          exact b_X3_readNumber_38 F t hL _ h
  · refine nd_aload_n dX3_readNumber_8 0 rfl ?_
    refine nd_iconst dX3_readNumber_9 ic_1 ?_
    obtain ⟨r4, σ5, hc6, h⟩ := nd_bind_e h
    refine nd_cvi [.int (1 : Int32)] [] dX3_readNumber_10 cl_X3_84 (sh_38 t) ⟨Nat.le_of_ble_eq_true rfl, Nat.le_of_ble_eq_true rfl⟩ rfl (Nat.le_of_ble_eq_true rfl) hL (t_X3_refuse F t hL _ _ hc6) ?_
    have hz7 := nd_no_e h
    have h := hz7.2
    exact nd_iret dX3_readNumber_13 (Nat.zero_le _) (Nat.zero_le _) (nd_zok rfl (Classical.not_not.mp hz7.1)) (by cases h; exact ⟨rfl, rfl, rfl⟩)
def f_X3_readSecondWord (F : Nat) (σ : nd_Mem) : nd_Res := (nd_bind (f_X3_isWord F (1 : Int32) σ) fun r1 σ2 => (if r1 = 0 then (nd_bind (f_X3_refuse F (1 : Int32) σ2) fun r7 σ8 => (if ¬ (r7 = 0 ∨ r7 = 1) then none else (some (r7, σ8)))) else (nd_bind (f_X3_advance F σ2) fun r4 σ5 => (some ((1 : Int32), σ5)))))
set_option maxRecDepth 100000 in
set_option maxHeartbeats 4000000 in
theorem t_X3_readSecondWord (F : Nat) (t : List nd_S) (hL : (nd_SH ++ t).length < nd_ro) {z : Int32 × nd_Mem} (σ : nd_Mem) (h : f_X3_readSecondWord F σ = some z) : nd_Fn M_X3_readSecondWord (nd_rm 1) [.ref 38] (nd_SH ++ t) σ (nd_Pi (nd_SH ++ t) z) := by
  refine nd_Fn.ofV (ls := [(0, .ref 38)]) pl_X3_readSecondWord rfl (fun _ => Nat.le_of_ble_eq_true rfl) (fun _ => rfl) ?_
  unfold f_X3_readSecondWord at h
  refine nd_aload_n dX3_readSecondWord_0 0 rfl ?_
  refine nd_iconst dX3_readSecondWord_1 ic_1 ?_
  obtain ⟨r1, σ2, hc3, h⟩ := nd_bind_e h
  refine nd_cvi [.int (1 : Int32)] [] dX3_readSecondWord_2 cl_X3_114 (sh_38 t) ⟨Nat.le_of_ble_eq_true rfl, Nat.le_of_ble_eq_true rfl⟩ rfl (Nat.le_of_ble_eq_true rfl) hL (t_X3_isWord F t hL _ _ hc3) ?_
  refine nd_if_neN dX3_readSecondWord_5 14 (by decide) h (fun h => ?_) (fun h => ?_)
  · refine nd_aload_n dX3_readSecondWord_14 0 rfl ?_
    obtain ⟨r4, σ5, hc6, h⟩ := nd_bind_e h
    refine nd_cvv [] [] dX3_readSecondWord_15 cl_X3_61 (sh_38 t) ⟨Nat.le_of_ble_eq_true rfl, Nat.le_of_ble_eq_true rfl⟩ rfl (Nat.le_of_ble_eq_true rfl) hL (t_X3_advance F t hL _ hc6) ?_
    refine nd_iconst dX3_readSecondWord_18 ic_1 ?_
    exact nd_iret dX3_readSecondWord_19 (Nat.zero_le _) (Nat.zero_le _) rfl (by cases h; exact ⟨rfl, rfl, rfl⟩)
  · refine nd_aload_n dX3_readSecondWord_8 0 rfl ?_
    refine nd_iconst dX3_readSecondWord_9 ic_1 ?_
    obtain ⟨r7, σ8, hc9, h⟩ := nd_bind_e h
    refine nd_cvi [.int (1 : Int32)] [] dX3_readSecondWord_10 cl_X3_84 (sh_38 t) ⟨Nat.le_of_ble_eq_true rfl, Nat.le_of_ble_eq_true rfl⟩ rfl (Nat.le_of_ble_eq_true rfl) hL (t_X3_refuse F t hL _ _ hc9) ?_
    have hz10 := nd_no_e h
    have h := hz10.2
    exact nd_iret dX3_readSecondWord_13 (Nat.zero_le _) (Nat.zero_le _) (nd_zok rfl (Classical.not_not.mp hz10.1)) (by cases h; exact ⟨rfl, rfl, rfl⟩)
def f_X3_readSign (F : Nat) (x1 : Int32) (σ : nd_Mem) : nd_Res := (nd_bind (f_X3_isSign F x1 σ) fun r1 σ2 => (if r1 = 0 then (nd_bind (f_X3_refuse F (1 : Int32) σ2) fun r7 σ8 => (if ¬ (r7 = 0 ∨ r7 = 1) then none else (some (r7, σ8)))) else (nd_bind (f_X3_advance F σ2) fun r4 σ5 => (some ((1 : Int32), σ5)))))
set_option maxRecDepth 100000 in
set_option maxHeartbeats 4000000 in
theorem t_X3_readSign (F : Nat) (t : List nd_S) (hL : (nd_SH ++ t).length < nd_ro) {z : Int32 × nd_Mem} (x1 : Int32) (σ : nd_Mem) (h : f_X3_readSign F x1 σ = some z) : nd_Fn M_X3_readSign (nd_rm 1) [.ref 38, .int x1] (nd_SH ++ t) σ (nd_Pi (nd_SH ++ t) z) := by
  refine nd_Fn.ofV (ls := [(0, .ref 38), (1, .int x1)]) pl_X3_readSign rfl (fun _ => Nat.le_of_ble_eq_true rfl) (fun _ => rfl) ?_
  unfold f_X3_readSign at h
  refine nd_aload_n dX3_readSign_0 0 rfl ?_
  refine nd_iload_n dX3_readSign_1 1 rfl ?_
  obtain ⟨r1, σ2, hc3, h⟩ := nd_bind_e h
  refine nd_cvi [.int x1] [] dX3_readSign_2 cl_X3_141 (sh_38 t) ⟨Nat.le_of_ble_eq_true rfl, Nat.le_of_ble_eq_true rfl⟩ rfl (Nat.le_of_ble_eq_true rfl) hL (t_X3_isSign F t hL _ _ hc3) ?_
  refine nd_if_neN dX3_readSign_5 14 (by decide) h (fun h => ?_) (fun h => ?_)
  · refine nd_aload_n dX3_readSign_14 0 rfl ?_
    obtain ⟨r4, σ5, hc6, h⟩ := nd_bind_e h
    refine nd_cvv [] [] dX3_readSign_15 cl_X3_61 (sh_38 t) ⟨Nat.le_of_ble_eq_true rfl, Nat.le_of_ble_eq_true rfl⟩ rfl (Nat.le_of_ble_eq_true rfl) hL (t_X3_advance F t hL _ hc6) ?_
    refine nd_iconst dX3_readSign_18 ic_1 ?_
    exact nd_iret dX3_readSign_19 (Nat.zero_le _) (Nat.zero_le _) rfl (by cases h; exact ⟨rfl, rfl, rfl⟩)
  · refine nd_aload_n dX3_readSign_8 0 rfl ?_
    refine nd_iconst dX3_readSign_9 ic_1 ?_
    obtain ⟨r7, σ8, hc9, h⟩ := nd_bind_e h
    refine nd_cvi [.int (1 : Int32)] [] dX3_readSign_10 cl_X3_84 (sh_38 t) ⟨Nat.le_of_ble_eq_true rfl, Nat.le_of_ble_eq_true rfl⟩ rfl (Nat.le_of_ble_eq_true rfl) hL (t_X3_refuse F t hL _ _ hc9) ?_
    have hz10 := nd_no_e h
    have h := hz10.2
    exact nd_iret dX3_readSign_13 (Nat.zero_le _) (Nat.zero_le _) (nd_zok rfl (Classical.not_not.mp hz10.1)) (by cases h; exact ⟨rfl, rfl, rfl⟩)
def f_X3_readSum_213 (F : Nat) (rec6 : Int32 → Int32 → Int32 → nd_Mem → nd_Res) (x1 : Int32) (x2 : Int32) (x3 : Int32) (σ : nd_Mem) : nd_Res := (nd_bind (f_X3_advance F σ) fun r1 σ2 => (rec6 x1 x2 (x3 + (1 : Int32)) σ2))
def f_X3_readSum_206 (F : Nat) (rec6 : Int32 → Int32 → Int32 → nd_Mem → nd_Res) (x2 : Int32) (x3 : Int32) (s0 : Int32) (σ : nd_Mem) : nd_Res := (if s0 = 0 then (some ((1 : Int32), σ)) else (f_X3_readSum_213 F rec6 s0 x2 x3 σ))
def f_X3_readSum_198 (F : Nat) (rec6 : Int32 → Int32 → Int32 → nd_Mem → nd_Res) (x2 : Int32) (x3 : Int32) (σ : nd_Mem) : nd_Res := (f_X3_readSum_206 F rec6 x2 x3 (σ 38 12) σ)
def f_X3_readSum_180 (F : Nat) (rec6 : Int32 → Int32 → Int32 → nd_Mem → nd_Res) (x2 : Int32) (x3 : Int32) (σ : nd_Mem) : nd_Res := (nd_bind (f_X3_isSign F (43 : Int32) σ) fun r1 σ2 => (if r1 = 0 then (nd_bind (f_X3_isSign F (45 : Int32) σ2) fun r4 σ5 => (if r4 = 0 then (f_X3_readSum_206 F rec6 x2 x3 (0 : Int32) σ5) else (f_X3_readSum_198 F rec6 x2 x3 σ5))) else (f_X3_readSum_198 F rec6 x2 x3 σ2)))
def f_X3_readSum_158 (F : Nat) (rec6 : Int32 → Int32 → Int32 → nd_Mem → nd_Res) (x1 : Int32) (x3 : Int32) (s0 : Int32) (σ : nd_Mem) : nd_Res := (if s0 = 0 then (if x1 = 0 then (f_X3_readSum_180 F rec6 s0 x3 σ) else (nd_bind (f_X4_add F 42 43 400 (-x1) σ) fun r1 σ2 => (f_X3_readSum_180 F rec6 s0 x3 σ2))) else (f_X3_readSum_213 F rec6 x1 s0 x3 σ))
def f_X3_readSum_150 (F : Nat) (rec6 : Int32 → Int32 → Int32 → nd_Mem → nd_Res) (x1 : Int32) (x3 : Int32) (σ : nd_Mem) : nd_Res := (f_X3_readSum_158 F rec6 x1 x3 (σ 38 12) σ)
def f_X3_readSum_132 (F : Nat) (rec6 : Int32 → Int32 → Int32 → nd_Mem → nd_Res) (x1 : Int32) (x3 : Int32) (σ : nd_Mem) : nd_Res := (nd_bind (f_X3_isSign F (42 : Int32) σ) fun r1 σ2 => (if r1 = 0 then (nd_bind (f_X3_isSign F (47 : Int32) σ2) fun r4 σ5 => (if r4 = 0 then (f_X3_readSum_158 F rec6 x1 x3 (0 : Int32) σ5) else (f_X3_readSum_150 F rec6 x1 x3 σ5))) else (f_X3_readSum_150 F rec6 x1 x3 σ2)))
def f_X3_readSum_107 (F : Nat) (rec6 : Int32 → Int32 → Int32 → nd_Mem → nd_Res) (x1 : Int32) (x2 : Int32) (x3 : Int32) (s0 : Int32) (σ : nd_Mem) : nd_Res := (nd_bind (f_X4_add F 42 43 400 s0 σ) fun r1 σ2 => (nd_bind (f_X3_advance F σ2) fun r4 σ5 => (if x2 = 0 then (f_X3_readSum_132 F rec6 x1 x3 σ5) else (nd_bind (f_X4_add F 42 43 400 (-x2) σ5) fun r7 σ8 => (f_X3_readSum_132 F rec6 x1 x3 σ8)))))
def f_X3_readSum_81 (F : Nat) (rec6 : Int32 → Int32 → Int32 → nd_Mem → nd_Res) (x1 : Int32) (x2 : Int32) (x3 : Int32) (x4 : Int32) (σ : nd_Mem) : nd_Res := (if x4 = 0 then (f_X3_readSum_107 F rec6 x1 x2 x3 (σ 38 12) σ) else (f_X3_readSum_107 F rec6 x1 x2 x3 ((-100 : Int32) - (σ 38 12)) σ))
def f_X3_readSum_62 (F : Nat) (rec6 : Int32 → Int32 → Int32 → nd_Mem → nd_Res) (x1 : Int32) (x2 : Int32) (x3 : Int32) (x4 : Int32) (σ : nd_Mem) : nd_Res := (if x2 = (47 : Int32) then (if (σ 38 12) = 0 then (nd_bind (f_X3_refuse F (2 : Int32) σ) fun r1 σ2 => (if ¬ (r1 = 0 ∨ r1 = 1) then none else (some (r1, σ2)))) else (f_X3_readSum_81 F rec6 x1 x2 x3 x4 σ)) else (f_X3_readSum_81 F rec6 x1 x2 x3 x4 σ))
def f_X3_readSum_41 (F : Nat) (rec6 : Int32 → Int32 → Int32 → nd_Mem → nd_Res) (x1 : Int32) (x2 : Int32) (x3 : Int32) (s0 : Int32) (σ : nd_Mem) : nd_Res := (if (σ 38 11) = (2 : Int32) then (f_X3_readSum_62 F rec6 x1 x2 x3 s0 σ) else (if s0 = 0 then (nd_bind (f_X3_refuse F (1 : Int32) σ) fun r1 σ2 => (if ¬ (r1 = 0 ∨ r1 = 1) then none else (some (r1, σ2)))) else (f_X3_readSum_62 F rec6 x1 x2 x3 s0 σ)))
def f_X3_readSum_40 (F : Nat) (rec6 : Int32 → Int32 → Int32 → nd_Mem → nd_Res) (x1 : Int32) (x2 : Int32) (x3 : Int32) (σ : nd_Mem) : nd_Res := (f_X3_readSum_41 F rec6 x1 x2 x3 (0 : Int32) σ)
def f_X3_readSum_6_b (F : Nat) (rec6 : Int32 → Int32 → Int32 → nd_Mem → nd_Res) (x1 : Int32) (x2 : Int32) (x3 : Int32) (σ : nd_Mem) : nd_Res := (if (400 : Int32) ≤ x3 then (nd_bind (f_X3_refuse F (1 : Int32) σ) fun r1 σ2 => (if ¬ (r1 = 0 ∨ r1 = 1) then none else (some (r1, σ2)))) else (if (σ 38 11) = (1 : Int32) then (if (σ 38 12) < (7 : Int32) then (f_X3_readSum_40 F rec6 x1 x2 x3 σ) else (if x2 = (47 : Int32) then (f_X3_readSum_40 F rec6 x1 x2 x3 σ) else (f_X3_readSum_41 F rec6 x1 x2 x3 (1 : Int32) σ))) else (f_X3_readSum_40 F rec6 x1 x2 x3 σ)))
def f_X3_readSum_6 (F : Nat) : Nat → Int32 → Int32 → Int32 → nd_Mem → nd_Res
  | 0, _, _, _, _ => none
  | m9 + 1, x1, x2, x3, σ => f_X3_readSum_6_b F (f_X3_readSum_6 F m9) x1 x2 x3 σ
def f_X3_readSum (F : Nat) (σ : nd_Mem) : nd_Res := (f_X3_readSum_6 F F (0 : Int32) (0 : Int32) (0 : Int32) σ)
set_option maxRecDepth 100000 in
set_option maxHeartbeats 4000000 in
theorem b_X3_readSum_213 (F : Nat) (rec6 : Int32 → Int32 → Int32 → nd_Mem → nd_Res) (t : List nd_S) (hL : (nd_SH ++ t).length < nd_ro) {z : Int32 × nd_Mem} (hrec6 : ∀ (x1 : Int32) (x2 : Int32) (x3 : Int32) (σ : nd_Mem), rec6 x1 x2 x3 σ = some z → nd_V M_X3_readSum (nd_rm 1) (nd_Pi (nd_SH ++ t) z) 0 0 6 [(0, .ref 38), (1, .int x1), (2, .int x2), (3, .int x3)] [] (nd_SH ++ t) σ) (x1 : Int32) (x2 : Int32) (x3 : Int32) (σ : nd_Mem) (h : f_X3_readSum_213 F rec6 x1 x2 x3 σ = some z) : nd_V M_X3_readSum (nd_rm 1) (nd_Pi (nd_SH ++ t) z) 0 0 213 [(0, .ref 38), (1, .int x1), (2, .int x2), (3, .int x3)] [] (nd_SH ++ t) σ := by
  unfold f_X3_readSum_213 at h
  refine nd_aload_n dX3_readSum_213 0 rfl ?_
  obtain ⟨r1, σ2, hc3, h⟩ := nd_bind_e h
  refine nd_cvv [] [] dX3_readSum_214 cl_X3_61 (sh_38 t) ⟨Nat.le_of_ble_eq_true rfl, Nat.le_of_ble_eq_true rfl⟩ rfl (Nat.le_of_ble_eq_true rfl) hL (t_X3_advance F t hL _ hc3) ?_
  refine nd_iinc (v := (x3 + (1 : Int32))) (ls' := [(3, .int (x3 + (1 : Int32))), (0, .ref 38), (1, .int x1), (2, .int x2)]) dX3_readSum_217 3 rfl (congrArg (HAdd.hAdd _) ic_1) (by decide) rfl ?_
  refine nd_goto dX3_readSum_220 6 (by decide) ?_
  refine nd_sub [1, 2, 3, 0] rfl ?_
  exact hrec6 _ _ _ _ h
set_option maxRecDepth 100000 in
set_option maxHeartbeats 4000000 in
theorem b_X3_readSum_206 (F : Nat) (rec6 : Int32 → Int32 → Int32 → nd_Mem → nd_Res) (t : List nd_S) (hL : (nd_SH ++ t).length < nd_ro) {z : Int32 × nd_Mem} (hrec6 : ∀ (x1 : Int32) (x2 : Int32) (x3 : Int32) (σ : nd_Mem), rec6 x1 x2 x3 σ = some z → nd_V M_X3_readSum (nd_rm 1) (nd_Pi (nd_SH ++ t) z) 0 0 6 [(0, .ref 38), (1, .int x1), (2, .int x2), (3, .int x3)] [] (nd_SH ++ t) σ) (x2 : Int32) (x3 : Int32) (s0 : Int32) (σ : nd_Mem) (h : f_X3_readSum_206 F rec6 x2 x3 s0 σ = some z) : nd_V M_X3_readSum (nd_rm 1) (nd_Pi (nd_SH ++ t) z) 0 0 206 [(0, .ref 38), (2, .int x2), (3, .int x3)] [.int s0] (nd_SH ++ t) σ := by
  unfold f_X3_readSum_206 at h
  refine nd_istore_n (ls' := [(1, .int s0), (0, .ref 38), (2, .int x2), (3, .int x3)]) dX3_readSum_206 (by decide) rfl ?_
  refine nd_iload_n dX3_readSum_207 0 rfl ?_
  refine nd_if_neN dX3_readSum_208 213 (by decide) h (fun h => ?_) (fun h => ?_)
  · refine nd_sub [1, 0, 2, 3] rfl ?_
    exact b_X3_readSum_213 F _ t hL hrec6 _ _ _ _ h
  · refine nd_iconst dX3_readSum_211 ic_1 ?_
    exact nd_iret dX3_readSum_212 (Nat.zero_le _) (Nat.zero_le _) rfl (by cases h; exact ⟨rfl, rfl, rfl⟩)
set_option maxRecDepth 100000 in
set_option maxHeartbeats 4000000 in
theorem b_X3_readSum_198 (F : Nat) (rec6 : Int32 → Int32 → Int32 → nd_Mem → nd_Res) (t : List nd_S) (hL : (nd_SH ++ t).length < nd_ro) {z : Int32 × nd_Mem} (hrec6 : ∀ (x1 : Int32) (x2 : Int32) (x3 : Int32) (σ : nd_Mem), rec6 x1 x2 x3 σ = some z → nd_V M_X3_readSum (nd_rm 1) (nd_Pi (nd_SH ++ t) z) 0 0 6 [(0, .ref 38), (1, .int x1), (2, .int x2), (3, .int x3)] [] (nd_SH ++ t) σ) (x2 : Int32) (x3 : Int32) (σ : nd_Mem) (h : f_X3_readSum_198 F rec6 x2 x3 σ = some z) : nd_V M_X3_readSum (nd_rm 1) (nd_Pi (nd_SH ++ t) z) 0 0 198 [(0, .ref 38), (2, .int x2), (3, .int x3)] [] (nd_SH ++ t) σ := by
  unfold f_X3_readSum_198 at h
  refine nd_aload_n dX3_readSum_198 0 rfl ?_
  refine nd_get dX3_readSum_199 gf_X3_81 (sh_38 t) rfl ?_
  refine nd_goto dX3_readSum_202 206 (by decide) ?_
  exact b_X3_readSum_206 F _ t hL hrec6 _ _ _ _ h
set_option maxRecDepth 100000 in
set_option maxHeartbeats 4000000 in
theorem b_X3_readSum_180 (F : Nat) (rec6 : Int32 → Int32 → Int32 → nd_Mem → nd_Res) (t : List nd_S) (hL : (nd_SH ++ t).length < nd_ro) {z : Int32 × nd_Mem} (hrec6 : ∀ (x1 : Int32) (x2 : Int32) (x3 : Int32) (σ : nd_Mem), rec6 x1 x2 x3 σ = some z → nd_V M_X3_readSum (nd_rm 1) (nd_Pi (nd_SH ++ t) z) 0 0 6 [(0, .ref 38), (1, .int x1), (2, .int x2), (3, .int x3)] [] (nd_SH ++ t) σ) (x2 : Int32) (x3 : Int32) (σ : nd_Mem) (h : f_X3_readSum_180 F rec6 x2 x3 σ = some z) : nd_V M_X3_readSum (nd_rm 1) (nd_Pi (nd_SH ++ t) z) 0 0 180 [(0, .ref 38), (2, .int x2), (3, .int x3)] [] (nd_SH ++ t) σ := by
  unfold f_X3_readSum_180 at h
  refine nd_aload_n dX3_readSum_180 0 rfl ?_
  refine nd_bipush dX3_readSum_181 ib_43 ?_
  obtain ⟨r1, σ2, hc3, h⟩ := nd_bind_e h
  refine nd_cvi [.int (43 : Int32)] [] dX3_readSum_183 cl_X3_141 (sh_38 t) ⟨Nat.le_of_ble_eq_true rfl, Nat.le_of_ble_eq_true rfl⟩ rfl (Nat.le_of_ble_eq_true rfl) hL (t_X3_isSign F t hL _ _ hc3) ?_
  refine nd_if_neN dX3_readSum_186 198 (by decide) h (fun h => ?_) (fun h => ?_)
  · exact b_X3_readSum_198 F _ t hL hrec6 _ _ _ h
  · refine nd_aload_n dX3_readSum_189 0 rfl ?_
    refine nd_bipush dX3_readSum_190 ib_45 ?_
    obtain ⟨r4, σ5, hc6, h⟩ := nd_bind_e h
    refine nd_cvi [.int (45 : Int32)] [] dX3_readSum_192 cl_X3_141 (sh_38 t) ⟨Nat.le_of_ble_eq_true rfl, Nat.le_of_ble_eq_true rfl⟩ rfl (Nat.le_of_ble_eq_true rfl) hL (t_X3_isSign F t hL _ _ hc6) ?_
    refine nd_if_eqN dX3_readSum_195 205 (by decide) h (fun h => ?_) (fun h => ?_)
    · refine nd_iconst dX3_readSum_205 ic_0 ?_
      exact b_X3_readSum_206 F _ t hL hrec6 _ _ _ _ h
    · exact b_X3_readSum_198 F _ t hL hrec6 _ _ _ h
set_option maxRecDepth 100000 in
set_option maxHeartbeats 4000000 in
theorem b_X3_readSum_158 (F : Nat) (rec6 : Int32 → Int32 → Int32 → nd_Mem → nd_Res) (t : List nd_S) (hL : (nd_SH ++ t).length < nd_ro) {z : Int32 × nd_Mem} (hrec6 : ∀ (x1 : Int32) (x2 : Int32) (x3 : Int32) (σ : nd_Mem), rec6 x1 x2 x3 σ = some z → nd_V M_X3_readSum (nd_rm 1) (nd_Pi (nd_SH ++ t) z) 0 0 6 [(0, .ref 38), (1, .int x1), (2, .int x2), (3, .int x3)] [] (nd_SH ++ t) σ) (x1 : Int32) (x3 : Int32) (s0 : Int32) (σ : nd_Mem) (h : f_X3_readSum_158 F rec6 x1 x3 s0 σ = some z) : nd_V M_X3_readSum (nd_rm 1) (nd_Pi (nd_SH ++ t) z) 0 0 158 [(0, .ref 38), (1, .int x1), (3, .int x3)] [.int s0] (nd_SH ++ t) σ := by
  unfold f_X3_readSum_158 at h
  refine nd_istore_n (ls' := [(2, .int s0), (0, .ref 38), (1, .int x1), (3, .int x3)]) dX3_readSum_158 (by decide) rfl ?_
  refine nd_iload_n dX3_readSum_159 0 rfl ?_
  refine nd_if_neN dX3_readSum_160 213 (by decide) h (fun h => ?_) (fun h => ?_)
  · refine nd_sub [1, 2, 0, 3] rfl ?_
    exact b_X3_readSum_213 F _ t hL hrec6 _ _ _ _ h
  · refine nd_iload_n dX3_readSum_163 2 rfl ?_
    refine nd_if_eqN dX3_readSum_164 180 (by decide) h (fun h => ?_) (fun h => ?_)
    · refine nd_sub [1, 0, 3] rfl ?_
      exact b_X3_readSum_180 F _ t hL hrec6 _ _ _ h
    · refine nd_aload_n dX3_readSum_167 1 rfl ?_
      refine nd_get dX3_readSum_168 gf_X3_12 (sh_38 t) rfl ?_
      refine nd_get dX3_readSum_171 gf_X3_104 (sh_39 t) rfl ?_
      refine nd_iload_n dX3_readSum_174 2 rfl ?_
      refine nd_ineg dX3_readSum_175 ?_
      obtain ⟨r1, σ2, hc3, h⟩ := nd_bind_e h
      refine nd_cvi [.int (-x1)] [] dX3_readSum_176 cl_X3_147 (sh_42 t) ⟨Nat.le_of_ble_eq_true rfl, Nat.le_of_ble_eq_true rfl⟩ rfl (Nat.le_of_ble_eq_true rfl) hL (t_X4_add F 42 43 400 (nd_SH ++ t) hL (is_Row_42 t) _ _ hc3) ?_
      refine nd_pop dX3_readSum_179 rfl ?_
      refine nd_sub [1, 0, 3] rfl ?_
      exact b_X3_readSum_180 F _ t hL hrec6 _ _ _ h
set_option maxRecDepth 100000 in
set_option maxHeartbeats 4000000 in
theorem b_X3_readSum_150 (F : Nat) (rec6 : Int32 → Int32 → Int32 → nd_Mem → nd_Res) (t : List nd_S) (hL : (nd_SH ++ t).length < nd_ro) {z : Int32 × nd_Mem} (hrec6 : ∀ (x1 : Int32) (x2 : Int32) (x3 : Int32) (σ : nd_Mem), rec6 x1 x2 x3 σ = some z → nd_V M_X3_readSum (nd_rm 1) (nd_Pi (nd_SH ++ t) z) 0 0 6 [(0, .ref 38), (1, .int x1), (2, .int x2), (3, .int x3)] [] (nd_SH ++ t) σ) (x1 : Int32) (x3 : Int32) (σ : nd_Mem) (h : f_X3_readSum_150 F rec6 x1 x3 σ = some z) : nd_V M_X3_readSum (nd_rm 1) (nd_Pi (nd_SH ++ t) z) 0 0 150 [(0, .ref 38), (1, .int x1), (3, .int x3)] [] (nd_SH ++ t) σ := by
  unfold f_X3_readSum_150 at h
  refine nd_aload_n dX3_readSum_150 0 rfl ?_
  refine nd_get dX3_readSum_151 gf_X3_81 (sh_38 t) rfl ?_
  refine nd_goto dX3_readSum_154 158 (by decide) ?_
  exact b_X3_readSum_158 F _ t hL hrec6 _ _ _ _ h
set_option maxRecDepth 100000 in
set_option maxHeartbeats 4000000 in
theorem b_X3_readSum_132 (F : Nat) (rec6 : Int32 → Int32 → Int32 → nd_Mem → nd_Res) (t : List nd_S) (hL : (nd_SH ++ t).length < nd_ro) {z : Int32 × nd_Mem} (hrec6 : ∀ (x1 : Int32) (x2 : Int32) (x3 : Int32) (σ : nd_Mem), rec6 x1 x2 x3 σ = some z → nd_V M_X3_readSum (nd_rm 1) (nd_Pi (nd_SH ++ t) z) 0 0 6 [(0, .ref 38), (1, .int x1), (2, .int x2), (3, .int x3)] [] (nd_SH ++ t) σ) (x1 : Int32) (x3 : Int32) (σ : nd_Mem) (h : f_X3_readSum_132 F rec6 x1 x3 σ = some z) : nd_V M_X3_readSum (nd_rm 1) (nd_Pi (nd_SH ++ t) z) 0 0 132 [(0, .ref 38), (1, .int x1), (3, .int x3)] [] (nd_SH ++ t) σ := by
  unfold f_X3_readSum_132 at h
  refine nd_aload_n dX3_readSum_132 0 rfl ?_
  refine nd_bipush dX3_readSum_133 ib_42 ?_
  obtain ⟨r1, σ2, hc3, h⟩ := nd_bind_e h
  refine nd_cvi [.int (42 : Int32)] [] dX3_readSum_135 cl_X3_141 (sh_38 t) ⟨Nat.le_of_ble_eq_true rfl, Nat.le_of_ble_eq_true rfl⟩ rfl (Nat.le_of_ble_eq_true rfl) hL (t_X3_isSign F t hL _ _ hc3) ?_
  refine nd_if_neN dX3_readSum_138 150 (by decide) h (fun h => ?_) (fun h => ?_)
  · exact b_X3_readSum_150 F _ t hL hrec6 _ _ _ h
  · refine nd_aload_n dX3_readSum_141 0 rfl ?_
    refine nd_bipush dX3_readSum_142 ib_47 ?_
    obtain ⟨r4, σ5, hc6, h⟩ := nd_bind_e h
    refine nd_cvi [.int (47 : Int32)] [] dX3_readSum_144 cl_X3_141 (sh_38 t) ⟨Nat.le_of_ble_eq_true rfl, Nat.le_of_ble_eq_true rfl⟩ rfl (Nat.le_of_ble_eq_true rfl) hL (t_X3_isSign F t hL _ _ hc6) ?_
    refine nd_if_eqN dX3_readSum_147 157 (by decide) h (fun h => ?_) (fun h => ?_)
    · refine nd_iconst dX3_readSum_157 ic_0 ?_
      exact b_X3_readSum_158 F _ t hL hrec6 _ _ _ _ h
    · exact b_X3_readSum_150 F _ t hL hrec6 _ _ _ h
set_option maxRecDepth 100000 in
set_option maxHeartbeats 4000000 in
theorem b_X3_readSum_107 (F : Nat) (rec6 : Int32 → Int32 → Int32 → nd_Mem → nd_Res) (t : List nd_S) (hL : (nd_SH ++ t).length < nd_ro) {z : Int32 × nd_Mem} (hrec6 : ∀ (x1 : Int32) (x2 : Int32) (x3 : Int32) (σ : nd_Mem), rec6 x1 x2 x3 σ = some z → nd_V M_X3_readSum (nd_rm 1) (nd_Pi (nd_SH ++ t) z) 0 0 6 [(0, .ref 38), (1, .int x1), (2, .int x2), (3, .int x3)] [] (nd_SH ++ t) σ) (x1 : Int32) (x2 : Int32) (x3 : Int32) (s0 : Int32) (σ : nd_Mem) (h : f_X3_readSum_107 F rec6 x1 x2 x3 s0 σ = some z) : nd_V M_X3_readSum (nd_rm 1) (nd_Pi (nd_SH ++ t) z) 0 0 107 [(0, .ref 38), (1, .int x1), (2, .int x2), (3, .int x3)] [.int s0, .ref 42] (nd_SH ++ t) σ := by
  unfold f_X3_readSum_107 at h
  obtain ⟨r1, σ2, hc3, h⟩ := nd_bind_e h
  refine nd_cvi [.int s0] [] dX3_readSum_107 cl_X3_147 (sh_42 t) ⟨Nat.le_of_ble_eq_true rfl, Nat.le_of_ble_eq_true rfl⟩ rfl (Nat.le_of_ble_eq_true rfl) hL (t_X4_add F 42 43 400 (nd_SH ++ t) hL (is_Row_42 t) _ _ hc3) ?_
  refine nd_pop dX3_readSum_110 rfl ?_
  refine nd_aload_n dX3_readSum_111 0 rfl ?_
  obtain ⟨r4, σ5, hc6, h⟩ := nd_bind_e h
  refine nd_cvv [] [] dX3_readSum_112 cl_X3_61 (sh_38 t) ⟨Nat.le_of_ble_eq_true rfl, Nat.le_of_ble_eq_true rfl⟩ rfl (Nat.le_of_ble_eq_true rfl) hL (t_X3_advance F t hL _ hc6) ?_
  refine nd_iload_n dX3_readSum_115 2 rfl ?_
  refine nd_if_eqN dX3_readSum_116 132 (by decide) h (fun h => ?_) (fun h => ?_)
  · refine nd_sub [0, 1, 3] rfl ?_
    exact b_X3_readSum_132 F _ t hL hrec6 _ _ _ h
  · refine nd_aload_n dX3_readSum_119 0 rfl ?_
    refine nd_get dX3_readSum_120 gf_X3_12 (sh_38 t) rfl ?_
    refine nd_get dX3_readSum_123 gf_X3_104 (sh_39 t) rfl ?_
    refine nd_iload_n dX3_readSum_126 2 rfl ?_
    refine nd_ineg dX3_readSum_127 ?_
    obtain ⟨r7, σ8, hc9, h⟩ := nd_bind_e h
    refine nd_cvi [.int (-x2)] [] dX3_readSum_128 cl_X3_147 (sh_42 t) ⟨Nat.le_of_ble_eq_true rfl, Nat.le_of_ble_eq_true rfl⟩ rfl (Nat.le_of_ble_eq_true rfl) hL (t_X4_add F 42 43 400 (nd_SH ++ t) hL (is_Row_42 t) _ _ hc9) ?_
    refine nd_pop dX3_readSum_131 rfl ?_
    refine nd_sub [0, 1, 3] rfl ?_
    exact b_X3_readSum_132 F _ t hL hrec6 _ _ _ h
set_option maxRecDepth 100000 in
set_option maxHeartbeats 4000000 in
theorem b_X3_readSum_81 (F : Nat) (rec6 : Int32 → Int32 → Int32 → nd_Mem → nd_Res) (t : List nd_S) (hL : (nd_SH ++ t).length < nd_ro) {z : Int32 × nd_Mem} (hrec6 : ∀ (x1 : Int32) (x2 : Int32) (x3 : Int32) (σ : nd_Mem), rec6 x1 x2 x3 σ = some z → nd_V M_X3_readSum (nd_rm 1) (nd_Pi (nd_SH ++ t) z) 0 0 6 [(0, .ref 38), (1, .int x1), (2, .int x2), (3, .int x3)] [] (nd_SH ++ t) σ) (x1 : Int32) (x2 : Int32) (x3 : Int32) (x4 : Int32) (σ : nd_Mem) (h : f_X3_readSum_81 F rec6 x1 x2 x3 x4 σ = some z) : nd_V M_X3_readSum (nd_rm 1) (nd_Pi (nd_SH ++ t) z) 0 0 81 [(0, .ref 38), (1, .int x1), (2, .int x2), (3, .int x3), (4, .int x4)] [] (nd_SH ++ t) σ := by
  unfold f_X3_readSum_81 at h
  refine nd_aload_n dX3_readSum_81 0 rfl ?_
  refine nd_get dX3_readSum_82 gf_X3_12 (sh_38 t) rfl ?_
  refine nd_get dX3_readSum_85 gf_X3_104 (sh_39 t) rfl ?_
  refine nd_iload dX3_readSum_88 4 rfl ?_
  refine nd_if_eqN dX3_readSum_90 103 (by decide) h (fun h => ?_) (fun h => ?_)
  · refine nd_aload_n dX3_readSum_103 0 rfl ?_
    refine nd_get dX3_readSum_104 gf_X3_81 (sh_38 t) rfl ?_
    refine nd_sub [0, 1, 2, 3] rfl ?_
    exact b_X3_readSum_107 F _ t hL hrec6 _ _ _ _ _ h
  · refine nd_bipush dX3_readSum_93 ib_m100 ?_
    refine nd_aload_n dX3_readSum_95 0 rfl ?_
    refine nd_get dX3_readSum_96 gf_X3_81 (sh_38 t) rfl ?_
    refine nd_isub dX3_readSum_99 ?_
    refine nd_goto dX3_readSum_100 107 (by decide) ?_
    refine nd_sub [0, 1, 2, 3] rfl ?_
    exact b_X3_readSum_107 F _ t hL hrec6 _ _ _ _ _ h
set_option maxRecDepth 100000 in
set_option maxHeartbeats 4000000 in
theorem b_X3_readSum_62 (F : Nat) (rec6 : Int32 → Int32 → Int32 → nd_Mem → nd_Res) (t : List nd_S) (hL : (nd_SH ++ t).length < nd_ro) {z : Int32 × nd_Mem} (hrec6 : ∀ (x1 : Int32) (x2 : Int32) (x3 : Int32) (σ : nd_Mem), rec6 x1 x2 x3 σ = some z → nd_V M_X3_readSum (nd_rm 1) (nd_Pi (nd_SH ++ t) z) 0 0 6 [(0, .ref 38), (1, .int x1), (2, .int x2), (3, .int x3)] [] (nd_SH ++ t) σ) (x1 : Int32) (x2 : Int32) (x3 : Int32) (x4 : Int32) (σ : nd_Mem) (h : f_X3_readSum_62 F rec6 x1 x2 x3 x4 σ = some z) : nd_V M_X3_readSum (nd_rm 1) (nd_Pi (nd_SH ++ t) z) 0 0 62 [(0, .ref 38), (1, .int x1), (2, .int x2), (3, .int x3), (4, .int x4)] [] (nd_SH ++ t) σ := by
  unfold f_X3_readSum_62 at h
  refine nd_iload_n dX3_readSum_62 2 rfl ?_
  refine nd_bipush dX3_readSum_63 ib_47 ?_
  refine nd_icmp_neN dX3_readSum_65 81 (by decide) h (fun h => ?_) (fun h => ?_)
  · exact b_X3_readSum_81 F _ t hL hrec6 _ _ _ _ _ h
  · refine nd_aload_n dX3_readSum_68 0 rfl ?_
    refine nd_get dX3_readSum_69 gf_X3_81 (sh_38 t) rfl ?_
    refine nd_if_neN dX3_readSum_72 81 (by decide) h (fun h => ?_) (fun h => ?_)
    · exact b_X3_readSum_81 F _ t hL hrec6 _ _ _ _ _ h
    · refine nd_aload_n dX3_readSum_75 0 rfl ?_
      refine nd_iconst dX3_readSum_76 ic_2 ?_
      obtain ⟨r1, σ2, hc3, h⟩ := nd_bind_e h
      refine nd_cvi [.int (2 : Int32)] [] dX3_readSum_77 cl_X3_84 (sh_38 t) ⟨Nat.le_of_ble_eq_true rfl, Nat.le_of_ble_eq_true rfl⟩ rfl (Nat.le_of_ble_eq_true rfl) hL (t_X3_refuse F t hL _ _ hc3) ?_
      have hz4 := nd_no_e h
      have h := hz4.2
      exact nd_iret dX3_readSum_80 (Nat.zero_le _) (Nat.zero_le _) (nd_zok rfl (Classical.not_not.mp hz4.1)) (by cases h; exact ⟨rfl, rfl, rfl⟩)
set_option maxRecDepth 100000 in
set_option maxHeartbeats 4000000 in
theorem b_X3_readSum_41 (F : Nat) (rec6 : Int32 → Int32 → Int32 → nd_Mem → nd_Res) (t : List nd_S) (hL : (nd_SH ++ t).length < nd_ro) {z : Int32 × nd_Mem} (hrec6 : ∀ (x1 : Int32) (x2 : Int32) (x3 : Int32) (σ : nd_Mem), rec6 x1 x2 x3 σ = some z → nd_V M_X3_readSum (nd_rm 1) (nd_Pi (nd_SH ++ t) z) 0 0 6 [(0, .ref 38), (1, .int x1), (2, .int x2), (3, .int x3)] [] (nd_SH ++ t) σ) (x1 : Int32) (x2 : Int32) (x3 : Int32) (s0 : Int32) (σ : nd_Mem) (h : f_X3_readSum_41 F rec6 x1 x2 x3 s0 σ = some z) : nd_V M_X3_readSum (nd_rm 1) (nd_Pi (nd_SH ++ t) z) 0 0 41 [(0, .ref 38), (1, .int x1), (2, .int x2), (3, .int x3)] [.int s0] (nd_SH ++ t) σ := by
  unfold f_X3_readSum_41 at h
  refine nd_istore (ls' := [(4, .int s0), (0, .ref 38), (1, .int x1), (2, .int x2), (3, .int x3)]) dX3_readSum_41 (by decide) rfl ?_
  refine nd_aload_n dX3_readSum_43 1 rfl ?_
  refine nd_get dX3_readSum_44 gf_X3_64 (sh_38 t) rfl ?_
  refine nd_iconst dX3_readSum_47 ic_2 ?_
  refine nd_icmp_eqN dX3_readSum_48 62 (by decide) h (fun h => ?_) (fun h => ?_)
  · refine nd_sub [1, 2, 3, 4, 0] rfl ?_
    exact b_X3_readSum_62 F _ t hL hrec6 _ _ _ _ _ h
  · refine nd_iload dX3_readSum_51 0 rfl ?_
    refine nd_if_neN dX3_readSum_53 62 (by decide) h (fun h => ?_) (fun h => ?_)
    · refine nd_sub [1, 2, 3, 4, 0] rfl ?_
      exact b_X3_readSum_62 F _ t hL hrec6 _ _ _ _ _ h
    · refine nd_aload_n dX3_readSum_56 1 rfl ?_
      refine nd_iconst dX3_readSum_57 ic_1 ?_
      obtain ⟨r1, σ2, hc3, h⟩ := nd_bind_e h
      refine nd_cvi [.int (1 : Int32)] [] dX3_readSum_58 cl_X3_84 (sh_38 t) ⟨Nat.le_of_ble_eq_true rfl, Nat.le_of_ble_eq_true rfl⟩ rfl (Nat.le_of_ble_eq_true rfl) hL (t_X3_refuse F t hL _ _ hc3) ?_
      have hz4 := nd_no_e h
      have h := hz4.2
      exact nd_iret dX3_readSum_61 (Nat.zero_le _) (Nat.zero_le _) (nd_zok rfl (Classical.not_not.mp hz4.1)) (by cases h; exact ⟨rfl, rfl, rfl⟩)
set_option maxRecDepth 100000 in
set_option maxHeartbeats 4000000 in
theorem b_X3_readSum_40 (F : Nat) (rec6 : Int32 → Int32 → Int32 → nd_Mem → nd_Res) (t : List nd_S) (hL : (nd_SH ++ t).length < nd_ro) {z : Int32 × nd_Mem} (hrec6 : ∀ (x1 : Int32) (x2 : Int32) (x3 : Int32) (σ : nd_Mem), rec6 x1 x2 x3 σ = some z → nd_V M_X3_readSum (nd_rm 1) (nd_Pi (nd_SH ++ t) z) 0 0 6 [(0, .ref 38), (1, .int x1), (2, .int x2), (3, .int x3)] [] (nd_SH ++ t) σ) (x1 : Int32) (x2 : Int32) (x3 : Int32) (σ : nd_Mem) (h : f_X3_readSum_40 F rec6 x1 x2 x3 σ = some z) : nd_V M_X3_readSum (nd_rm 1) (nd_Pi (nd_SH ++ t) z) 0 0 40 [(0, .ref 38), (1, .int x1), (2, .int x2), (3, .int x3)] [] (nd_SH ++ t) σ := by
  unfold f_X3_readSum_40 at h
  refine nd_iconst dX3_readSum_40 ic_0 ?_
  exact b_X3_readSum_41 F _ t hL hrec6 _ _ _ _ _ h
set_option maxRecDepth 100000 in
set_option maxHeartbeats 4000000 in
theorem b_X3_readSum_6 (F : Nat) (t : List nd_S) (hL : (nd_SH ++ t).length < nd_ro) {z : Int32 × nd_Mem} (m9 : Nat) : ∀ (x1 : Int32) (x2 : Int32) (x3 : Int32) (σ : nd_Mem), f_X3_readSum_6 F m9 x1 x2 x3 σ = some z → nd_V M_X3_readSum (nd_rm 1) (nd_Pi (nd_SH ++ t) z) 0 0 6 [(0, .ref 38), (1, .int x1), (2, .int x2), (3, .int x3)] [] (nd_SH ++ t) σ := by
  induction m9 with
  | zero =>
    intro x1 x2 x3 σ h
    have h : none = some z := h
    cases h
  | succ m9 hrec6 =>
    intro x1 x2 x3 σ h
    have h : f_X3_readSum_6_b F (f_X3_readSum_6 F m9) x1 x2 x3 σ = some z := h
    unfold f_X3_readSum_6_b at h
    refine nd_iload_n dX3_readSum_6 3 rfl ?_
    refine nd_sipush dX3_readSum_7 is_400 ?_
    refine nd_icmp_geN dX3_readSum_10 223 (by decide) h (fun h => ?_) (fun h => ?_)
    · refine nd_aload_n dX3_readSum_223 0 rfl ?_
      refine nd_iconst dX3_readSum_224 ic_1 ?_
      obtain ⟨r1, σ2, hc3, h⟩ := nd_bind_e h
      refine nd_cvi [.int (1 : Int32)] [] dX3_readSum_225 cl_X3_84 (sh_38 t) ⟨Nat.le_of_ble_eq_true rfl, Nat.le_of_ble_eq_true rfl⟩ rfl (Nat.le_of_ble_eq_true rfl) hL (t_X3_refuse F t hL _ _ hc3) ?_
      have hz4 := nd_no_e h
      have h := hz4.2
      exact nd_iret dX3_readSum_228 (Nat.zero_le _) (Nat.zero_le _) (nd_zok rfl (Classical.not_not.mp hz4.1)) (by cases h; exact ⟨rfl, rfl, rfl⟩)
    · refine nd_aload_n dX3_readSum_13 0 rfl ?_
      refine nd_get dX3_readSum_14 gf_X3_64 (sh_38 t) rfl ?_
      refine nd_iconst dX3_readSum_17 ic_1 ?_
      refine nd_icmp_neN dX3_readSum_18 40 (by decide) h (fun h => ?_) (fun h => ?_)
      · exact b_X3_readSum_40 F _ t hL hrec6 _ _ _ _ h
      · refine nd_aload_n dX3_readSum_21 0 rfl ?_
        refine nd_get dX3_readSum_22 gf_X3_81 (sh_38 t) rfl ?_
        refine nd_bipush dX3_readSum_25 ib_7 ?_
        refine nd_icmp_ltN dX3_readSum_27 40 (by decide) h (fun h => ?_) (fun h => ?_)
        · exact b_X3_readSum_40 F _ t hL hrec6 _ _ _ _ h
        · refine nd_iload_n dX3_readSum_30 2 rfl ?_
          refine nd_bipush dX3_readSum_31 ib_47 ?_
          refine nd_icmp_eqN dX3_readSum_33 40 (by decide) h (fun h => ?_) (fun h => ?_)
          · exact b_X3_readSum_40 F _ t hL hrec6 _ _ _ _ h
          · refine nd_iconst dX3_readSum_36 ic_1 ?_
            refine nd_goto dX3_readSum_37 41 (by decide) ?_
            exact b_X3_readSum_41 F _ t hL hrec6 _ _ _ _ _ h
set_option maxRecDepth 100000 in
set_option maxHeartbeats 4000000 in
theorem t_X3_readSum (F : Nat) (t : List nd_S) (hL : (nd_SH ++ t).length < nd_ro) {z : Int32 × nd_Mem} (σ : nd_Mem) (h : f_X3_readSum F σ = some z) : nd_Fn M_X3_readSum (nd_rm 1) [.ref 38] (nd_SH ++ t) σ (nd_Pi (nd_SH ++ t) z) := by
  refine nd_Fn.ofV (ls := [(0, .ref 38)]) pl_X3_readSum rfl (fun _ => Nat.le_of_ble_eq_true rfl) (fun _ => rfl) ?_
  unfold f_X3_readSum at h
  refine nd_iconst dX3_readSum_0 ic_0 ?_
  refine nd_istore_n (ls' := [(1, .int (0 : Int32)), (0, .ref 38)]) dX3_readSum_1 (by decide) rfl ?_
  refine nd_iconst dX3_readSum_2 ic_0 ?_
  refine nd_istore_n (ls' := [(2, .int (0 : Int32)), (1, .int (0 : Int32)), (0, .ref 38)]) dX3_readSum_3 (by decide) rfl ?_
  refine nd_iconst dX3_readSum_4 ic_0 ?_
  refine nd_istore_n (ls' := [(3, .int (0 : Int32)), (2, .int (0 : Int32)), (1, .int (0 : Int32)), (0, .ref 38)]) dX3_readSum_5 (by decide) rfl ?_
  refine nd_sub [3, 2, 1, 0] rfl ?_
  exact b_X3_readSum_6 F t hL F _ _ _ _ h
def f_X3_readFeud_27 (F : Nat) (σ : nd_Mem) : nd_Res := (some ((0 : Int32), σ))
def f_X3_readFeud (F : Nat) (σ : nd_Mem) : nd_Res := (nd_bind (f_X3_readNumber F (0 : Int32) ((σ 38 6) - (1 : Int32)) (-1 : Int32) σ) fun r1 σ2 => (if r1 = 0 then (f_X3_readFeud_27 F σ2) else (nd_bind (f_X3_readSecondWord F σ2) fun r4 σ5 => (if r4 = 0 then (f_X3_readFeud_27 F σ5) else (nd_bind (f_X3_readNumber F (0 : Int32) ((σ5 38 6) - (1 : Int32)) (σ 38 12) σ5) fun r7 σ8 => (if r7 = 0 then (some ((0 : Int32), σ8)) else (nd_bind (f_X5_addFeud F 39 (σ 38 12) (σ5 38 12) σ8) fun r10 σ11 => (some ((1 : Int32), σ11)))))))))
set_option maxRecDepth 100000 in
set_option maxHeartbeats 4000000 in
theorem b_X3_readFeud_27 (F : Nat) (t : List nd_S) (hL : (nd_SH ++ t).length < nd_ro) {z : Int32 × nd_Mem} (σ : nd_Mem) (h : f_X3_readFeud_27 F σ = some z) : nd_V M_X3_readFeud (nd_rm 2) (nd_Pi (nd_SH ++ t) z) 0 0 27 [(0, .ref 38)] [] (nd_SH ++ t) σ := by
  unfold f_X3_readFeud_27 at h
  refine nd_iconst dX3_readFeud_27 ic_0 ?_
  exact nd_iret dX3_readFeud_28 (Nat.zero_le _) (Nat.zero_le _) rfl (by cases h; exact ⟨rfl, rfl, rfl⟩)
set_option maxRecDepth 100000 in
set_option maxHeartbeats 4000000 in
theorem t_X3_readFeud (F : Nat) (t : List nd_S) (hL : (nd_SH ++ t).length < nd_ro) {z : Int32 × nd_Mem} (σ : nd_Mem) (h : f_X3_readFeud F σ = some z) : nd_Fn M_X3_readFeud (nd_rm 2) [.ref 38] (nd_SH ++ t) σ (nd_Pi (nd_SH ++ t) z) := by
  refine nd_Fn.ofV (ls := [(0, .ref 38)]) pl_X3_readFeud rfl (fun _ => Nat.le_of_ble_eq_true rfl) (fun _ => rfl) ?_
  unfold f_X3_readFeud at h
  refine nd_aload_n dX3_readFeud_0 0 rfl ?_
  refine nd_get dX3_readFeud_1 gf_X3_81 (sh_38 t) rfl ?_
  refine nd_istore_n (ls' := [(1, .int (σ 38 12)), (0, .ref 38)]) dX3_readFeud_4 (by decide) rfl ?_
  refine nd_aload_n dX3_readFeud_5 1 rfl ?_
  refine nd_iconst dX3_readFeud_6 ic_0 ?_
  refine nd_aload_n dX3_readFeud_7 1 rfl ?_
  refine nd_get dX3_readFeud_8 gf_X3_51 (sh_38 t) rfl ?_
  refine nd_iconst dX3_readFeud_11 ic_1 ?_
  refine nd_isub dX3_readFeud_12 ?_
  refine nd_iconst dX3_readFeud_13 ic_m1 ?_
  obtain ⟨r1, σ2, hc3, h⟩ := nd_bind_e h
  refine nd_cvi [.int (0 : Int32), .int ((σ 38 6) - (1 : Int32)), .int (-1 : Int32)] [] dX3_readFeud_14 cl_X3_124 (sh_38 t) ⟨Nat.le_of_ble_eq_true rfl, Nat.le_of_ble_eq_true rfl⟩ rfl (Nat.le_of_ble_eq_true rfl) hL (t_X3_readNumber F t hL _ _ _ _ hc3) ?_
  refine nd_if_eqN dX3_readFeud_17 27 (by decide) h (fun h => ?_) (fun h => ?_)
  · refine nd_sub [1] rfl ?_
    exact b_X3_readFeud_27 F t hL _ h
  · refine nd_aload_n dX3_readFeud_20 1 rfl ?_
    obtain ⟨r4, σ5, hc6, h⟩ := nd_bind_e h
    refine nd_cvi [] [] dX3_readFeud_21 cl_X3_131 (sh_38 t) ⟨Nat.le_of_ble_eq_true rfl, Nat.le_of_ble_eq_true rfl⟩ rfl (Nat.le_of_ble_eq_true rfl) hL (t_X3_readSecondWord F t hL _ hc6) ?_
    refine nd_if_neN dX3_readFeud_24 29 (by decide) h (fun h => ?_) (fun h => ?_)
    · refine nd_aload_n dX3_readFeud_29 1 rfl ?_
      refine nd_get dX3_readFeud_30 gf_X3_81 (sh_38 t) rfl ?_
      refine nd_istore_n (ls' := [(2, .int (σ5 38 12)), (1, .int (σ 38 12)), (0, .ref 38)]) dX3_readFeud_33 (by decide) rfl ?_
      refine nd_aload_n dX3_readFeud_34 2 rfl ?_
      refine nd_iconst dX3_readFeud_35 ic_0 ?_
      refine nd_aload_n dX3_readFeud_36 2 rfl ?_
      refine nd_get dX3_readFeud_37 gf_X3_51 (sh_38 t) rfl ?_
      refine nd_iconst dX3_readFeud_40 ic_1 ?_
      refine nd_isub dX3_readFeud_41 ?_
      refine nd_iload_n dX3_readFeud_42 1 rfl ?_
      obtain ⟨r7, σ8, hc9, h⟩ := nd_bind_e h
      refine nd_cvi [.int (0 : Int32), .int ((σ5 38 6) - (1 : Int32)), .int (σ 38 12)] [] dX3_readFeud_43 cl_X3_124 (sh_38 t) ⟨Nat.le_of_ble_eq_true rfl, Nat.le_of_ble_eq_true rfl⟩ rfl (Nat.le_of_ble_eq_true rfl) hL (t_X3_readNumber F t hL _ _ _ _ hc9) ?_
      refine nd_if_neN dX3_readFeud_46 51 (by decide) h (fun h => ?_) (fun h => ?_)
      · refine nd_aload_n dX3_readFeud_51 2 rfl ?_
        refine nd_get dX3_readFeud_52 gf_X3_12 (sh_38 t) rfl ?_
        refine nd_iload_n dX3_readFeud_55 1 rfl ?_
        refine nd_iload_n dX3_readFeud_56 0 rfl ?_
        obtain ⟨r10, σ11, hc12, h⟩ := nd_bind_e h
        refine nd_cvv [.int (σ 38 12), .int (σ5 38 12)] [] dX3_readFeud_57 cl_X3_134 (sh_39 t) ⟨Nat.le_of_ble_eq_true rfl, Nat.le_of_ble_eq_true rfl⟩ rfl (Nat.le_of_ble_eq_true rfl) hL (t_X5_addFeud F 39 (nd_SH ++ t) hL (is_Rules_39 t) _ _ _ hc12) ?_
        refine nd_iconst dX3_readFeud_60 ic_1 ?_
        exact nd_iret dX3_readFeud_61 (Nat.zero_le _) (Nat.zero_le _) rfl (by cases h; exact ⟨rfl, rfl, rfl⟩)
      · refine nd_iconst dX3_readFeud_49 ic_0 ?_
        exact nd_iret dX3_readFeud_50 (Nat.zero_le _) (Nat.zero_le _) rfl (by cases h; exact ⟨rfl, rfl, rfl⟩)
    · refine nd_sub [1] rfl ?_
      exact b_X3_readFeud_27 F t hL _ h
def f_X3_readPlan_36 (F : Nat) (σ : nd_Mem) : nd_Res := (nd_bind (f_X3_refuse F (1 : Int32) σ) fun r1 σ2 => (if ¬ (r1 = 0 ∨ r1 = 1) then none else (some (r1, σ2))))
def f_X3_readPlan_93 (F : Nat) (x1 : Int32) (x2 : Int32) (x3 : Int32) (x4 : Int32) (σ : nd_Mem) : nd_Res := (nd_bind (f_X5_addPlan F 39 x1 x2 x3 x4 σ) fun r1 σ2 => (some ((1 : Int32), σ2)))
def f_X3_readPlan (F : Nat) (σ : nd_Mem) : nd_Res := (nd_bind (f_X3_readNumber F (0 : Int32) (999 : Int32) (-1 : Int32) σ) fun r1 σ2 => (if r1 = 0 then (some ((0 : Int32), σ2)) else (if (σ2 38 11) = (1 : Int32) then (if (σ2 38 12) = 0 then (f_X3_readPlan_36 F σ2) else (nd_bind (f_X3_advance F σ2) fun r4 σ5 => (nd_bind (f_X3_readNumber F (0 : Int32) ((σ5 38 6) - (1 : Int32)) (-1 : Int32) σ5) fun r7 σ8 => (if r7 = 0 then (some ((0 : Int32), σ8)) else (if (σ2 38 12) = (5 : Int32) then (nd_bind (f_X3_readNumber F (1 : Int32) (999 : Int32) (-1 : Int32) σ8) fun r10 σ11 => (if r10 = 0 then (some ((0 : Int32), σ11)) else (f_X3_readPlan_93 F (σ 38 12) (σ2 38 12) (σ5 38 12) (σ8 38 12) σ11))) else (f_X3_readPlan_93 F (σ 38 12) (σ2 38 12) (σ5 38 12) (σ8 38 12) σ8)))))) else (f_X3_readPlan_36 F σ2))))
set_option maxRecDepth 100000 in
set_option maxHeartbeats 4000000 in
theorem b_X3_readPlan_36 (F : Nat) (t : List nd_S) (hL : (nd_SH ++ t).length < nd_ro) {z : Int32 × nd_Mem} (σ : nd_Mem) (h : f_X3_readPlan_36 F σ = some z) : nd_V M_X3_readPlan (nd_rm 2) (nd_Pi (nd_SH ++ t) z) 0 0 36 [(0, .ref 38)] [] (nd_SH ++ t) σ := by
  unfold f_X3_readPlan_36 at h
  refine nd_aload_n dX3_readPlan_36 0 rfl ?_
  refine nd_iconst dX3_readPlan_37 ic_1 ?_
  obtain ⟨r1, σ2, hc3, h⟩ := nd_bind_e h
  refine nd_cvi [.int (1 : Int32)] [] dX3_readPlan_38 cl_X3_84 (sh_38 t) ⟨Nat.le_of_ble_eq_true rfl, Nat.le_of_ble_eq_true rfl⟩ rfl (Nat.le_of_ble_eq_true rfl) hL (t_X3_refuse F t hL _ _ hc3) ?_
  have hz4 := nd_no_e h
  have h := hz4.2
  exact nd_iret dX3_readPlan_41 (Nat.zero_le _) (Nat.zero_le _) (nd_zok rfl (Classical.not_not.mp hz4.1)) (by cases h; exact ⟨rfl, rfl, rfl⟩)
set_option maxRecDepth 100000 in
set_option maxHeartbeats 4000000 in
theorem b_X3_readPlan_93 (F : Nat) (t : List nd_S) (hL : (nd_SH ++ t).length < nd_ro) {z : Int32 × nd_Mem} (x1 : Int32) (x2 : Int32) (x3 : Int32) (x4 : Int32) (σ : nd_Mem) (h : f_X3_readPlan_93 F x1 x2 x3 x4 σ = some z) : nd_V M_X3_readPlan (nd_rm 2) (nd_Pi (nd_SH ++ t) z) 0 0 93 [(0, .ref 38), (1, .int x1), (2, .int x2), (3, .int x3), (4, .int x4)] [] (nd_SH ++ t) σ := by
  unfold f_X3_readPlan_93 at h
  refine nd_aload_n dX3_readPlan_93 0 rfl ?_
  refine nd_get dX3_readPlan_94 gf_X3_12 (sh_38 t) rfl ?_
  refine nd_iload_n dX3_readPlan_97 1 rfl ?_
  refine nd_iload_n dX3_readPlan_98 2 rfl ?_
  refine nd_iload_n dX3_readPlan_99 3 rfl ?_
  refine nd_iload dX3_readPlan_100 4 rfl ?_
  obtain ⟨r1, σ2, hc3, h⟩ := nd_bind_e h
  refine nd_cvv [.int x1, .int x2, .int x3, .int x4] [] dX3_readPlan_102 cl_X3_128 (sh_39 t) ⟨Nat.le_of_ble_eq_true rfl, Nat.le_of_ble_eq_true rfl⟩ rfl (Nat.le_of_ble_eq_true rfl) hL (t_X5_addPlan F 39 (nd_SH ++ t) hL (is_Rules_39 t) _ _ _ _ _ hc3) ?_
  refine nd_iconst dX3_readPlan_105 ic_1 ?_
  exact nd_iret dX3_readPlan_106 (Nat.zero_le _) (Nat.zero_le _) rfl (by cases h; exact ⟨rfl, rfl, rfl⟩)
set_option maxRecDepth 100000 in
set_option maxHeartbeats 4000000 in
theorem t_X3_readPlan (F : Nat) (t : List nd_S) (hL : (nd_SH ++ t).length < nd_ro) {z : Int32 × nd_Mem} (σ : nd_Mem) (h : f_X3_readPlan F σ = some z) : nd_Fn M_X3_readPlan (nd_rm 2) [.ref 38] (nd_SH ++ t) σ (nd_Pi (nd_SH ++ t) z) := by
  refine nd_Fn.ofV (ls := [(0, .ref 38)]) pl_X3_readPlan rfl (fun _ => Nat.le_of_ble_eq_true rfl) (fun _ => rfl) ?_
  unfold f_X3_readPlan at h
  refine nd_aload_n dX3_readPlan_0 0 rfl ?_
  refine nd_get dX3_readPlan_1 gf_X3_81 (sh_38 t) rfl ?_
  refine nd_istore_n (ls' := [(1, .int (σ 38 12)), (0, .ref 38)]) dX3_readPlan_4 (by decide) rfl ?_
  refine nd_aload_n dX3_readPlan_5 1 rfl ?_
  refine nd_iconst dX3_readPlan_6 ic_0 ?_
  refine nd_sipush dX3_readPlan_7 is_999 ?_
  refine nd_iconst dX3_readPlan_10 ic_m1 ?_
  obtain ⟨r1, σ2, hc3, h⟩ := nd_bind_e h
  refine nd_cvi [.int (0 : Int32), .int (999 : Int32), .int (-1 : Int32)] [] dX3_readPlan_11 cl_X3_124 (sh_38 t) ⟨Nat.le_of_ble_eq_true rfl, Nat.le_of_ble_eq_true rfl⟩ rfl (Nat.le_of_ble_eq_true rfl) hL (t_X3_readNumber F t hL _ _ _ _ hc3) ?_
  refine nd_if_neN dX3_readPlan_14 19 (by decide) h (fun h => ?_) (fun h => ?_)
  · refine nd_aload_n dX3_readPlan_19 1 rfl ?_
    refine nd_get dX3_readPlan_20 gf_X3_81 (sh_38 t) rfl ?_
    refine nd_istore_n (ls' := [(2, .int (σ2 38 12)), (1, .int (σ 38 12)), (0, .ref 38)]) dX3_readPlan_23 (by decide) rfl ?_
    refine nd_aload_n dX3_readPlan_24 2 rfl ?_
    refine nd_get dX3_readPlan_25 gf_X3_64 (sh_38 t) rfl ?_
    refine nd_iconst dX3_readPlan_28 ic_1 ?_
    refine nd_icmp_neN dX3_readPlan_29 36 (by decide) h (fun h => ?_) (fun h => ?_)
    · refine nd_sub [2] rfl ?_
      exact b_X3_readPlan_36 F t hL _ h
    · refine nd_iload_n dX3_readPlan_32 0 rfl ?_
      refine nd_if_neN dX3_readPlan_33 42 (by decide) h (fun h => ?_) (fun h => ?_)
      · refine nd_aload_n dX3_readPlan_42 2 rfl ?_
        obtain ⟨r4, σ5, hc6, h⟩ := nd_bind_e h
        refine nd_cvv [] [] dX3_readPlan_43 cl_X3_61 (sh_38 t) ⟨Nat.le_of_ble_eq_true rfl, Nat.le_of_ble_eq_true rfl⟩ rfl (Nat.le_of_ble_eq_true rfl) hL (t_X3_advance F t hL _ hc6) ?_
        refine nd_aload_n dX3_readPlan_46 2 rfl ?_
        refine nd_get dX3_readPlan_47 gf_X3_81 (sh_38 t) rfl ?_
        refine nd_istore_n (ls' := [(3, .int (σ5 38 12)), (2, .int (σ2 38 12)), (1, .int (σ 38 12)), (0, .ref 38)]) dX3_readPlan_50 (by decide) rfl ?_
        refine nd_aload_n dX3_readPlan_51 3 rfl ?_
        refine nd_iconst dX3_readPlan_52 ic_0 ?_
        refine nd_aload_n dX3_readPlan_53 3 rfl ?_
        refine nd_get dX3_readPlan_54 gf_X3_51 (sh_38 t) rfl ?_
        refine nd_iconst dX3_readPlan_57 ic_1 ?_
        refine nd_isub dX3_readPlan_58 ?_
        refine nd_iconst dX3_readPlan_59 ic_m1 ?_
        obtain ⟨r7, σ8, hc9, h⟩ := nd_bind_e h
        refine nd_cvi [.int (0 : Int32), .int ((σ5 38 6) - (1 : Int32)), .int (-1 : Int32)] [] dX3_readPlan_60 cl_X3_124 (sh_38 t) ⟨Nat.le_of_ble_eq_true rfl, Nat.le_of_ble_eq_true rfl⟩ rfl (Nat.le_of_ble_eq_true rfl) hL (t_X3_readNumber F t hL _ _ _ _ hc9) ?_
        refine nd_if_neN dX3_readPlan_63 68 (by decide) h (fun h => ?_) (fun h => ?_)
        · refine nd_aload_n dX3_readPlan_68 3 rfl ?_
          refine nd_get dX3_readPlan_69 gf_X3_81 (sh_38 t) rfl ?_
          refine nd_istore (ls' := [(4, .int (σ8 38 12)), (3, .int (σ5 38 12)), (2, .int (σ2 38 12)), (1, .int (σ 38 12)), (0, .ref 38)]) dX3_readPlan_72 (by decide) rfl ?_
          refine nd_iload_n dX3_readPlan_74 2 rfl ?_
          refine nd_iconst dX3_readPlan_75 ic_5 ?_
          refine nd_icmp_neN dX3_readPlan_76 93 (by decide) h (fun h => ?_) (fun h => ?_)
          · refine nd_sub [4, 3, 2, 1, 0] rfl ?_
            exact b_X3_readPlan_93 F t hL _ _ _ _ _ h
          · refine nd_aload_n dX3_readPlan_79 4 rfl ?_
            refine nd_iconst dX3_readPlan_80 ic_1 ?_
            refine nd_sipush dX3_readPlan_81 is_999 ?_
            refine nd_iconst dX3_readPlan_84 ic_m1 ?_
            obtain ⟨r10, σ11, hc12, h⟩ := nd_bind_e h
            refine nd_cvi [.int (1 : Int32), .int (999 : Int32), .int (-1 : Int32)] [] dX3_readPlan_85 cl_X3_124 (sh_38 t) ⟨Nat.le_of_ble_eq_true rfl, Nat.le_of_ble_eq_true rfl⟩ rfl (Nat.le_of_ble_eq_true rfl) hL (t_X3_readNumber F t hL _ _ _ _ hc12) ?_
            refine nd_if_neN dX3_readPlan_88 93 (by decide) h (fun h => ?_) (fun h => ?_)
            · refine nd_sub [4, 3, 2, 1, 0] rfl ?_
              exact b_X3_readPlan_93 F t hL _ _ _ _ _ h
            · refine nd_iconst dX3_readPlan_91 ic_0 ?_
              exact nd_iret dX3_readPlan_92 (Nat.zero_le _) (Nat.zero_le _) rfl (by cases h; exact ⟨rfl, rfl, rfl⟩)
        · refine nd_iconst dX3_readPlan_66 ic_0 ?_
          exact nd_iret dX3_readPlan_67 (Nat.zero_le _) (Nat.zero_le _) rfl (by cases h; exact ⟨rfl, rfl, rfl⟩)
      · refine nd_sub [2] rfl ?_
        exact b_X3_readPlan_36 F t hL _ h
  · refine nd_iconst dX3_readPlan_17 ic_0 ?_
    exact nd_iret dX3_readPlan_18 (Nat.zero_le _) (Nat.zero_le _) rfl (by cases h; exact ⟨rfl, rfl, rfl⟩)
def f_X3_readSide_27 (F : Nat) (σ : nd_Mem) : nd_Res := (some ((0 : Int32), σ))
def f_X3_readSide (F : Nat) (σ : nd_Mem) : nd_Res := (nd_bind (f_X3_readNumber F (0 : Int32) ((σ 38 6) - (1 : Int32)) (-1 : Int32) σ) fun r1 σ2 => (if r1 = 0 then (f_X3_readSide_27 F σ2) else (nd_bind (f_X3_readSecondWord F σ2) fun r4 σ5 => (if r4 = 0 then (f_X3_readSide_27 F σ5) else (nd_bind (f_X3_readNumber F (0 : Int32) (1 : Int32) (-1 : Int32) σ5) fun r7 σ8 => (if r7 = 0 then (some ((0 : Int32), σ8)) else (nd_bind (f_X5_addSide F 39 (σ 38 12) (σ5 38 12) σ8) fun r10 σ11 => (some ((1 : Int32), σ11)))))))))
set_option maxRecDepth 100000 in
set_option maxHeartbeats 4000000 in
theorem b_X3_readSide_27 (F : Nat) (t : List nd_S) (hL : (nd_SH ++ t).length < nd_ro) {z : Int32 × nd_Mem} (σ : nd_Mem) (h : f_X3_readSide_27 F σ = some z) : nd_V M_X3_readSide (nd_rm 2) (nd_Pi (nd_SH ++ t) z) 0 0 27 [(0, .ref 38)] [] (nd_SH ++ t) σ := by
  unfold f_X3_readSide_27 at h
  refine nd_iconst dX3_readSide_27 ic_0 ?_
  exact nd_iret dX3_readSide_28 (Nat.zero_le _) (Nat.zero_le _) rfl (by cases h; exact ⟨rfl, rfl, rfl⟩)
set_option maxRecDepth 100000 in
set_option maxHeartbeats 4000000 in
theorem t_X3_readSide (F : Nat) (t : List nd_S) (hL : (nd_SH ++ t).length < nd_ro) {z : Int32 × nd_Mem} (σ : nd_Mem) (h : f_X3_readSide F σ = some z) : nd_Fn M_X3_readSide (nd_rm 2) [.ref 38] (nd_SH ++ t) σ (nd_Pi (nd_SH ++ t) z) := by
  refine nd_Fn.ofV (ls := [(0, .ref 38)]) pl_X3_readSide rfl (fun _ => Nat.le_of_ble_eq_true rfl) (fun _ => rfl) ?_
  unfold f_X3_readSide at h
  refine nd_aload_n dX3_readSide_0 0 rfl ?_
  refine nd_get dX3_readSide_1 gf_X3_81 (sh_38 t) rfl ?_
  refine nd_istore_n (ls' := [(1, .int (σ 38 12)), (0, .ref 38)]) dX3_readSide_4 (by decide) rfl ?_
  refine nd_aload_n dX3_readSide_5 1 rfl ?_
  refine nd_iconst dX3_readSide_6 ic_0 ?_
  refine nd_aload_n dX3_readSide_7 1 rfl ?_
  refine nd_get dX3_readSide_8 gf_X3_51 (sh_38 t) rfl ?_
  refine nd_iconst dX3_readSide_11 ic_1 ?_
  refine nd_isub dX3_readSide_12 ?_
  refine nd_iconst dX3_readSide_13 ic_m1 ?_
  obtain ⟨r1, σ2, hc3, h⟩ := nd_bind_e h
  refine nd_cvi [.int (0 : Int32), .int ((σ 38 6) - (1 : Int32)), .int (-1 : Int32)] [] dX3_readSide_14 cl_X3_124 (sh_38 t) ⟨Nat.le_of_ble_eq_true rfl, Nat.le_of_ble_eq_true rfl⟩ rfl (Nat.le_of_ble_eq_true rfl) hL (t_X3_readNumber F t hL _ _ _ _ hc3) ?_
  refine nd_if_eqN dX3_readSide_17 27 (by decide) h (fun h => ?_) (fun h => ?_)
  · refine nd_sub [1] rfl ?_
    exact b_X3_readSide_27 F t hL _ h
  · refine nd_aload_n dX3_readSide_20 1 rfl ?_
    obtain ⟨r4, σ5, hc6, h⟩ := nd_bind_e h
    refine nd_cvi [] [] dX3_readSide_21 cl_X3_131 (sh_38 t) ⟨Nat.le_of_ble_eq_true rfl, Nat.le_of_ble_eq_true rfl⟩ rfl (Nat.le_of_ble_eq_true rfl) hL (t_X3_readSecondWord F t hL _ hc6) ?_
    refine nd_if_neN dX3_readSide_24 29 (by decide) h (fun h => ?_) (fun h => ?_)
    · refine nd_aload_n dX3_readSide_29 1 rfl ?_
      refine nd_get dX3_readSide_30 gf_X3_81 (sh_38 t) rfl ?_
      refine nd_istore_n (ls' := [(2, .int (σ5 38 12)), (1, .int (σ 38 12)), (0, .ref 38)]) dX3_readSide_33 (by decide) rfl ?_
      refine nd_aload_n dX3_readSide_34 2 rfl ?_
      refine nd_iconst dX3_readSide_35 ic_0 ?_
      refine nd_iconst dX3_readSide_36 ic_1 ?_
      refine nd_iconst dX3_readSide_37 ic_m1 ?_
      obtain ⟨r7, σ8, hc9, h⟩ := nd_bind_e h
      refine nd_cvi [.int (0 : Int32), .int (1 : Int32), .int (-1 : Int32)] [] dX3_readSide_38 cl_X3_124 (sh_38 t) ⟨Nat.le_of_ble_eq_true rfl, Nat.le_of_ble_eq_true rfl⟩ rfl (Nat.le_of_ble_eq_true rfl) hL (t_X3_readNumber F t hL _ _ _ _ hc9) ?_
      refine nd_if_neN dX3_readSide_41 46 (by decide) h (fun h => ?_) (fun h => ?_)
      · refine nd_aload_n dX3_readSide_46 2 rfl ?_
        refine nd_get dX3_readSide_47 gf_X3_12 (sh_38 t) rfl ?_
        refine nd_iload_n dX3_readSide_50 1 rfl ?_
        refine nd_iload_n dX3_readSide_51 0 rfl ?_
        obtain ⟨r10, σ11, hc12, h⟩ := nd_bind_e h
        refine nd_cvv [.int (σ 38 12), .int (σ5 38 12)] [] dX3_readSide_52 cl_X3_138 (sh_39 t) ⟨Nat.le_of_ble_eq_true rfl, Nat.le_of_ble_eq_true rfl⟩ rfl (Nat.le_of_ble_eq_true rfl) hL (t_X5_addSide F 39 (nd_SH ++ t) hL (is_Rules_39 t) _ _ _ hc12) ?_
        refine nd_iconst dX3_readSide_55 ic_1 ?_
        exact nd_iret dX3_readSide_56 (Nat.zero_le _) (Nat.zero_le _) rfl (by cases h; exact ⟨rfl, rfl, rfl⟩)
      · refine nd_iconst dX3_readSide_44 ic_0 ?_
        exact nd_iret dX3_readSide_45 (Nat.zero_le _) (Nat.zero_le _) rfl (by cases h; exact ⟨rfl, rfl, rfl⟩)
    · refine nd_sub [1] rfl ?_
      exact b_X3_readSide_27 F t hL _ h
def f_X3_sortOf_24 (F : Nat) (σ : nd_Mem) : nd_Res := (some ((1 : Int32), σ))
def f_X3_sortOf_52 (F : Nat) (σ : nd_Mem) : nd_Res := (some ((5 : Int32), σ))
def f_X3_sortOf_40 (F : Nat) (x0 : Int32) (σ : nd_Mem) : nd_Res := (if x0 = (32 : Int32) then (f_X3_sortOf_52 F σ) else (if x0 = (10 : Int32) then (f_X3_sortOf_52 F σ) else (nd_bind (f_J0_indexOf_0f7a4 F 4 ((x0).toUInt32 % 65536).toInt32 σ) fun r1 σ2 => (if 0 ≤ r1 then (some ((3 : Int32), σ2)) else (some ((4 : Int32), σ2))))))
def f_X3_sortOf_26 (F : Nat) (x0 : Int32) (σ : nd_Mem) : nd_Res := (if x0 < (48 : Int32) then (f_X3_sortOf_40 F x0 σ) else (if (57 : Int32) < x0 then (f_X3_sortOf_40 F x0 σ) else (some ((2 : Int32), σ))))
def f_X3_sortOf_12 (F : Nat) (x0 : Int32) (σ : nd_Mem) : nd_Res := (if x0 < (65 : Int32) then (f_X3_sortOf_26 F x0 σ) else (if (90 : Int32) < x0 then (f_X3_sortOf_26 F x0 σ) else (f_X3_sortOf_24 F σ)))
def f_X3_sortOf (F : Nat) (x0 : Int32) (σ : nd_Mem) : nd_Res := (if x0 < (97 : Int32) then (f_X3_sortOf_12 F x0 σ) else (if x0 ≤ (122 : Int32) then (f_X3_sortOf_24 F σ) else (f_X3_sortOf_12 F x0 σ)))
set_option maxRecDepth 100000 in
set_option maxHeartbeats 4000000 in
theorem b_X3_sortOf_24 (F : Nat) (sh : List nd_S) (hL : sh.length < nd_ro) {z : Int32 × nd_Mem} (σ : nd_Mem) (h : f_X3_sortOf_24 F σ = some z) : nd_V M_X3_sortOf (nd_rm 4) (nd_Pi sh z) 0 0 24 [] [] sh σ := by
  unfold f_X3_sortOf_24 at h
  refine nd_iconst dX3_sortOf_24 ic_1 ?_
  exact nd_iret dX3_sortOf_25 (Nat.zero_le _) (Nat.zero_le _) (vp_nar_int _) (by cases h; exact ⟨rfl, rfl, rfl⟩)
set_option maxRecDepth 100000 in
set_option maxHeartbeats 4000000 in
theorem b_X3_sortOf_52 (F : Nat) (sh : List nd_S) (hL : sh.length < nd_ro) {z : Int32 × nd_Mem} (σ : nd_Mem) (h : f_X3_sortOf_52 F σ = some z) : nd_V M_X3_sortOf (nd_rm 4) (nd_Pi sh z) 0 0 52 [] [] sh σ := by
  unfold f_X3_sortOf_52 at h
  refine nd_iconst dX3_sortOf_52 ic_5 ?_
  exact nd_iret dX3_sortOf_53 (Nat.zero_le _) (Nat.zero_le _) (vp_nar_int _) (by cases h; exact ⟨rfl, rfl, rfl⟩)
set_option maxRecDepth 100000 in
set_option maxHeartbeats 4000000 in
theorem b_X3_sortOf_40 (F : Nat) (sh : List nd_S) (hL : sh.length < nd_ro) {z : Int32 × nd_Mem} (x0 : Int32) (σ : nd_Mem) (h : f_X3_sortOf_40 F x0 σ = some z) : nd_V M_X3_sortOf (nd_rm 4) (nd_Pi sh z) 0 0 40 [(0, .int x0)] [] sh σ := by
  unfold f_X3_sortOf_40 at h
  refine nd_iload_n dX3_sortOf_40 0 rfl ?_
  refine nd_bipush dX3_sortOf_41 ib_32 ?_
  refine nd_icmp_eqN dX3_sortOf_43 52 (by decide) h (fun h => ?_) (fun h => ?_)
  · refine nd_sub [] rfl ?_
    exact b_X3_sortOf_52 F sh hL _ h
  · refine nd_iload_n dX3_sortOf_46 0 rfl ?_
    refine nd_bipush dX3_sortOf_47 ib_10 ?_
    refine nd_icmp_neN dX3_sortOf_49 54 (by decide) h (fun h => ?_) (fun h => ?_)
    · refine nd_ldcS 4 (by decide) dX3_sortOf_54 rfl rfl ?_
      refine nd_iload_n dX3_sortOf_56 0 rfl ?_
      refine nd_i2c dX3_sortOf_57 ?_
      obtain ⟨r1, σ2, hc3, h⟩ := nd_bind_e h
      refine nd_cti [.int ((x0).toUInt32 % 65536).toInt32] [] (by decide) dX3_sortOf_58 cl_X3_194 ⟨Nat.le_of_ble_eq_true rfl, Nat.le_of_ble_eq_true rfl⟩ rfl (Nat.le_of_ble_eq_true rfl) hL (t_J0_indexOf_0f7a4 F 4 sh hL (by decide) _ _ hc3) ?_
      refine nd_if_geN dX3_sortOf_61 68 (by decide) h (fun h => ?_) (fun h => ?_)
      · refine nd_iconst dX3_sortOf_68 ic_3 ?_
        exact nd_iret dX3_sortOf_69 (Nat.zero_le _) (Nat.zero_le _) (vp_nar_int _) (by cases h; exact ⟨rfl, rfl, rfl⟩)
      · refine nd_iconst dX3_sortOf_64 ic_4 ?_
        refine nd_goto dX3_sortOf_65 69 (by decide) ?_
        exact nd_iret dX3_sortOf_69 (Nat.zero_le _) (Nat.zero_le _) (vp_nar_int _) (by cases h; exact ⟨rfl, rfl, rfl⟩)
    · refine nd_sub [] rfl ?_
      exact b_X3_sortOf_52 F sh hL _ h
set_option maxRecDepth 100000 in
set_option maxHeartbeats 4000000 in
theorem b_X3_sortOf_26 (F : Nat) (sh : List nd_S) (hL : sh.length < nd_ro) {z : Int32 × nd_Mem} (x0 : Int32) (σ : nd_Mem) (h : f_X3_sortOf_26 F x0 σ = some z) : nd_V M_X3_sortOf (nd_rm 4) (nd_Pi sh z) 0 0 26 [(0, .int x0)] [] sh σ := by
  unfold f_X3_sortOf_26 at h
  refine nd_iload_n dX3_sortOf_26 0 rfl ?_
  refine nd_bipush dX3_sortOf_27 ib_48 ?_
  refine nd_icmp_ltN dX3_sortOf_29 40 (by decide) h (fun h => ?_) (fun h => ?_)
  · exact b_X3_sortOf_40 F sh hL _ _ h
  · refine nd_iload_n dX3_sortOf_32 0 rfl ?_
    refine nd_bipush dX3_sortOf_33 ib_57 ?_
    refine nd_icmp_gtN dX3_sortOf_35 40 (by decide) h (fun h => ?_) (fun h => ?_)
    · exact b_X3_sortOf_40 F sh hL _ _ h
    · refine nd_iconst dX3_sortOf_38 ic_2 ?_
      exact nd_iret dX3_sortOf_39 (Nat.zero_le _) (Nat.zero_le _) (vp_nar_int _) (by cases h; exact ⟨rfl, rfl, rfl⟩)
set_option maxRecDepth 100000 in
set_option maxHeartbeats 4000000 in
theorem b_X3_sortOf_12 (F : Nat) (sh : List nd_S) (hL : sh.length < nd_ro) {z : Int32 × nd_Mem} (x0 : Int32) (σ : nd_Mem) (h : f_X3_sortOf_12 F x0 σ = some z) : nd_V M_X3_sortOf (nd_rm 4) (nd_Pi sh z) 0 0 12 [(0, .int x0)] [] sh σ := by
  unfold f_X3_sortOf_12 at h
  refine nd_iload_n dX3_sortOf_12 0 rfl ?_
  refine nd_bipush dX3_sortOf_13 ib_65 ?_
  refine nd_icmp_ltN dX3_sortOf_15 26 (by decide) h (fun h => ?_) (fun h => ?_)
  · exact b_X3_sortOf_26 F sh hL _ _ h
  · refine nd_iload_n dX3_sortOf_18 0 rfl ?_
    refine nd_bipush dX3_sortOf_19 ib_90 ?_
    refine nd_icmp_gtN dX3_sortOf_21 26 (by decide) h (fun h => ?_) (fun h => ?_)
    · exact b_X3_sortOf_26 F sh hL _ _ h
    · refine nd_sub [] rfl ?_
      exact b_X3_sortOf_24 F sh hL _ h
set_option maxRecDepth 100000 in
set_option maxHeartbeats 4000000 in
theorem t_X3_sortOf (F : Nat) (sh : List nd_S) (hL : sh.length < nd_ro) {z : Int32 × nd_Mem} (x0 : Int32) (σ : nd_Mem) (h : f_X3_sortOf F x0 σ = some z) : nd_Fn M_X3_sortOf (nd_rm 4) [.int x0] sh σ (nd_Pi sh z) := by
  refine nd_Fn.ofV (ls := [(0, .int x0)]) pl_X3_sortOf rfl (fun _ => Nat.le_of_ble_eq_true rfl) (fun _ => rfl) ?_
  unfold f_X3_sortOf at h
  refine nd_iload_n dX3_sortOf_0 0 rfl ?_
  refine nd_bipush dX3_sortOf_1 ib_97 ?_
  refine nd_icmp_ltN dX3_sortOf_3 12 (by decide) h (fun h => ?_) (fun h => ?_)
  · exact b_X3_sortOf_12 F sh hL _ _ h
  · refine nd_iload_n dX3_sortOf_6 0 rfl ?_
    refine nd_bipush dX3_sortOf_7 ib_122 ?_
    refine nd_icmp_leN dX3_sortOf_9 24 (by decide) h (fun h => ?_) (fun h => ?_)
    · refine nd_sub [] rfl ?_
      exact b_X3_sortOf_24 F sh hL _ h
    · exact b_X3_sortOf_12 F sh hL _ _ h
def f_X3_wordNumber_102 (F : Nat) (rec11 : Int32 → Int32 → Int32 → Int32 → Int32 → Int32 → nd_Mem → nd_Res) (x1 : Int32) (x2 : Int32) (x3 : Int32) (x4 : Int32) (x5 : Int32) (x6 : Int32) (σ : nd_Mem) : nd_Res := (rec11 x1 x2 x3 x4 x5 (x6 + (1 : Int32)) σ)
def f_X3_wordNumber_72 (F : Nat) (rec11 : Int32 → Int32 → Int32 → Int32 → Int32 → Int32 → nd_Mem → nd_Res) (x1 : Int32) (x2 : Int32) (x3 : Int32) (x4 : Int32) (x6 : Int32) (s0 : Int32) (σ : nd_Mem) : nd_Res := (f_X3_wordNumber_102 F rec11 x1 x2 x3 (x4 + (1 : Int32)) s0 x6 σ)
def f_X3_wordNumber_71 (F : Nat) (rec11 : Int32 → Int32 → Int32 → Int32 → Int32 → Int32 → nd_Mem → nd_Res) (x1 : Int32) (x2 : Int32) (x3 : Int32) (x4 : Int32) (x6 : Int32) (σ : nd_Mem) : nd_Res := (f_X3_wordNumber_72 F rec11 x1 x2 x3 x4 x6 (0 : Int32) σ)
def f_X3_wordNumber_93 (F : Nat) (rec11 : Int32 → Int32 → Int32 → Int32 → Int32 → Int32 → nd_Mem → nd_Res) (x1 : Int32) (x2 : Int32) (x3 : Int32) (x6 : Int32) (σ : nd_Mem) : nd_Res := (f_X3_wordNumber_102 F rec11 x1 x2 (x3 + (1 : Int32)) x1 (1 : Int32) x6 σ)
def f_X3_wordNumber_123 (F : Nat) (σ : nd_Mem) : nd_Res := (some ((-1 : Int32), σ))
def f_X3_wordNumber_11_b (F : Nat) (rec11 : Int32 → Int32 → Int32 → Int32 → Int32 → Int32 → nd_Mem → nd_Res) (x1 : Int32) (x2 : Int32) (x3 : Int32) (x4 : Int32) (x5 : Int32) (x6 : Int32) (σ : nd_Mem) : nd_Res := (if 5 ≤ (σ 38 5).toNatClampNeg then none else (nd_bind (f_J0_length_8abf5 F (σ 38 5).toNatClampNeg σ) fun r2 σ3 => (if r2 ≤ x6 then (if x5 = 0 then (f_X3_wordNumber_123 F σ3) else (if x4 = x2 then (some (x3, σ3)) else (f_X3_wordNumber_123 F σ3))) else (if 5 ≤ (σ3 38 5).toNatClampNeg then none else (nd_bind (f_J0_charAt_5068e F (σ3 38 5).toNatClampNeg x6 σ3) fun r6 σ7 => (if r6 = (32 : Int32) then (if x5 = 0 then (f_X3_wordNumber_93 F rec11 x1 x2 x3 x6 σ7) else (if x4 = x2 then (some (x3, σ7)) else (f_X3_wordNumber_93 F rec11 x1 x2 x3 x6 σ7))) else (if x5 = 0 then (f_X3_wordNumber_71 F rec11 x1 x2 x3 x4 x6 σ7) else (if x2 ≤ x4 then (f_X3_wordNumber_71 F rec11 x1 x2 x3 x4 x6 σ7) else (if x4 < 0 ∨ 400 ≤ (x4).toNatClampNeg then none else (if 5 ≤ (σ7 38 5).toNatClampNeg then none else (nd_bind (f_J0_charAt_5068e F (σ7 38 5).toNatClampNeg x6 σ7) fun r10 σ11 => (if (σ7 47 (x4).toNatClampNeg) = r10 then (f_X3_wordNumber_72 F rec11 x1 x2 x3 x4 x6 (1 : Int32) σ11) else (f_X3_wordNumber_71 F rec11 x1 x2 x3 x4 x6 σ11)))))))))))))
def f_X3_wordNumber_11 (F : Nat) : Nat → Int32 → Int32 → Int32 → Int32 → Int32 → Int32 → nd_Mem → nd_Res
  | 0, _, _, _, _, _, _, _ => none
  | m9 + 1, x1, x2, x3, x4, x5, x6, σ => f_X3_wordNumber_11_b F (f_X3_wordNumber_11 F m9) x1 x2 x3 x4 x5 x6 σ
def f_X3_wordNumber (F : Nat) (x1 : Int32) (x2 : Int32) (σ : nd_Mem) : nd_Res := (f_X3_wordNumber_11 F F x1 x2 (0 : Int32) x1 (1 : Int32) (0 : Int32) σ)
set_option maxRecDepth 100000 in
set_option maxHeartbeats 4000000 in
theorem b_X3_wordNumber_102 (F : Nat) (rec11 : Int32 → Int32 → Int32 → Int32 → Int32 → Int32 → nd_Mem → nd_Res) (t : List nd_S) (hL : (nd_SH ++ t).length < nd_ro) {z : Int32 × nd_Mem} (hrec11 : ∀ (x1 : Int32) (x2 : Int32) (x3 : Int32) (x4 : Int32) (x5 : Int32) (x6 : Int32) (σ : nd_Mem), rec11 x1 x2 x3 x4 x5 x6 σ = some z → nd_V M_X3_wordNumber (nd_rm 4) (nd_Pi (nd_SH ++ t) z) 0 0 11 [(0, .ref 38), (1, .int x1), (2, .int x2), (3, .int x3), (4, .int x4), (5, .int x5), (6, .int x6)] [] (nd_SH ++ t) σ) (x1 : Int32) (x2 : Int32) (x3 : Int32) (x4 : Int32) (x5 : Int32) (x6 : Int32) (σ : nd_Mem) (h : f_X3_wordNumber_102 F rec11 x1 x2 x3 x4 x5 x6 σ = some z) : nd_V M_X3_wordNumber (nd_rm 4) (nd_Pi (nd_SH ++ t) z) 0 0 102 [(0, .ref 38), (1, .int x1), (2, .int x2), (3, .int x3), (4, .int x4), (5, .int x5), (6, .int x6)] [] (nd_SH ++ t) σ := by
  unfold f_X3_wordNumber_102 at h
  refine nd_iinc (v := (x6 + (1 : Int32))) (ls' := [(6, .int (x6 + (1 : Int32))), (0, .ref 38), (1, .int x1), (2, .int x2), (3, .int x3), (4, .int x4), (5, .int x5)]) dX3_wordNumber_102 6 rfl (congrArg (HAdd.hAdd _) ic_1) (by decide) rfl ?_
  refine nd_goto dX3_wordNumber_105 11 (by decide) ?_
  refine nd_sub [1, 2, 3, 4, 5, 6, 0] rfl ?_
  exact hrec11 _ _ _ _ _ _ _ h
set_option maxRecDepth 100000 in
set_option maxHeartbeats 4000000 in
theorem b_X3_wordNumber_72 (F : Nat) (rec11 : Int32 → Int32 → Int32 → Int32 → Int32 → Int32 → nd_Mem → nd_Res) (t : List nd_S) (hL : (nd_SH ++ t).length < nd_ro) {z : Int32 × nd_Mem} (hrec11 : ∀ (x1 : Int32) (x2 : Int32) (x3 : Int32) (x4 : Int32) (x5 : Int32) (x6 : Int32) (σ : nd_Mem), rec11 x1 x2 x3 x4 x5 x6 σ = some z → nd_V M_X3_wordNumber (nd_rm 4) (nd_Pi (nd_SH ++ t) z) 0 0 11 [(0, .ref 38), (1, .int x1), (2, .int x2), (3, .int x3), (4, .int x4), (5, .int x5), (6, .int x6)] [] (nd_SH ++ t) σ) (x1 : Int32) (x2 : Int32) (x3 : Int32) (x4 : Int32) (x6 : Int32) (s0 : Int32) (σ : nd_Mem) (h : f_X3_wordNumber_72 F rec11 x1 x2 x3 x4 x6 s0 σ = some z) : nd_V M_X3_wordNumber (nd_rm 4) (nd_Pi (nd_SH ++ t) z) 0 0 72 [(0, .ref 38), (1, .int x1), (2, .int x2), (3, .int x3), (4, .int x4), (6, .int x6)] [.int s0] (nd_SH ++ t) σ := by
  unfold f_X3_wordNumber_72 at h
  refine nd_istore (ls' := [(5, .int s0), (0, .ref 38), (1, .int x1), (2, .int x2), (3, .int x3), (4, .int x4), (6, .int x6)]) dX3_wordNumber_72 (by decide) rfl ?_
  refine nd_iinc (v := (x4 + (1 : Int32))) (ls' := [(4, .int (x4 + (1 : Int32))), (5, .int s0), (0, .ref 38), (1, .int x1), (2, .int x2), (3, .int x3), (6, .int x6)]) dX3_wordNumber_74 5 rfl (congrArg (HAdd.hAdd _) ic_1) (by decide) rfl ?_
  refine nd_goto dX3_wordNumber_77 102 (by decide) ?_
  refine nd_sub [2, 3, 4, 5, 0, 1, 6] rfl ?_
  exact b_X3_wordNumber_102 F _ t hL hrec11 _ _ _ _ _ _ _ h
set_option maxRecDepth 100000 in
set_option maxHeartbeats 4000000 in
theorem b_X3_wordNumber_71 (F : Nat) (rec11 : Int32 → Int32 → Int32 → Int32 → Int32 → Int32 → nd_Mem → nd_Res) (t : List nd_S) (hL : (nd_SH ++ t).length < nd_ro) {z : Int32 × nd_Mem} (hrec11 : ∀ (x1 : Int32) (x2 : Int32) (x3 : Int32) (x4 : Int32) (x5 : Int32) (x6 : Int32) (σ : nd_Mem), rec11 x1 x2 x3 x4 x5 x6 σ = some z → nd_V M_X3_wordNumber (nd_rm 4) (nd_Pi (nd_SH ++ t) z) 0 0 11 [(0, .ref 38), (1, .int x1), (2, .int x2), (3, .int x3), (4, .int x4), (5, .int x5), (6, .int x6)] [] (nd_SH ++ t) σ) (x1 : Int32) (x2 : Int32) (x3 : Int32) (x4 : Int32) (x6 : Int32) (σ : nd_Mem) (h : f_X3_wordNumber_71 F rec11 x1 x2 x3 x4 x6 σ = some z) : nd_V M_X3_wordNumber (nd_rm 4) (nd_Pi (nd_SH ++ t) z) 0 0 71 [(0, .ref 38), (1, .int x1), (2, .int x2), (3, .int x3), (4, .int x4), (6, .int x6)] [] (nd_SH ++ t) σ := by
  unfold f_X3_wordNumber_71 at h
  refine nd_iconst dX3_wordNumber_71 ic_0 ?_
  exact b_X3_wordNumber_72 F _ t hL hrec11 _ _ _ _ _ _ _ h
set_option maxRecDepth 100000 in
set_option maxHeartbeats 4000000 in
theorem b_X3_wordNumber_93 (F : Nat) (rec11 : Int32 → Int32 → Int32 → Int32 → Int32 → Int32 → nd_Mem → nd_Res) (t : List nd_S) (hL : (nd_SH ++ t).length < nd_ro) {z : Int32 × nd_Mem} (hrec11 : ∀ (x1 : Int32) (x2 : Int32) (x3 : Int32) (x4 : Int32) (x5 : Int32) (x6 : Int32) (σ : nd_Mem), rec11 x1 x2 x3 x4 x5 x6 σ = some z → nd_V M_X3_wordNumber (nd_rm 4) (nd_Pi (nd_SH ++ t) z) 0 0 11 [(0, .ref 38), (1, .int x1), (2, .int x2), (3, .int x3), (4, .int x4), (5, .int x5), (6, .int x6)] [] (nd_SH ++ t) σ) (x1 : Int32) (x2 : Int32) (x3 : Int32) (x6 : Int32) (σ : nd_Mem) (h : f_X3_wordNumber_93 F rec11 x1 x2 x3 x6 σ = some z) : nd_V M_X3_wordNumber (nd_rm 4) (nd_Pi (nd_SH ++ t) z) 0 0 93 [(0, .ref 38), (1, .int x1), (2, .int x2), (3, .int x3), (6, .int x6)] [] (nd_SH ++ t) σ := by
  unfold f_X3_wordNumber_93 at h
  refine nd_iinc (v := (x3 + (1 : Int32))) (ls' := [(3, .int (x3 + (1 : Int32))), (0, .ref 38), (1, .int x1), (2, .int x2), (6, .int x6)]) dX3_wordNumber_93 3 rfl (congrArg (HAdd.hAdd _) ic_1) (by decide) rfl ?_
  refine nd_iload_n dX3_wordNumber_96 2 rfl ?_
  refine nd_istore (ls' := [(4, .int x1), (3, .int (x3 + (1 : Int32))), (0, .ref 38), (1, .int x1), (2, .int x2), (6, .int x6)]) dX3_wordNumber_97 (by decide) rfl ?_
  refine nd_iconst dX3_wordNumber_99 ic_1 ?_
  refine nd_istore (ls' := [(5, .int (1 : Int32)), (4, .int x1), (3, .int (x3 + (1 : Int32))), (0, .ref 38), (1, .int x1), (2, .int x2), (6, .int x6)]) dX3_wordNumber_100 (by decide) rfl ?_
  refine nd_sub [3, 4, 5, 2, 1, 0, 6] rfl ?_
  exact b_X3_wordNumber_102 F _ t hL hrec11 _ _ _ _ _ _ _ h
set_option maxRecDepth 100000 in
set_option maxHeartbeats 4000000 in
theorem b_X3_wordNumber_123 (F : Nat) (t : List nd_S) (hL : (nd_SH ++ t).length < nd_ro) {z : Int32 × nd_Mem} (σ : nd_Mem) (h : f_X3_wordNumber_123 F σ = some z) : nd_V M_X3_wordNumber (nd_rm 4) (nd_Pi (nd_SH ++ t) z) 0 0 123 [(0, .ref 38)] [] (nd_SH ++ t) σ := by
  unfold f_X3_wordNumber_123 at h
  refine nd_iconst dX3_wordNumber_123 ic_m1 ?_
  exact nd_iret dX3_wordNumber_124 (Nat.zero_le _) (Nat.zero_le _) (vp_nar_int _) (by cases h; exact ⟨rfl, rfl, rfl⟩)
set_option maxRecDepth 100000 in
set_option maxHeartbeats 4000000 in
theorem b_X3_wordNumber_11 (F : Nat) (t : List nd_S) (hL : (nd_SH ++ t).length < nd_ro) {z : Int32 × nd_Mem} (m9 : Nat) : ∀ (x1 : Int32) (x2 : Int32) (x3 : Int32) (x4 : Int32) (x5 : Int32) (x6 : Int32) (σ : nd_Mem), f_X3_wordNumber_11 F m9 x1 x2 x3 x4 x5 x6 σ = some z → nd_V M_X3_wordNumber (nd_rm 4) (nd_Pi (nd_SH ++ t) z) 0 0 11 [(0, .ref 38), (1, .int x1), (2, .int x2), (3, .int x3), (4, .int x4), (5, .int x5), (6, .int x6)] [] (nd_SH ++ t) σ := by
  induction m9 with
  | zero =>
    intro x1 x2 x3 x4 x5 x6 σ h
    have h : none = some z := h
    cases h
  | succ m9 hrec11 =>
    intro x1 x2 x3 x4 x5 x6 σ h
    have h : f_X3_wordNumber_11_b F (f_X3_wordNumber_11 F m9) x1 x2 x3 x4 x5 x6 σ = some z := h
    unfold f_X3_wordNumber_11_b at h
    refine nd_iload dX3_wordNumber_11 6 rfl ?_
    refine nd_aload_n dX3_wordNumber_13 0 rfl ?_
    refine nd_get dX3_wordNumber_14 gf_X3_37 (sh_38 t) rfl ?_
    have hw1 := nd_no_e h
    have h := hw1.2
    have hw1 := Nat.not_le.mp hw1.1
    obtain ⟨r2, σ3, hc4, h⟩ := nd_bind_e h
    refine nd_cti [] [.int x6] hw1 dX3_wordNumber_17 cl_X3_182 ⟨Nat.le_of_ble_eq_true rfl, Nat.le_of_ble_eq_true rfl⟩ rfl (Nat.le_of_ble_eq_true rfl) hL (t_J0_length_8abf5 F (σ 38 5).toNatClampNeg (nd_SH ++ t) hL hw1 _ hc4) ?_
    refine nd_icmp_geN dX3_wordNumber_20 108 (by decide) h (fun h => ?_) (fun h => ?_)
    · refine nd_iload dX3_wordNumber_108 5 rfl ?_
      refine nd_if_eqN dX3_wordNumber_110 123 (by decide) h (fun h => ?_) (fun h => ?_)
      · refine nd_sub [0] rfl ?_
        exact b_X3_wordNumber_123 F t hL _ h
      · refine nd_iload dX3_wordNumber_113 4 rfl ?_
        refine nd_iload_n dX3_wordNumber_115 2 rfl ?_
        refine nd_icmp_neN dX3_wordNumber_116 123 (by decide) h (fun h => ?_) (fun h => ?_)
        · refine nd_sub [0] rfl ?_
          exact b_X3_wordNumber_123 F t hL _ h
        · refine nd_iload_n dX3_wordNumber_119 3 rfl ?_
          refine nd_goto dX3_wordNumber_120 124 (by decide) ?_
          exact nd_iret dX3_wordNumber_124 (Nat.zero_le _) (Nat.zero_le _) (vp_nar_int _) (by cases h; exact ⟨rfl, rfl, rfl⟩)
    · refine nd_aload_n dX3_wordNumber_23 0 rfl ?_
      refine nd_get dX3_wordNumber_24 gf_X3_37 (sh_38 t) rfl ?_
      have hw5 := nd_no_e h
      have h := hw5.2
      have hw5 := Nat.not_le.mp hw5.1
      refine nd_iload dX3_wordNumber_27 6 rfl ?_
      obtain ⟨r6, σ7, hc8, h⟩ := nd_bind_e h
      refine nd_cti [.int x6] [] hw5 dX3_wordNumber_29 cl_X3_188 ⟨Nat.le_of_ble_eq_true rfl, Nat.le_of_ble_eq_true rfl⟩ rfl (Nat.le_of_ble_eq_true rfl) hL (t_J0_charAt_5068e F (σ3 38 5).toNatClampNeg (nd_SH ++ t) hL hw5 _ _ hc8) ?_
      refine nd_bipush dX3_wordNumber_32 ib_32 ?_
      refine nd_icmp_eqN dX3_wordNumber_34 80 (by decide) h (fun h => ?_) (fun h => ?_)
      · refine nd_iload dX3_wordNumber_80 5 rfl ?_
        refine nd_if_eqN dX3_wordNumber_82 93 (by decide) h (fun h => ?_) (fun h => ?_)
        · refine nd_sub [0, 1, 2, 3, 6] rfl ?_
          exact b_X3_wordNumber_93 F _ t hL hrec11 _ _ _ _ _ h
        · refine nd_iload dX3_wordNumber_85 4 rfl ?_
          refine nd_iload_n dX3_wordNumber_87 2 rfl ?_
          refine nd_icmp_neN dX3_wordNumber_88 93 (by decide) h (fun h => ?_) (fun h => ?_)
          · refine nd_sub [0, 1, 2, 3, 6] rfl ?_
            exact b_X3_wordNumber_93 F _ t hL hrec11 _ _ _ _ _ h
          · refine nd_iload_n dX3_wordNumber_91 3 rfl ?_
            exact nd_iret dX3_wordNumber_92 (Nat.zero_le _) (Nat.zero_le _) (vp_nar_int _) (by cases h; exact ⟨rfl, rfl, rfl⟩)
      · refine nd_iload dX3_wordNumber_37 5 rfl ?_
        refine nd_if_eqN dX3_wordNumber_39 71 (by decide) h (fun h => ?_) (fun h => ?_)
        · refine nd_sub [0, 1, 2, 3, 4, 6] rfl ?_
          exact b_X3_wordNumber_71 F _ t hL hrec11 _ _ _ _ _ _ h
        · refine nd_iload dX3_wordNumber_42 4 rfl ?_
          refine nd_iload_n dX3_wordNumber_44 2 rfl ?_
          refine nd_icmp_geN dX3_wordNumber_45 71 (by decide) h (fun h => ?_) (fun h => ?_)
          · refine nd_sub [0, 1, 2, 3, 4, 6] rfl ?_
            exact b_X3_wordNumber_71 F _ t hL hrec11 _ _ _ _ _ _ h
          · refine nd_aload_n dX3_wordNumber_48 0 rfl ?_
            refine nd_get dX3_wordNumber_49 gf_X3_18 (sh_38 t) rfl ?_
            refine nd_iload dX3_wordNumber_52 4 rfl ?_
            refine nd_ialoadN dX3_wordNumber_54 (sh_47 t) h (fun h => ?_)
            refine nd_aload_n dX3_wordNumber_55 0 rfl ?_
            refine nd_get dX3_wordNumber_56 gf_X3_37 (sh_38 t) rfl ?_
            have hw9 := nd_no_e h
            have h := hw9.2
            have hw9 := Nat.not_le.mp hw9.1
            refine nd_iload dX3_wordNumber_59 6 rfl ?_
            obtain ⟨r10, σ11, hc12, h⟩ := nd_bind_e h
            refine nd_cti [.int x6] [.int (σ7 47 (x4).toNatClampNeg)] hw9 dX3_wordNumber_61 cl_X3_188 ⟨Nat.le_of_ble_eq_true rfl, Nat.le_of_ble_eq_true rfl⟩ rfl (Nat.le_of_ble_eq_true rfl) hL (t_J0_charAt_5068e F (σ7 38 5).toNatClampNeg (nd_SH ++ t) hL hw9 _ _ hc12) ?_
            refine nd_icmp_neN dX3_wordNumber_64 71 (by decide) h (fun h => ?_) (fun h => ?_)
            · refine nd_sub [0, 1, 2, 3, 4, 6] rfl ?_
              exact b_X3_wordNumber_71 F _ t hL hrec11 _ _ _ _ _ _ h
            · refine nd_iconst dX3_wordNumber_67 ic_1 ?_
              refine nd_goto dX3_wordNumber_68 72 (by decide) ?_
              refine nd_sub [0, 1, 2, 3, 4, 6] rfl ?_
              exact b_X3_wordNumber_72 F _ t hL hrec11 _ _ _ _ _ _ _ h
set_option maxRecDepth 100000 in
set_option maxHeartbeats 4000000 in
theorem t_X3_wordNumber (F : Nat) (t : List nd_S) (hL : (nd_SH ++ t).length < nd_ro) {z : Int32 × nd_Mem} (x1 : Int32) (x2 : Int32) (σ : nd_Mem) (h : f_X3_wordNumber F x1 x2 σ = some z) : nd_Fn M_X3_wordNumber (nd_rm 4) [.ref 38, .int x1, .int x2] (nd_SH ++ t) σ (nd_Pi (nd_SH ++ t) z) := by
  refine nd_Fn.ofV (ls := [(0, .ref 38), (1, .int x1), (2, .int x2)]) pl_X3_wordNumber rfl (fun _ => Nat.le_of_ble_eq_true rfl) (fun _ => rfl) ?_
  unfold f_X3_wordNumber at h
  refine nd_iconst dX3_wordNumber_0 ic_0 ?_
  refine nd_istore_n (ls' := [(3, .int (0 : Int32)), (0, .ref 38), (1, .int x1), (2, .int x2)]) dX3_wordNumber_1 (by decide) rfl ?_
  refine nd_iload_n dX3_wordNumber_2 2 rfl ?_
  refine nd_istore (ls' := [(4, .int x1), (3, .int (0 : Int32)), (0, .ref 38), (1, .int x1), (2, .int x2)]) dX3_wordNumber_3 (by decide) rfl ?_
  refine nd_iconst dX3_wordNumber_5 ic_1 ?_
  refine nd_istore (ls' := [(5, .int (1 : Int32)), (4, .int x1), (3, .int (0 : Int32)), (0, .ref 38), (1, .int x1), (2, .int x2)]) dX3_wordNumber_6 (by decide) rfl ?_
  refine nd_iconst dX3_wordNumber_8 ic_0 ?_
  refine nd_istore (ls' := [(6, .int (0 : Int32)), (5, .int (1 : Int32)), (4, .int x1), (3, .int (0 : Int32)), (0, .ref 38), (1, .int x1), (2, .int x2)]) dX3_wordNumber_9 (by decide) rfl ?_
  refine nd_sub [4, 5, 6, 3, 2, 1, 0] rfl ?_
  exact b_X3_wordNumber_11 F t hL F _ _ _ _ _ _ _ h
def f_X3_findToken_87 (F : Nat) (x1 : Int32) (x4 : Int32) (s0 : Int32) (σ : nd_Mem) : nd_Res := (nd_bind (f_X3_addToken F s0 x4 x1 σ) fun r1 σ2 => (some (0, σ2)))
def f_X3_findToken_75 (F : Nat) (x1 : Int32) (x2 : Int32) (x4 : Int32) (σ : nd_Mem) : nd_Res := (if x4 = (-1 : Int32) then (f_X3_findToken_87 F x1 x4 (4 : Int32) σ) else (f_X3_findToken_87 F x1 x4 x2 σ))
def f_X3_findToken_38 (F : Nat) (x1 : Int32) (x2 : Int32) (x3 : Int32) (σ : nd_Mem) : nd_Res := (if x1 < 0 ∨ 400 ≤ (x1).toNatClampNeg then none else (if x2 = (1 : Int32) then (nd_bind (f_X3_wordNumber F x1 x3 σ) fun r4 σ5 => (f_X3_findToken_75 F x1 x2 r4 σ5)) else (if x2 = (2 : Int32) then (nd_bind (f_X3_numberOf F x1 x3 σ) fun r1 σ2 => (f_X3_findToken_75 F x1 x2 r1 σ2)) else (f_X3_findToken_75 F x1 x2 (σ 47 (x1).toNatClampNeg) σ))))
def f_X3_findToken_4_b (F : Nat) (rec4 : Int32 → Int32 → Int32 → nd_Mem → nd_Res) (x1 : Int32) (x2 : Int32) (x3 : Int32) (σ : nd_Mem) : nd_Res := (if (σ 38 2) ≤ x3 then (f_X3_findToken_38 F x1 x2 x3 σ) else (nd_bind (f_X3_standsTogether F x2 σ) fun r1 σ2 => (if r1 = 0 then (f_X3_findToken_38 F x1 x2 x3 σ2) else (if x3 < 0 ∨ 400 ≤ (x3).toNatClampNeg then none else (nd_bind (f_X3_sortOf F (σ2 47 (x3).toNatClampNeg) σ2) fun r4 σ5 => (if r4 = x2 then (rec4 x1 x2 (x3 + (1 : Int32)) σ5) else (f_X3_findToken_38 F x1 x2 x3 σ5)))))))
def f_X3_findToken_4 (F : Nat) : Nat → Int32 → Int32 → Int32 → nd_Mem → nd_Res
  | 0, _, _, _, _ => none
  | m9 + 1, x1, x2, x3, σ => f_X3_findToken_4_b F (f_X3_findToken_4 F m9) x1 x2 x3 σ
def f_X3_findToken (F : Nat) (x1 : Int32) (x2 : Int32) (σ : nd_Mem) : nd_Res := (f_X3_findToken_4 F F x1 x2 (x1 + (1 : Int32)) σ)
set_option maxRecDepth 100000 in
set_option maxHeartbeats 4000000 in
theorem b_X3_findToken_87 (F : Nat) (t : List nd_S) (hL : (nd_SH ++ t).length < nd_ro) {z : Int32 × nd_Mem} (x1 : Int32) (x4 : Int32) (s0 : Int32) (σ : nd_Mem) (h : f_X3_findToken_87 F x1 x4 s0 σ = some z) : nd_V M_X3_findToken (nd_rm 5) (nd_Pv (nd_SH ++ t) z) 0 0 87 [(0, .ref 38), (1, .int x1), (4, .int x4)] [.int s0, .ref 38] (nd_SH ++ t) σ := by
  unfold f_X3_findToken_87 at h
  refine nd_iload dX3_findToken_87 2 rfl ?_
  refine nd_iload_n dX3_findToken_89 1 rfl ?_
  obtain ⟨r1, σ2, hc3, h⟩ := nd_bind_e h
  refine nd_cvv [.int s0, .int x4, .int x1] [] dX3_findToken_90 cl_X3_171 (sh_38 t) ⟨Nat.le_of_ble_eq_true rfl, Nat.le_of_ble_eq_true rfl⟩ rfl (Nat.le_of_ble_eq_true rfl) hL (t_X3_addToken F t hL _ _ _ _ hc3) ?_
  exact nd_vret dX3_findToken_93 (Nat.zero_le _) (Nat.zero_le _) trivial (by cases h; exact ⟨rfl, rfl, rfl⟩)
set_option maxRecDepth 100000 in
set_option maxHeartbeats 4000000 in
theorem b_X3_findToken_75 (F : Nat) (t : List nd_S) (hL : (nd_SH ++ t).length < nd_ro) {z : Int32 × nd_Mem} (x1 : Int32) (x2 : Int32) (x4 : Int32) (σ : nd_Mem) (h : f_X3_findToken_75 F x1 x2 x4 σ = some z) : nd_V M_X3_findToken (nd_rm 5) (nd_Pv (nd_SH ++ t) z) 0 0 75 [(0, .ref 38), (1, .int x1), (2, .int x2), (4, .int x4)] [] (nd_SH ++ t) σ := by
  unfold f_X3_findToken_75 at h
  refine nd_aload_n dX3_findToken_75 0 rfl ?_
  refine nd_iload dX3_findToken_76 3 rfl ?_
  refine nd_iconst dX3_findToken_78 ic_m1 ?_
  refine nd_icmp_neN dX3_findToken_79 86 (by decide) h (fun h => ?_) (fun h => ?_)
  · refine nd_iload_n dX3_findToken_86 2 rfl ?_
    refine nd_sub [0, 1, 3] rfl ?_
    exact b_X3_findToken_87 F t hL _ _ _ _ h
  · refine nd_iconst dX3_findToken_82 ic_4 ?_
    refine nd_goto dX3_findToken_83 87 (by decide) ?_
    refine nd_sub [0, 1, 3] rfl ?_
    exact b_X3_findToken_87 F t hL _ _ _ _ h
set_option maxRecDepth 100000 in
set_option maxHeartbeats 4000000 in
theorem b_X3_findToken_38 (F : Nat) (t : List nd_S) (hL : (nd_SH ++ t).length < nd_ro) {z : Int32 × nd_Mem} (x1 : Int32) (x2 : Int32) (x3 : Int32) (σ : nd_Mem) (h : f_X3_findToken_38 F x1 x2 x3 σ = some z) : nd_V M_X3_findToken (nd_rm 5) (nd_Pv (nd_SH ++ t) z) 0 0 38 [(0, .ref 38), (1, .int x1), (2, .int x2), (3, .int x3)] [] (nd_SH ++ t) σ := by
  unfold f_X3_findToken_38 at h
  refine nd_aload_n dX3_findToken_38 0 rfl ?_
  refine nd_get dX3_findToken_39 gf_X3_18 (sh_38 t) rfl ?_
  refine nd_iload_n dX3_findToken_42 1 rfl ?_
  refine nd_ialoadN dX3_findToken_43 (sh_47 t) h (fun h => ?_)
  refine nd_istore (ls' := [(4, .int (σ 47 (x1).toNatClampNeg)), (0, .ref 38), (1, .int x1), (2, .int x2), (3, .int x3)]) dX3_findToken_44 (by decide) rfl ?_
  refine nd_iload_n dX3_findToken_46 3 rfl ?_
  refine nd_iconst dX3_findToken_47 ic_1 ?_
  refine nd_icmp_neN dX3_findToken_48 62 (by decide) h (fun h => ?_) (fun h => ?_)
  · refine nd_iload_n dX3_findToken_62 3 rfl ?_
    refine nd_iconst dX3_findToken_63 ic_2 ?_
    refine nd_icmp_neN dX3_findToken_64 75 (by decide) h (fun h => ?_) (fun h => ?_)
    · refine nd_sub [1, 2, 3, 0] rfl ?_
      exact b_X3_findToken_75 F t hL _ _ _ _ h
    · refine nd_aload_n dX3_findToken_67 1 rfl ?_
      refine nd_iload_n dX3_findToken_68 2 rfl ?_
      refine nd_iload_n dX3_findToken_69 4 rfl ?_
      obtain ⟨r1, σ2, hc3, h⟩ := nd_bind_e h
      refine nd_cvi [.int x1, .int x3] [] dX3_findToken_70 cl_X3_179 (sh_38 t) ⟨Nat.le_of_ble_eq_true rfl, Nat.le_of_ble_eq_true rfl⟩ rfl (Nat.le_of_ble_eq_true rfl) hL (t_X3_numberOf F t hL _ _ _ hc3) ?_
      refine nd_istore (ls' := [(4, .int r1), (0, .ref 38), (1, .int x1), (2, .int x2), (3, .int x3)]) dX3_findToken_73 (by decide) rfl ?_
      refine nd_sub [1, 2, 3, 0] rfl ?_
      exact b_X3_findToken_75 F t hL _ _ _ _ h
  · refine nd_aload_n dX3_findToken_51 1 rfl ?_
    refine nd_iload_n dX3_findToken_52 2 rfl ?_
    refine nd_iload_n dX3_findToken_53 4 rfl ?_
    obtain ⟨r4, σ5, hc6, h⟩ := nd_bind_e h
    refine nd_cvi [.int x1, .int x3] [] dX3_findToken_54 cl_X3_175 (sh_38 t) ⟨Nat.le_of_ble_eq_true rfl, Nat.le_of_ble_eq_true rfl⟩ rfl (Nat.le_of_ble_eq_true rfl) hL (t_X3_wordNumber F t hL _ _ _ hc6) ?_
    refine nd_istore (ls' := [(4, .int r4), (0, .ref 38), (1, .int x1), (2, .int x2), (3, .int x3)]) dX3_findToken_57 (by decide) rfl ?_
    refine nd_goto dX3_findToken_59 75 (by decide) ?_
    refine nd_sub [1, 2, 3, 0] rfl ?_
    exact b_X3_findToken_75 F t hL _ _ _ _ h
set_option maxRecDepth 100000 in
set_option maxHeartbeats 4000000 in
theorem b_X3_findToken_4 (F : Nat) (t : List nd_S) (hL : (nd_SH ++ t).length < nd_ro) {z : Int32 × nd_Mem} (m9 : Nat) : ∀ (x1 : Int32) (x2 : Int32) (x3 : Int32) (σ : nd_Mem), f_X3_findToken_4 F m9 x1 x2 x3 σ = some z → nd_V M_X3_findToken (nd_rm 5) (nd_Pv (nd_SH ++ t) z) 0 0 4 [(0, .ref 38), (1, .int x1), (2, .int x2), (3, .int x3)] [] (nd_SH ++ t) σ := by
  induction m9 with
  | zero =>
    intro x1 x2 x3 σ h
    have h : none = some z := h
    cases h
  | succ m9 hrec4 =>
    intro x1 x2 x3 σ h
    have h : f_X3_findToken_4_b F (f_X3_findToken_4 F m9) x1 x2 x3 σ = some z := h
    unfold f_X3_findToken_4_b at h
    refine nd_iload_n dX3_findToken_4 3 rfl ?_
    refine nd_aload_n dX3_findToken_5 0 rfl ?_
    refine nd_get dX3_findToken_6 gf_X3_41 (sh_38 t) rfl ?_
    refine nd_icmp_geN dX3_findToken_9 38 (by decide) h (fun h => ?_) (fun h => ?_)
    · exact b_X3_findToken_38 F t hL _ _ _ _ h
    · refine nd_iload_n dX3_findToken_12 2 rfl ?_
      obtain ⟨r1, σ2, hc3, h⟩ := nd_bind_e h
      refine nd_csi [.int x2] [] dX3_findToken_13 cl_X3_165 ⟨Nat.le_of_ble_eq_true rfl, Nat.le_of_ble_eq_true rfl⟩ rfl (Nat.le_of_ble_eq_true rfl) hL (t_X3_standsTogether F (nd_SH ++ t) hL _ _ hc3) ?_
      refine nd_if_eqN dX3_findToken_16 38 (by decide) h (fun h => ?_) (fun h => ?_)
      · exact b_X3_findToken_38 F t hL _ _ _ _ h
      · refine nd_aload_n dX3_findToken_19 0 rfl ?_
        refine nd_get dX3_findToken_20 gf_X3_18 (sh_38 t) rfl ?_
        refine nd_iload_n dX3_findToken_23 3 rfl ?_
        refine nd_ialoadN dX3_findToken_24 (sh_47 t) h (fun h => ?_)
        obtain ⟨r4, σ5, hc6, h⟩ := nd_bind_e h
        refine nd_csi [.int (σ2 47 (x3).toNatClampNeg)] [] dX3_findToken_25 cl_X3_162 ⟨Nat.le_of_ble_eq_true rfl, Nat.le_of_ble_eq_true rfl⟩ rfl (Nat.le_of_ble_eq_true rfl) hL (t_X3_sortOf F (nd_SH ++ t) hL _ _ hc6) ?_
        refine nd_iload_n dX3_findToken_28 2 rfl ?_
        refine nd_icmp_neN dX3_findToken_29 38 (by decide) h (fun h => ?_) (fun h => ?_)
        · exact b_X3_findToken_38 F t hL _ _ _ _ h
        · refine nd_iinc (v := (x3 + (1 : Int32))) (ls' := [(3, .int (x3 + (1 : Int32))), (0, .ref 38), (1, .int x1), (2, .int x2)]) dX3_findToken_32 3 rfl (congrArg (HAdd.hAdd _) ic_1) (by decide) rfl ?_
          refine nd_goto dX3_findToken_35 4 (by decide) ?_
          refine nd_sub [1, 2, 3, 0] rfl ?_
          exact hrec4 _ _ _ _ h
set_option maxRecDepth 100000 in
set_option maxHeartbeats 4000000 in
theorem t_X3_findToken (F : Nat) (t : List nd_S) (hL : (nd_SH ++ t).length < nd_ro) {z : Int32 × nd_Mem} (x1 : Int32) (x2 : Int32) (σ : nd_Mem) (h : f_X3_findToken F x1 x2 σ = some z) : nd_Fn M_X3_findToken (nd_rm 5) [.ref 38, .int x1, .int x2] (nd_SH ++ t) σ (nd_Pv (nd_SH ++ t) z) := by
  refine nd_Fn.ofV (ls := [(0, .ref 38), (1, .int x1), (2, .int x2)]) pl_X3_findToken rfl (fun _ => Nat.le_of_ble_eq_true rfl) (fun _ => rfl) ?_
  unfold f_X3_findToken at h
  refine nd_iload_n dX3_findToken_0 1 rfl ?_
  refine nd_iconst dX3_findToken_1 ic_1 ?_
  refine nd_iadd dX3_findToken_2 ?_
  refine nd_istore_n (ls' := [(3, .int (x1 + (1 : Int32))), (0, .ref 38), (1, .int x1), (2, .int x2)]) dX3_findToken_3 (by decide) rfl ?_
  refine nd_sub [1, 2, 3, 0] rfl ?_
  exact b_X3_findToken_4 F t hL F _ _ _ _ h
def f_X3_findTokens_77 (F : Nat) (rec12 : Int32 → nd_Mem → nd_Res) (x1 : Int32) (σ : nd_Mem) : nd_Res := (rec12 (x1 + (1 : Int32)) σ)
def f_X3_findTokens_61 (F : Nat) (rec12 : Int32 → nd_Mem → nd_Res) (x1 : Int32) (x2 : Int32) (s0 : Int32) (σ : nd_Mem) : nd_Res := (if x2 = (5 : Int32) then (f_X3_findTokens_77 F rec12 x1 σ) else (if s0 = 0 then (nd_bind (f_X3_findToken F x1 x2 σ) fun r1 σ2 => (f_X3_findTokens_77 F rec12 x1 σ2)) else (f_X3_findTokens_77 F rec12 x1 σ)))
def f_X3_findTokens_60 (F : Nat) (rec12 : Int32 → nd_Mem → nd_Res) (x1 : Int32) (x2 : Int32) (σ : nd_Mem) : nd_Res := (f_X3_findTokens_61 F rec12 x1 x2 (0 : Int32) σ)
def f_X3_findTokens_12_b (F : Nat) (rec12 : Int32 → nd_Mem → nd_Res) (x1 : Int32) (σ : nd_Mem) : nd_Res := (if (σ 38 2) ≤ x1 then (nd_bind (f_X3_addToken F (0 : Int32) (0 : Int32) (σ 38 2) σ) fun r1 σ2 => (some (0, σ2))) else (if x1 < 0 ∨ 400 ≤ (x1).toNatClampNeg then none else (nd_bind (f_X3_sortOf F (σ 47 (x1).toNatClampNeg) σ) fun r4 σ5 => (nd_bind (f_X3_standsTogether F r4 σ5) fun r7 σ8 => (if r7 = 0 then (f_X3_findTokens_60 F rec12 x1 r4 σ8) else (if x1 ≤ 0 then (f_X3_findTokens_60 F rec12 x1 r4 σ8) else (if (x1 - (1 : Int32)) < 0 ∨ 400 ≤ ((x1 - (1 : Int32))).toNatClampNeg then none else (nd_bind (f_X3_sortOf F (σ8 47 ((x1 - (1 : Int32))).toNatClampNeg) σ8) fun r10 σ11 => (if r10 = r4 then (f_X3_findTokens_61 F rec12 x1 r4 (1 : Int32) σ11) else (f_X3_findTokens_60 F rec12 x1 r4 σ11))))))))))
def f_X3_findTokens_12 (F : Nat) : Nat → Int32 → nd_Mem → nd_Res
  | 0, _, _ => none
  | m9 + 1, x1, σ => f_X3_findTokens_12_b F (f_X3_findTokens_12 F m9) x1 σ
def f_X3_findTokens (F : Nat) (σ : nd_Mem) : nd_Res := (nd_let (nd_up σ 38 10 (0 : Int32)) fun σ1 => (nd_let (nd_up σ1 38 14 (0 : Int32)) fun σ2 => (f_X3_findTokens_12 F F (0 : Int32) σ2)))
set_option maxRecDepth 100000 in
set_option maxHeartbeats 4000000 in
theorem b_X3_findTokens_77 (F : Nat) (rec12 : Int32 → nd_Mem → nd_Res) (t : List nd_S) (hL : (nd_SH ++ t).length < nd_ro) {z : Int32 × nd_Mem} (hrec12 : ∀ (x1 : Int32) (σ : nd_Mem), rec12 x1 σ = some z → nd_V M_X3_findTokens (nd_rm 6) (nd_Pv (nd_SH ++ t) z) 0 0 12 [(0, .ref 38), (1, .int x1)] [] (nd_SH ++ t) σ) (x1 : Int32) (σ : nd_Mem) (h : f_X3_findTokens_77 F rec12 x1 σ = some z) : nd_V M_X3_findTokens (nd_rm 6) (nd_Pv (nd_SH ++ t) z) 0 0 77 [(0, .ref 38), (1, .int x1)] [] (nd_SH ++ t) σ := by
  unfold f_X3_findTokens_77 at h
  refine nd_iinc (v := (x1 + (1 : Int32))) (ls' := [(1, .int (x1 + (1 : Int32))), (0, .ref 38)]) dX3_findTokens_77 1 rfl (congrArg (HAdd.hAdd _) ic_1) (by decide) rfl ?_
  refine nd_goto dX3_findTokens_80 12 (by decide) ?_
  refine nd_sub [1, 0] rfl ?_
  exact hrec12 _ _ h
set_option maxRecDepth 100000 in
set_option maxHeartbeats 4000000 in
theorem b_X3_findTokens_61 (F : Nat) (rec12 : Int32 → nd_Mem → nd_Res) (t : List nd_S) (hL : (nd_SH ++ t).length < nd_ro) {z : Int32 × nd_Mem} (hrec12 : ∀ (x1 : Int32) (σ : nd_Mem), rec12 x1 σ = some z → nd_V M_X3_findTokens (nd_rm 6) (nd_Pv (nd_SH ++ t) z) 0 0 12 [(0, .ref 38), (1, .int x1)] [] (nd_SH ++ t) σ) (x1 : Int32) (x2 : Int32) (s0 : Int32) (σ : nd_Mem) (h : f_X3_findTokens_61 F rec12 x1 x2 s0 σ = some z) : nd_V M_X3_findTokens (nd_rm 6) (nd_Pv (nd_SH ++ t) z) 0 0 61 [(0, .ref 38), (1, .int x1), (2, .int x2)] [.int s0] (nd_SH ++ t) σ := by
  unfold f_X3_findTokens_61 at h
  refine nd_istore_n (ls' := [(3, .int s0), (0, .ref 38), (1, .int x1), (2, .int x2)]) dX3_findTokens_61 (by decide) rfl ?_
  refine nd_iload_n dX3_findTokens_62 3 rfl ?_
  refine nd_iconst dX3_findTokens_63 ic_5 ?_
  refine nd_icmp_eqN dX3_findTokens_64 77 (by decide) h (fun h => ?_) (fun h => ?_)
  · refine nd_sub [1, 2] rfl ?_
    exact b_X3_findTokens_77 F _ t hL hrec12 _ _ h
  · refine nd_iload_n dX3_findTokens_67 0 rfl ?_
    refine nd_if_neN dX3_findTokens_68 77 (by decide) h (fun h => ?_) (fun h => ?_)
    · refine nd_sub [1, 2] rfl ?_
      exact b_X3_findTokens_77 F _ t hL hrec12 _ _ h
    · refine nd_aload_n dX3_findTokens_71 1 rfl ?_
      refine nd_iload_n dX3_findTokens_72 2 rfl ?_
      refine nd_iload_n dX3_findTokens_73 3 rfl ?_
      obtain ⟨r1, σ2, hc3, h⟩ := nd_bind_e h
      refine nd_cvv [.int x1, .int x2] [] dX3_findTokens_74 cl_X3_168 (sh_38 t) ⟨Nat.le_of_ble_eq_true rfl, Nat.le_of_ble_eq_true rfl⟩ rfl (Nat.le_of_ble_eq_true rfl) hL (t_X3_findToken F t hL _ _ _ hc3) ?_
      refine nd_sub [1, 2] rfl ?_
      exact b_X3_findTokens_77 F _ t hL hrec12 _ _ h
set_option maxRecDepth 100000 in
set_option maxHeartbeats 4000000 in
theorem b_X3_findTokens_60 (F : Nat) (rec12 : Int32 → nd_Mem → nd_Res) (t : List nd_S) (hL : (nd_SH ++ t).length < nd_ro) {z : Int32 × nd_Mem} (hrec12 : ∀ (x1 : Int32) (σ : nd_Mem), rec12 x1 σ = some z → nd_V M_X3_findTokens (nd_rm 6) (nd_Pv (nd_SH ++ t) z) 0 0 12 [(0, .ref 38), (1, .int x1)] [] (nd_SH ++ t) σ) (x1 : Int32) (x2 : Int32) (σ : nd_Mem) (h : f_X3_findTokens_60 F rec12 x1 x2 σ = some z) : nd_V M_X3_findTokens (nd_rm 6) (nd_Pv (nd_SH ++ t) z) 0 0 60 [(0, .ref 38), (1, .int x1), (2, .int x2)] [] (nd_SH ++ t) σ := by
  unfold f_X3_findTokens_60 at h
  refine nd_iconst dX3_findTokens_60 ic_0 ?_
  exact b_X3_findTokens_61 F _ t hL hrec12 _ _ _ _ h
set_option maxRecDepth 100000 in
set_option maxHeartbeats 4000000 in
theorem b_X3_findTokens_12 (F : Nat) (t : List nd_S) (hL : (nd_SH ++ t).length < nd_ro) {z : Int32 × nd_Mem} (m9 : Nat) : ∀ (x1 : Int32) (σ : nd_Mem), f_X3_findTokens_12 F m9 x1 σ = some z → nd_V M_X3_findTokens (nd_rm 6) (nd_Pv (nd_SH ++ t) z) 0 0 12 [(0, .ref 38), (1, .int x1)] [] (nd_SH ++ t) σ := by
  induction m9 with
  | zero =>
    intro x1 σ h
    have h : none = some z := h
    cases h
  | succ m9 hrec12 =>
    intro x1 σ h
    have h : f_X3_findTokens_12_b F (f_X3_findTokens_12 F m9) x1 σ = some z := h
    unfold f_X3_findTokens_12_b at h
    refine nd_iload_n dX3_findTokens_12 1 rfl ?_
    refine nd_aload_n dX3_findTokens_13 0 rfl ?_
    refine nd_get dX3_findTokens_14 gf_X3_41 (sh_38 t) rfl ?_
    refine nd_icmp_geN dX3_findTokens_17 83 (by decide) h (fun h => ?_) (fun h => ?_)
    · refine nd_aload_n dX3_findTokens_83 0 rfl ?_
      refine nd_iconst dX3_findTokens_84 ic_0 ?_
      refine nd_iconst dX3_findTokens_85 ic_0 ?_
      refine nd_aload_n dX3_findTokens_86 0 rfl ?_
      refine nd_get dX3_findTokens_87 gf_X3_41 (sh_38 t) rfl ?_
      obtain ⟨r1, σ2, hc3, h⟩ := nd_bind_e h
      refine nd_cvv [.int (0 : Int32), .int (0 : Int32), .int (σ 38 2)] [] dX3_findTokens_90 cl_X3_171 (sh_38 t) ⟨Nat.le_of_ble_eq_true rfl, Nat.le_of_ble_eq_true rfl⟩ rfl (Nat.le_of_ble_eq_true rfl) hL (t_X3_addToken F t hL _ _ _ _ hc3) ?_
      exact nd_vret dX3_findTokens_93 (Nat.zero_le _) (Nat.zero_le _) trivial (by cases h; exact ⟨rfl, rfl, rfl⟩)
    · refine nd_aload_n dX3_findTokens_20 0 rfl ?_
      refine nd_get dX3_findTokens_21 gf_X3_18 (sh_38 t) rfl ?_
      refine nd_iload_n dX3_findTokens_24 1 rfl ?_
      refine nd_ialoadN dX3_findTokens_25 (sh_47 t) h (fun h => ?_)
      obtain ⟨r4, σ5, hc6, h⟩ := nd_bind_e h
      refine nd_csi [.int (σ 47 (x1).toNatClampNeg)] [] dX3_findTokens_26 cl_X3_162 ⟨Nat.le_of_ble_eq_true rfl, Nat.le_of_ble_eq_true rfl⟩ rfl (Nat.le_of_ble_eq_true rfl) hL (t_X3_sortOf F (nd_SH ++ t) hL _ _ hc6) ?_
      refine nd_istore_n (ls' := [(2, .int r4), (0, .ref 38), (1, .int x1)]) dX3_findTokens_29 (by decide) rfl ?_
      refine nd_iload_n dX3_findTokens_30 0 rfl ?_
      obtain ⟨r7, σ8, hc9, h⟩ := nd_bind_e h
      refine nd_csi [.int r4] [] dX3_findTokens_31 cl_X3_165 ⟨Nat.le_of_ble_eq_true rfl, Nat.le_of_ble_eq_true rfl⟩ rfl (Nat.le_of_ble_eq_true rfl) hL (t_X3_standsTogether F (nd_SH ++ t) hL _ _ hc9) ?_
      refine nd_if_eqN dX3_findTokens_34 60 (by decide) h (fun h => ?_) (fun h => ?_)
      · refine nd_sub [1, 2, 0] rfl ?_
        exact b_X3_findTokens_60 F _ t hL hrec12 _ _ _ h
      · refine nd_iload_n dX3_findTokens_37 2 rfl ?_
        refine nd_if_leN dX3_findTokens_38 60 (by decide) h (fun h => ?_) (fun h => ?_)
        · refine nd_sub [1, 2, 0] rfl ?_
          exact b_X3_findTokens_60 F _ t hL hrec12 _ _ _ h
        · refine nd_aload_n dX3_findTokens_41 1 rfl ?_
          refine nd_get dX3_findTokens_42 gf_X3_18 (sh_38 t) rfl ?_
          refine nd_iload_n dX3_findTokens_45 2 rfl ?_
          refine nd_iconst dX3_findTokens_46 ic_1 ?_
          refine nd_isub dX3_findTokens_47 ?_
          refine nd_ialoadN dX3_findTokens_48 (sh_47 t) h (fun h => ?_)
          obtain ⟨r10, σ11, hc12, h⟩ := nd_bind_e h
          refine nd_csi [.int (σ8 47 ((x1 - (1 : Int32))).toNatClampNeg)] [] dX3_findTokens_49 cl_X3_162 ⟨Nat.le_of_ble_eq_true rfl, Nat.le_of_ble_eq_true rfl⟩ rfl (Nat.le_of_ble_eq_true rfl) hL (t_X3_sortOf F (nd_SH ++ t) hL _ _ hc12) ?_
          refine nd_iload_n dX3_findTokens_52 0 rfl ?_
          refine nd_icmp_neN dX3_findTokens_53 60 (by decide) h (fun h => ?_) (fun h => ?_)
          · refine nd_sub [1, 2, 0] rfl ?_
            exact b_X3_findTokens_60 F _ t hL hrec12 _ _ _ h
          · refine nd_iconst dX3_findTokens_56 ic_1 ?_
            refine nd_goto dX3_findTokens_57 61 (by decide) ?_
            refine nd_sub [1, 2, 0] rfl ?_
            exact b_X3_findTokens_61 F _ t hL hrec12 _ _ _ _ h
set_option maxRecDepth 100000 in
set_option maxHeartbeats 4000000 in
theorem t_X3_findTokens (F : Nat) (t : List nd_S) (hL : (nd_SH ++ t).length < nd_ro) {z : Int32 × nd_Mem} (σ : nd_Mem) (h : f_X3_findTokens F σ = some z) : nd_Fn M_X3_findTokens (nd_rm 6) [.ref 38] (nd_SH ++ t) σ (nd_Pv (nd_SH ++ t) z) := by
  refine nd_Fn.ofV (ls := [(0, .ref 38)]) pl_X3_findTokens rfl (fun _ => Nat.le_of_ble_eq_true rfl) (fun _ => rfl) ?_
  unfold f_X3_findTokens at h
  refine nd_aload_n dX3_findTokens_0 0 rfl ?_
  refine nd_iconst dX3_findTokens_1 ic_0 ?_
  refine nd_putiN dX3_findTokens_2 pf_X3_159 (sh_38 t) rfl h (fun σ1 h => ?_)
  refine nd_aload_n dX3_findTokens_5 0 rfl ?_
  refine nd_iconst dX3_findTokens_6 ic_0 ?_
  refine nd_putiN dX3_findTokens_7 pf_X3_156 (sh_38 t) rfl h (fun σ2 h => ?_)
  refine nd_iconst dX3_findTokens_10 ic_0 ?_
  refine nd_istore_n (ls' := [(1, .int (0 : Int32)), (0, .ref 38)]) dX3_findTokens_11 (by decide) rfl ?_
  refine nd_sub [1, 0] rfl ?_
  exact b_X3_findTokens_12 F t hL F _ _ h
