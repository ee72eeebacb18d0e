def f_X3_cut_12 (F : Nat) (σ : nd_Mem) : nd_Res := (some ((0 : Int32), σ))
def f_X3_cut (F : Nat) (x1 : Int32) (σ : nd_Mem) : nd_Res := (if x1 < 0 then (f_X3_cut_12 F σ) else (if x1 ≤ (σ 38 2) then (nd_let (nd_up σ 38 2 x1) fun σ1 => (some ((1 : Int32), σ1))) else (f_X3_cut_12 F σ)))
set_option maxRecDepth 100000 in
set_option maxHeartbeats 4000000 in
theorem b_X3_cut_12 (F : Nat) (t : List nd_S) (hL : (nd_SH ++ t).length < nd_ro) {z : Int32 × nd_Mem} (σ : nd_Mem) (h : f_X3_cut_12 F σ = some z) : nd_V M_X3_cut (nd_rm 0) (nd_Pi (nd_SH ++ t) z) 0 0 12 [(0, .ref 38)] [] (nd_SH ++ t) σ := by
  unfold f_X3_cut_12 at h
  refine nd_iconst dX3_cut_12 ic_0 ?_
  exact nd_iret dX3_cut_13 (Nat.zero_le _) (Nat.zero_le _) rfl (by cases h; exact ⟨rfl, rfl, rfl⟩)
set_option maxRecDepth 100000 in
set_option maxHeartbeats 4000000 in
theorem t_X3_cut (F : Nat) (t : List nd_S) (hL : (nd_SH ++ t).length < nd_ro) {z : Int32 × nd_Mem} (x1 : Int32) (σ : nd_Mem) (h : f_X3_cut F x1 σ = some z) : nd_Fn M_X3_cut (nd_rm 0) [.ref 38, .int x1] (nd_SH ++ t) σ (nd_Pi (nd_SH ++ t) z) := by
  refine nd_Fn.ofV (ls := [(0, .ref 38), (1, .int x1)]) pl_X3_cut rfl (fun _ => Nat.le_of_ble_eq_true rfl) (fun _ => rfl) ?_
  unfold f_X3_cut at h
  refine nd_iload_n dX3_cut_0 1 rfl ?_
  refine nd_if_ltN dX3_cut_1 12 (by decide) h (fun h => ?_) (fun h => ?_)
  · refine nd_sub [0] rfl ?_
    exact b_X3_cut_12 F t hL _ h
  · refine nd_iload_n dX3_cut_4 1 rfl ?_
    refine nd_aload_n dX3_cut_5 0 rfl ?_
    refine nd_get dX3_cut_6 gf_X3_32 (sh_38 t) rfl ?_
    refine nd_icmp_leN dX3_cut_9 14 (by decide) h (fun h => ?_) (fun h => ?_)
    · refine nd_aload_n dX3_cut_14 0 rfl ?_
      refine nd_iload_n dX3_cut_15 1 rfl ?_
      refine nd_putiN dX3_cut_16 pf_X3_32 (sh_38 t) rfl h (fun σ1 h => ?_)
      refine nd_iconst dX3_cut_19 ic_1 ?_
      exact nd_iret dX3_cut_20 (Nat.zero_le _) (Nat.zero_le _) rfl (by cases h; exact ⟨rfl, rfl, rfl⟩)
    · refine nd_sub [0] rfl ?_
      exact b_X3_cut_12 F t hL _ h
def f_X3_hasRoom (F : Nat) (x1 : Int32) (σ : nd_Mem) : nd_Res := (if (400 : Int32) < ((σ 38 2) + x1) then (some ((0 : Int32), σ)) else (some ((1 : Int32), σ)))
set_option maxRecDepth 100000 in
set_option maxHeartbeats 4000000 in
theorem t_X3_hasRoom (F : Nat) (t : List nd_S) (hL : (nd_SH ++ t).length < nd_ro) {z : Int32 × nd_Mem} (x1 : Int32) (σ : nd_Mem) (h : f_X3_hasRoom F x1 σ = some z) : nd_Fn M_X3_hasRoom (nd_rm 0) [.ref 38, .int x1] (nd_SH ++ t) σ (nd_Pi (nd_SH ++ t) z) := by
  refine nd_Fn.ofV (ls := [(0, .ref 38), (1, .int x1)]) pl_X3_hasRoom rfl (fun _ => Nat.le_of_ble_eq_true rfl) (fun _ => rfl) ?_
  unfold f_X3_hasRoom at h
  refine nd_aload_n dX3_hasRoom_0 0 rfl ?_
  refine nd_get dX3_hasRoom_1 gf_X3_32 (sh_38 t) rfl ?_
  refine nd_iload_n dX3_hasRoom_4 1 rfl ?_
  refine nd_iadd dX3_hasRoom_5 ?_
  refine nd_sipush dX3_hasRoom_6 is_400 ?_
  refine nd_icmp_gtN dX3_hasRoom_9 16 (by decide) h (fun h => ?_) (fun h => ?_)
  · refine nd_iconst dX3_hasRoom_16 ic_0 ?_
    exact nd_iret dX3_hasRoom_17 (Nat.zero_le _) (Nat.zero_le _) rfl (by cases h; exact ⟨rfl, rfl, rfl⟩)
  · refine nd_iconst dX3_hasRoom_12 ic_1 ?_
    refine nd_goto dX3_hasRoom_13 17 (by decide) ?_
    exact nd_iret dX3_hasRoom_17 (Nat.zero_le _) (Nat.zero_le _) rfl (by cases h; exact ⟨rfl, rfl, rfl⟩)
def f_X3_isDigit_16 (F : Nat) (σ : nd_Mem) : nd_Res := (some ((0 : Int32), σ))
def f_X3_isDigit (F : Nat) (x0 : Int32) (σ : nd_Mem) : nd_Res := (if x0 < (48 : Int32) then (f_X3_isDigit_16 F σ) else (if (57 : Int32) < x0 then (f_X3_isDigit_16 F σ) else (some ((1 : Int32), σ))))
set_option maxRecDepth 100000 in
set_option maxHeartbeats 4000000 in
theorem b_X3_isDigit_16 (F : Nat) (sh : List nd_S) (hL : sh.length < nd_ro) {z : Int32 × nd_Mem} (σ : nd_Mem) (h : f_X3_isDigit_16 F σ = some z) : nd_V M_X3_isDigit (nd_rm 0) (nd_Pi sh z) 0 0 16 [] [] sh σ := by
  unfold f_X3_isDigit_16 at h
  refine nd_iconst dX3_isDigit_16 ic_0 ?_
  exact nd_iret dX3_isDigit_17 (Nat.zero_le _) (Nat.zero_le _) rfl (by cases h; exact ⟨rfl, rfl, rfl⟩)
set_option maxRecDepth 100000 in
set_option maxHeartbeats 4000000 in
theorem t_X3_isDigit (F : Nat) (sh : List nd_S) (hL : sh.length < nd_ro) {z : Int32 × nd_Mem} (x0 : Int32) (σ : nd_Mem) (h : f_X3_isDigit F x0 σ = some z) : nd_Fn M_X3_isDigit (nd_rm 0) [.int x0] sh σ (nd_Pi sh z) := by
  refine nd_Fn.ofV (ls := [(0, .int x0)]) pl_X3_isDigit rfl (fun _ => Nat.le_of_ble_eq_true rfl) (fun _ => rfl) ?_
  unfold f_X3_isDigit at h
  refine nd_iload_n dX3_isDigit_0 0 rfl ?_
  refine nd_bipush dX3_isDigit_1 ib_48 ?_
  refine nd_icmp_ltN dX3_isDigit_3 16 (by decide) h (fun h => ?_) (fun h => ?_)
  · refine nd_sub [] rfl ?_
    exact b_X3_isDigit_16 F sh hL _ h
  · refine nd_iload_n dX3_isDigit_6 0 rfl ?_
    refine nd_bipush dX3_isDigit_7 ib_57 ?_
    refine nd_icmp_gtN dX3_isDigit_9 16 (by decide) h (fun h => ?_) (fun h => ?_)
    · refine nd_sub [] rfl ?_
      exact b_X3_isDigit_16 F sh hL _ h
    · refine nd_iconst dX3_isDigit_12 ic_1 ?_
      refine nd_goto dX3_isDigit_13 17 (by decide) ?_
      exact nd_iret dX3_isDigit_17 (Nat.zero_le _) (Nat.zero_le _) rfl (by cases h; exact ⟨rfl, rfl, rfl⟩)
def f_X3_isLetter_24 (F : Nat) (σ : nd_Mem) : nd_Res := (some ((1 : Int32), σ))
def f_X3_isLetter_28 (F : Nat) (σ : nd_Mem) : nd_Res := (some ((0 : Int32), σ))
def f_X3_isLetter_12 (F : Nat) (x0 : Int32) (σ : nd_Mem) : nd_Res := (if x0 < (65 : Int32) then (f_X3_isLetter_28 F σ) else (if (90 : Int32) < x0 then (f_X3_isLetter_28 F σ) else (f_X3_isLetter_24 F σ)))
def f_X3_isLetter (F : Nat) (x0 : Int32) (σ : nd_Mem) : nd_Res := (if x0 < (97 : Int32) then (f_X3_isLetter_12 F x0 σ) else (if x0 ≤ (122 : Int32) then (f_X3_isLetter_24 F σ) else (f_X3_isLetter_12 F x0 σ)))
set_option maxRecDepth 100000 in
set_option maxHeartbeats 4000000 in
theorem b_X3_isLetter_24 (F : Nat) (sh : List nd_S) (hL : sh.length < nd_ro) {z : Int32 × nd_Mem} (σ : nd_Mem) (h : f_X3_isLetter_24 F σ = some z) : nd_V M_X3_isLetter (nd_rm 0) (nd_Pi sh z) 0 0 24 [] [] sh σ := by
  unfold f_X3_isLetter_24 at h
  refine nd_iconst dX3_isLetter_24 ic_1 ?_
  refine nd_goto dX3_isLetter_25 29 (by decide) ?_
  exact nd_iret dX3_isLetter_29 (Nat.zero_le _) (Nat.zero_le _) rfl (by cases h; exact ⟨rfl, rfl, rfl⟩)
set_option maxRecDepth 100000 in
set_option maxHeartbeats 4000000 in
theorem b_X3_isLetter_28 (F : Nat) (sh : List nd_S) (hL : sh.length < nd_ro) {z : Int32 × nd_Mem} (σ : nd_Mem) (h : f_X3_isLetter_28 F σ = some z) : nd_V M_X3_isLetter (nd_rm 0) (nd_Pi sh z) 0 0 28 [] [] sh σ := by
  unfold f_X3_isLetter_28 at h
  refine nd_iconst dX3_isLetter_28 ic_0 ?_
  exact nd_iret dX3_isLetter_29 (Nat.zero_le _) (Nat.zero_le _) rfl (by cases h; exact ⟨rfl, rfl, rfl⟩)
set_option maxRecDepth 100000 in
set_option maxHeartbeats 4000000 in
theorem b_X3_isLetter_12 (F : Nat) (sh : List nd_S) (hL : sh.length < nd_ro) {z : Int32 × nd_Mem} (x0 : Int32) (σ : nd_Mem) (h : f_X3_isLetter_12 F x0 σ = some z) : nd_V M_X3_isLetter (nd_rm 0) (nd_Pi sh z) 0 0 12 [(0, .int x0)] [] sh σ := by
  unfold f_X3_isLetter_12 at h
  refine nd_iload_n dX3_isLetter_12 0 rfl ?_
  refine nd_bipush dX3_isLetter_13 ib_65 ?_
  refine nd_icmp_ltN dX3_isLetter_15 28 (by decide) h (fun h => ?_) (fun h => ?_)
  · refine nd_sub [] rfl ?_
    exact b_X3_isLetter_28 F sh hL _ h
  · refine nd_iload_n dX3_isLetter_18 0 rfl ?_
    refine nd_bipush dX3_isLetter_19 ib_90 ?_
    refine nd_icmp_gtN dX3_isLetter_21 28 (by decide) h (fun h => ?_) (fun h => ?_)
    · refine nd_sub [] rfl ?_
      exact b_X3_isLetter_28 F sh hL _ h
    · refine nd_sub [] rfl ?_
      exact b_X3_isLetter_24 F sh hL _ h
set_option maxRecDepth 100000 in
set_option maxHeartbeats 4000000 in
theorem t_X3_isLetter (F : Nat) (sh : List nd_S) (hL : sh.length < nd_ro) {z : Int32 × nd_Mem} (x0 : Int32) (σ : nd_Mem) (h : f_X3_isLetter F x0 σ = some z) : nd_Fn M_X3_isLetter (nd_rm 0) [.int x0] sh σ (nd_Pi sh z) := by
  refine nd_Fn.ofV (ls := [(0, .int x0)]) pl_X3_isLetter rfl (fun _ => Nat.le_of_ble_eq_true rfl) (fun _ => rfl) ?_
  unfold f_X3_isLetter at h
  refine nd_iload_n dX3_isLetter_0 0 rfl ?_
  refine nd_bipush dX3_isLetter_1 ib_97 ?_
  refine nd_icmp_ltN dX3_isLetter_3 12 (by decide) h (fun h => ?_) (fun h => ?_)
  · exact b_X3_isLetter_12 F sh hL _ _ h
  · refine nd_iload_n dX3_isLetter_6 0 rfl ?_
    refine nd_bipush dX3_isLetter_7 ib_122 ?_
    refine nd_icmp_leN dX3_isLetter_9 24 (by decide) h (fun h => ?_) (fun h => ?_)
    · refine nd_sub [] rfl ?_
      exact b_X3_isLetter_24 F sh hL _ h
    · exact b_X3_isLetter_12 F sh hL _ _ h
def f_X3_isSign_20 (F : Nat) (σ : nd_Mem) : nd_Res := (some ((0 : Int32), σ))
def f_X3_isSign (F : Nat) (x1 : Int32) (σ : nd_Mem) : nd_Res := (if (σ 38 7) = (3 : Int32) then (if (σ 38 8) = x1 then (some ((1 : Int32), σ)) else (f_X3_isSign_20 F σ)) else (f_X3_isSign_20 F σ))
set_option maxRecDepth 100000 in
set_option maxHeartbeats 4000000 in
theorem b_X3_isSign_20 (F : Nat) (t : List nd_S) (hL : (nd_SH ++ t).length < nd_ro) {z : Int32 × nd_Mem} (σ : nd_Mem) (h : f_X3_isSign_20 F σ = some z) : nd_V M_X3_isSign (nd_rm 0) (nd_Pi (nd_SH ++ t) z) 0 0 20 [(0, .ref 38)] [] (nd_SH ++ t) σ := by
  unfold f_X3_isSign_20 at h
  refine nd_iconst dX3_isSign_20 ic_0 ?_
  exact nd_iret dX3_isSign_21 (Nat.zero_le _) (Nat.zero_le _) rfl (by cases h; exact ⟨rfl, rfl, rfl⟩)
set_option maxRecDepth 100000 in
set_option maxHeartbeats 4000000 in
theorem t_X3_isSign (F : Nat) (t : List nd_S) (hL : (nd_SH ++ t).length < nd_ro) {z : Int32 × nd_Mem} (x1 : Int32) (σ : nd_Mem) (h : f_X3_isSign F x1 σ = some z) : nd_Fn M_X3_isSign (nd_rm 0) [.ref 38, .int x1] (nd_SH ++ t) σ (nd_Pi (nd_SH ++ t) z) := by
  refine nd_Fn.ofV (ls := [(0, .ref 38), (1, .int x1)]) pl_X3_isSign rfl (fun _ => Nat.le_of_ble_eq_true rfl) (fun _ => rfl) ?_
  unfold f_X3_isSign at h
  refine nd_aload_n dX3_isSign_0 0 rfl ?_
  refine nd_get dX3_isSign_1 gf_X3_55 (sh_38 t) rfl ?_
  refine nd_iconst dX3_isSign_4 ic_3 ?_
  refine nd_icmp_neN dX3_isSign_5 20 (by decide) h (fun h => ?_) (fun h => ?_)
  · refine nd_sub [0] rfl ?_
    exact b_X3_isSign_20 F t hL _ h
  · refine nd_aload_n dX3_isSign_8 0 rfl ?_
    refine nd_get dX3_isSign_9 gf_X3_72 (sh_38 t) rfl ?_
    refine nd_iload_n dX3_isSign_12 1 rfl ?_
    refine nd_icmp_neN dX3_isSign_13 20 (by decide) h (fun h => ?_) (fun h => ?_)
    · refine nd_sub [0] rfl ?_
      exact b_X3_isSign_20 F t hL _ h
    · refine nd_iconst dX3_isSign_16 ic_1 ?_
      refine nd_goto dX3_isSign_17 21 (by decide) ?_
      exact nd_iret dX3_isSign_21 (Nat.zero_le _) (Nat.zero_le _) rfl (by cases h; exact ⟨rfl, rfl, rfl⟩)
def f_X3_isWord_20 (F : Nat) (σ : nd_Mem) : nd_Res := (some ((0 : Int32), σ))
def f_X3_isWord (F : Nat) (x1 : Int32) (σ : nd_Mem) : nd_Res := (if (σ 38 7) = (1 : Int32) then (if (σ 38 8) = x1 then (some ((1 : Int32), σ)) else (f_X3_isWord_20 F σ)) else (f_X3_isWord_20 F σ))
set_option maxRecDepth 100000 in
set_option maxHeartbeats 4000000 in
theorem b_X3_isWord_20 (F : Nat) (t : List nd_S) (hL : (nd_SH ++ t).length < nd_ro) {z : Int32 × nd_Mem} (σ : nd_Mem) (h : f_X3_isWord_20 F σ = some z) : nd_V M_X3_isWord (nd_rm 0) (nd_Pi (nd_SH ++ t) z) 0 0 20 [(0, .ref 38)] [] (nd_SH ++ t) σ := by
  unfold f_X3_isWord_20 at h
  refine nd_iconst dX3_isWord_20 ic_0 ?_
  exact nd_iret dX3_isWord_21 (Nat.zero_le _) (Nat.zero_le _) rfl (by cases h; exact ⟨rfl, rfl, rfl⟩)
set_option maxRecDepth 100000 in
set_option maxHeartbeats 4000000 in
theorem t_X3_isWord (F : Nat) (t : List nd_S) (hL : (nd_SH ++ t).length < nd_ro) {z : Int32 × nd_Mem} (x1 : Int32) (σ : nd_Mem) (h : f_X3_isWord F x1 σ = some z) : nd_Fn M_X3_isWord (nd_rm 0) [.ref 38, .int x1] (nd_SH ++ t) σ (nd_Pi (nd_SH ++ t) z) := by
  refine nd_Fn.ofV (ls := [(0, .ref 38), (1, .int x1)]) pl_X3_isWord rfl (fun _ => Nat.le_of_ble_eq_true rfl) (fun _ => rfl) ?_
  unfold f_X3_isWord at h
  refine nd_aload_n dX3_isWord_0 0 rfl ?_
  refine nd_get dX3_isWord_1 gf_X3_55 (sh_38 t) rfl ?_
  refine nd_iconst dX3_isWord_4 ic_1 ?_
  refine nd_icmp_neN dX3_isWord_5 20 (by decide) h (fun h => ?_) (fun h => ?_)
  · refine nd_sub [0] rfl ?_
    exact b_X3_isWord_20 F t hL _ h
  · refine nd_aload_n dX3_isWord_8 0 rfl ?_
    refine nd_get dX3_isWord_9 gf_X3_72 (sh_38 t) rfl ?_
    refine nd_iload_n dX3_isWord_12 1 rfl ?_
    refine nd_icmp_neN dX3_isWord_13 20 (by decide) h (fun h => ?_) (fun h => ?_)
    · refine nd_sub [0] rfl ?_
      exact b_X3_isWord_20 F t hL _ h
    · refine nd_iconst dX3_isWord_16 ic_1 ?_
      refine nd_goto dX3_isWord_17 21 (by decide) ?_
      exact nd_iret dX3_isWord_21 (Nat.zero_le _) (Nat.zero_le _) rfl (by cases h; exact ⟨rfl, rfl, rfl⟩)
def f_X3_refuse (F : Nat) (x1 : Int32) (σ : nd_Mem) : nd_Res := (nd_let (nd_up σ 38 3 x1) fun σ1 => (nd_let (nd_up σ1 38 4 (σ1 38 9)) fun σ2 => (some ((0 : Int32), σ2))))
set_option maxRecDepth 100000 in
set_option maxHeartbeats 4000000 in
theorem t_X3_refuse (F : Nat) (t : List nd_S) (hL : (nd_SH ++ t).length < nd_ro) {z : Int32 × nd_Mem} (x1 : Int32) (σ : nd_Mem) (h : f_X3_refuse F x1 σ = some z) : nd_Fn M_X3_refuse (nd_rm 0) [.ref 38, .int x1] (nd_SH ++ t) σ (nd_Pi (nd_SH ++ t) z) := by
  refine nd_Fn.ofV (ls := [(0, .ref 38), (1, .int x1)]) pl_X3_refuse rfl (fun _ => Nat.le_of_ble_eq_true rfl) (fun _ => rfl) ?_
  unfold f_X3_refuse at h
  refine nd_aload_n dX3_refuse_0 0 rfl ?_
  refine nd_iload_n dX3_refuse_1 1 rfl ?_
  refine nd_putiN dX3_refuse_2 pf_X3_35 (sh_38 t) rfl h (fun σ1 h => ?_)
  refine nd_aload_n dX3_refuse_5 0 rfl ?_
  refine nd_aload_n dX3_refuse_6 0 rfl ?_
  refine nd_get dX3_refuse_7 gf_X3_147 (sh_38 t) rfl ?_
  refine nd_putiN dX3_refuse_10 pf_X3_22 (sh_38 t) rfl h (fun σ2 h => ?_)
  refine nd_iconst dX3_refuse_13 ic_0 ?_
  exact nd_iret dX3_refuse_14 (Nat.zero_le _) (Nat.zero_le _) rfl (by cases h; exact ⟨rfl, rfl, rfl⟩)
def f_X3_take_43 (F : Nat) (rec3 : Int32 → Int32 → nd_Mem → nd_Res) (x1 : Int32) (x2 : Int32) (σ : nd_Mem) : nd_Res := (rec3 x1 (x2 + (-8 : Int32)) σ)
def f_X3_take_3_b (F : Nat) (rec3 : Int32 → Int32 → nd_Mem → nd_Res) (x1 : Int32) (x2 : Int32) (σ : nd_Mem) : nd_Res := (if x2 < 0 then (some ((σ 38 2), σ)) else (if (400 : Int32) ≤ (σ 38 2) then (f_X3_take_43 F rec3 x1 x2 σ) else (if (σ 38 2) < 0 ∨ 400 ≤ ((σ 38 2)).toNatClampNeg then none else (nd_let (nd_up σ 47 ((σ 38 2)).toNatClampNeg ((q_ushr x1 x2) &&& (255 : Int32))) fun σ1 => (nd_let (nd_up σ1 38 2 ((σ1 38 2) + (1 : Int32))) fun σ2 => (f_X3_take_43 F rec3 x1 x2 σ2))))))
def f_X3_take_3 (F : Nat) : Nat → Int32 → Int32 → nd_Mem → nd_Res
  | 0, _, _, _ => none
  | m9 + 1, x1, x2, σ => f_X3_take_3_b F (f_X3_take_3 F m9) x1 x2 σ
def f_X3_take (F : Nat) (x1 : Int32) (σ : nd_Mem) : nd_Res := (f_X3_take_3 F F x1 (24 : Int32) σ)
set_option maxRecDepth 100000 in
set_option maxHeartbeats 4000000 in
theorem b_X3_take_43 (F : Nat) (rec3 : Int32 → Int32 → nd_Mem → nd_Res) (t : List nd_S) (hL : (nd_SH ++ t).length < nd_ro) {z : Int32 × nd_Mem} (hrec3 : ∀ (x1 : Int32) (x2 : Int32) (σ : nd_Mem), rec3 x1 x2 σ = some z → nd_V M_X3_take (nd_rm 0) (nd_Pi (nd_SH ++ t) z) 0 0 3 [(0, .ref 38), (1, .int x1), (2, .int x2)] [] (nd_SH ++ t) σ) (x1 : Int32) (x2 : Int32) (σ : nd_Mem) (h : f_X3_take_43 F rec3 x1 x2 σ = some z) : nd_V M_X3_take (nd_rm 0) (nd_Pi (nd_SH ++ t) z) 0 0 43 [(0, .ref 38), (1, .int x1), (2, .int x2)] [] (nd_SH ++ t) σ := by
  unfold f_X3_take_43 at h
  refine nd_iinc (v := (x2 + (-8 : Int32))) (ls' := [(2, .int (x2 + (-8 : Int32))), (0, .ref 38), (1, .int x1)]) dX3_take_43 2 rfl (congrArg (HAdd.hAdd _) ic_m8) (by decide) rfl ?_
  refine nd_goto dX3_take_46 3 (by decide) ?_
  refine nd_sub [1, 2, 0] rfl ?_
  exact hrec3 _ _ _ h
set_option maxRecDepth 100000 in
set_option maxHeartbeats 4000000 in
theorem b_X3_take_3 (F : Nat) (t : List nd_S) (hL : (nd_SH ++ t).length < nd_ro) {z : Int32 × nd_Mem} (m9 : Nat) : ∀ (x1 : Int32) (x2 : Int32) (σ : nd_Mem), f_X3_take_3 F m9 x1 x2 σ = some z → nd_V M_X3_take (nd_rm 0) (nd_Pi (nd_SH ++ t) z) 0 0 3 [(0, .ref 38), (1, .int x1), (2, .int x2)] [] (nd_SH ++ t) σ := by
  induction m9 with
  | zero =>
    intro x1 x2 σ h
    have h : none = some z := h
    cases h
  | succ m9 hrec3 =>
    intro x1 x2 σ h
    have h : f_X3_take_3_b F (f_X3_take_3 F m9) x1 x2 σ = some z := h
    unfold f_X3_take_3_b at h
    refine nd_iload_n dX3_take_3 2 rfl ?_
    refine nd_if_ltN dX3_take_4 49 (by decide) h (fun h => ?_) (fun h => ?_)
    · refine nd_aload_n dX3_take_49 0 rfl ?_
      refine nd_get dX3_take_50 gf_X3_32 (sh_38 t) rfl ?_
      exact nd_iret dX3_take_53 (Nat.zero_le _) (Nat.zero_le _) (vp_nar_int _) (by cases h; exact ⟨rfl, rfl, rfl⟩)
    · refine nd_aload_n dX3_take_7 0 rfl ?_
      refine nd_get dX3_take_8 gf_X3_32 (sh_38 t) rfl ?_
      refine nd_sipush dX3_take_11 is_400 ?_
      refine nd_icmp_geN dX3_take_14 43 (by decide) h (fun h => ?_) (fun h => ?_)
      · exact b_X3_take_43 F _ t hL hrec3 _ _ _ h
      · refine nd_aload_n dX3_take_17 0 rfl ?_
        refine nd_get dX3_take_18 gf_X3_18 (sh_38 t) rfl ?_
        refine nd_aload_n dX3_take_21 0 rfl ?_
        refine nd_get dX3_take_22 gf_X3_32 (sh_38 t) rfl ?_
        refine nd_iload_n dX3_take_25 1 rfl ?_
        refine nd_iload_n dX3_take_26 2 rfl ?_
        refine nd_iushr dX3_take_27 ?_
        refine nd_sipush dX3_take_28 is_255 ?_
        refine nd_iand dX3_take_31 ?_
        refine nd_iastoreN dX3_take_32 (sh_47 t) h (fun σ1 h => ?_)
        refine nd_aload_n dX3_take_33 0 rfl ?_
        refine nd_dup dX3_take_34 rfl ?_
        refine nd_get dX3_take_35 gf_X3_32 (sh_38 t) rfl ?_
        refine nd_iconst dX3_take_38 ic_1 ?_
        refine nd_iadd dX3_take_39 ?_
        refine nd_putiN dX3_take_40 pf_X3_32 (sh_38 t) rfl h (fun σ2 h => ?_)
        exact b_X3_take_43 F _ t hL hrec3 _ _ _ h
set_option maxRecDepth 100000 in
set_option maxHeartbeats 4000000 in
theorem t_X3_take (F : Nat) (t : List nd_S) (hL : (nd_SH ++ t).length < nd_ro) {z : Int32 × nd_Mem} (x1 : Int32) (σ : nd_Mem) (h : f_X3_take F x1 σ = some z) : nd_Fn M_X3_take (nd_rm 0) [.ref 38, .int x1] (nd_SH ++ t) σ (nd_Pi (nd_SH ++ t) z) := by
  refine nd_Fn.ofV (ls := [(0, .ref 38), (1, .int x1)]) pl_X3_take rfl (fun _ => Nat.le_of_ble_eq_true rfl) (fun _ => rfl) ?_
  unfold f_X3_take at h
  refine nd_bipush dX3_take_0 ib_24 ?_
  refine nd_istore_n (ls' := [(2, .int (24 : Int32)), (0, .ref 38), (1, .int x1)]) dX3_take_2 (by decide) rfl ?_
  refine nd_sub [1, 2, 0] rfl ?_
  exact b_X3_take_3 F t hL F _ _ _ h
def f_X3_wordsOf (F : Nat) (x0 : Int32) (σ : nd_Mem) : nd_Res := (if x0 = (0 : Int32) then (some ((0 : Int32), σ)) else (if x0 = (1 : Int32) then (some ((1 : Int32), σ)) else (if x0 = (2 : Int32) then (some ((2 : Int32), σ)) else (some ((3 : Int32), σ)))))
set_option maxRecDepth 100000 in
set_option maxHeartbeats 4000000 in
theorem t_X3_wordsOf (F : Nat) (sh : List nd_S) (hL : sh.length < nd_ro) {z : Int32 × nd_Mem} (x0 : Int32) (σ : nd_Mem) (h : f_X3_wordsOf F x0 σ = some z) : nd_Fn M_X3_wordsOf (nd_rm 0) [.int x0] sh σ (nd_Pr sh z) := by
  refine nd_Fn.ofV (ls := [(0, .int x0)]) pl_X3_wordsOf rfl (fun _ => Nat.le_of_ble_eq_true rfl) (fun _ => rfl) ?_
  unfold f_X3_wordsOf at h
  refine nd_iload_n dX3_wordsOf_0 0 rfl ?_
  rcases nd_ite_e h with ⟨c1, h⟩ | ⟨c1, h⟩
  · refine nd_tin dX3_wordsOf_1 0 (by rw [c1] <;> decide) (by rw [c1] <;> decide) rfl 28 (by decide) ?_
    refine nd_ldcS 0 (by decide) dX3_wordsOf_28 rfl rfl ?_
    exact nd_aret dX3_wordsOf_30 (Nat.zero_le _) (Nat.zero_le _) (Or.inl ⟨_, rfl⟩) (by cases h; exact ⟨rfl, rfl, rfl⟩)
  rcases nd_ite_e h with ⟨c2, h⟩ | ⟨c2, h⟩
  · refine nd_tin dX3_wordsOf_1 1 (by rw [c2] <;> decide) (by rw [c2] <;> decide) rfl 31 (by decide) ?_
    refine nd_ldcS 1 (by decide) dX3_wordsOf_31 rfl rfl ?_
    exact nd_aret dX3_wordsOf_33 (Nat.zero_le _) (Nat.zero_le _) (Or.inl ⟨_, rfl⟩) (by cases h; exact ⟨rfl, rfl, rfl⟩)
  rcases nd_ite_e h with ⟨c3, h⟩ | ⟨c3, h⟩
  · refine nd_tin dX3_wordsOf_1 2 (by rw [c3] <;> decide) (by rw [c3] <;> decide) rfl 34 (by decide) ?_
    refine nd_ldcS 2 (by decide) dX3_wordsOf_34 rfl rfl ?_
    exact nd_aret dX3_wordsOf_36 (Nat.zero_le _) (Nat.zero_le _) (Or.inl ⟨_, rfl⟩) (by cases h; exact ⟨rfl, rfl, rfl⟩)
  refine nd_tout dX3_wordsOf_1 (fun j h1 h2 => ?_) 37 (by decide) ?_
  · rcases (show j = 0 ∨ j = 1 ∨ j = 2 by omega) with rfl | rfl | rfl
    · exact fun e => c1 (e.trans ic_0)
    · exact fun e => c2 (e.trans ic_1)
    · exact fun e => c3 (e.trans ic_2)
  · refine nd_ldcS 3 (by decide) dX3_wordsOf_37 rfl rfl ?_
    exact nd_aret dX3_wordsOf_39 (Nat.zero_le _) (Nat.zero_le _) (Or.inl ⟨_, rfl⟩) (by cases h; exact ⟨rfl, rfl, rfl⟩)
def f_X3_wordNumber_104 (F : Nat) (rec12 : Int32 → Int32 → Int32 → Int32 → nd_Mem → nd_Res) (x1 : Int32) (x2 : Int32) (x3 : Int32) (x4 : Int32) (σ : nd_Mem) : nd_Res := (rec12 x1 x2 x3 (x4 + (1 : Int32)) σ)
def f_X3_wordNumber_73 (F : Nat) (rec12 : Int32 → Int32 → Int32 → Int32 → nd_Mem → nd_Res) (x1 : Int32) (x2 : Int32) (x4 : Int32) (s0 : Int32) (σ : nd_Mem) : nd_Res := (f_X3_wordNumber_104 F rec12 x1 (x2 + (1 : Int32)) s0 x4 σ)
def f_X3_wordNumber_72 (F : Nat) (rec12 : Int32 → Int32 → Int32 → Int32 → nd_Mem → nd_Res) (x1 : Int32) (x2 : Int32) (x4 : Int32) (σ : nd_Mem) : nd_Res := (f_X3_wordNumber_73 F rec12 x1 x2 x4 (0 : Int32) σ)
def f_X3_wordNumber_94 (F : Nat) (rec12 : Int32 → Int32 → Int32 → Int32 → nd_Mem → nd_Res) (x1 : Int32) (x4 : Int32) (σ : nd_Mem) : nd_Res := (f_X3_wordNumber_104 F rec12 (x1 + (1 : Int32)) (σ 38 9) (1 : Int32) x4 σ)
def f_X3_wordNumber_126 (F : Nat) (σ : nd_Mem) : nd_Res := (some ((-1 : Int32), σ))
def f_X3_wordNumber_12_b (F : Nat) (rec12 : Int32 → Int32 → Int32 → Int32 → nd_Mem → nd_Res) (x1 : Int32) (x2 : Int32) (x3 : Int32) (x4 : Int32) (σ : nd_Mem) : nd_Res := (if 5 ≤ (σ 38 5).toNatClampNeg then none else (nd_bind (f_J0_length_8abf5 F (σ 38 5).toNatClampNeg σ) fun r2 σ3 => (if r2 ≤ x4 then (if x3 = 0 then (f_X3_wordNumber_126 F σ3) else (if x2 = (σ3 38 10) then (some (x1, σ3)) else (f_X3_wordNumber_126 F σ3))) else (if 5 ≤ (σ3 38 5).toNatClampNeg then none else (nd_bind (f_J0_charAt_5068e F (σ3 38 5).toNatClampNeg x4 σ3) fun r6 σ7 => (if r6 = (32 : Int32) then (if x3 = 0 then (f_X3_wordNumber_94 F rec12 x1 x4 σ7) else (if x2 = (σ7 38 10) then (some (x1, σ7)) else (f_X3_wordNumber_94 F rec12 x1 x4 σ7))) else (if x3 = 0 then (f_X3_wordNumber_72 F rec12 x1 x2 x4 σ7) else (if (σ7 38 10) ≤ x2 then (f_X3_wordNumber_72 F rec12 x1 x2 x4 σ7) else (if x2 < 0 ∨ 400 ≤ (x2).toNatClampNeg then none else (if 5 ≤ (σ7 38 5).toNatClampNeg then none else (nd_bind (f_J0_charAt_5068e F (σ7 38 5).toNatClampNeg x4 σ7) fun r10 σ11 => (if (σ7 47 (x2).toNatClampNeg) = r10 then (f_X3_wordNumber_73 F rec12 x1 x2 x4 (1 : Int32) σ11) else (f_X3_wordNumber_72 F rec12 x1 x2 x4 σ11)))))))))))))
def f_X3_wordNumber_12 (F : Nat) : Nat → Int32 → Int32 → Int32 → Int32 → nd_Mem → nd_Res
  | 0, _, _, _, _, _ => none
  | m9 + 1, x1, x2, x3, x4, σ => f_X3_wordNumber_12_b F (f_X3_wordNumber_12 F m9) x1 x2 x3 x4 σ
def f_X3_wordNumber (F : Nat) (σ : nd_Mem) : nd_Res := (f_X3_wordNumber_12 F F (0 : Int32) (σ 38 9) (1 : Int32) (0 : Int32) σ)
set_option maxRecDepth 100000 in
set_option maxHeartbeats 4000000 in
theorem b_X3_wordNumber_104 (F : Nat) (rec12 : Int32 → Int32 → Int32 → Int32 → nd_Mem → nd_Res) (t : List nd_S) (hL : (nd_SH ++ t).length < nd_ro) {z : Int32 × nd_Mem} (hrec12 : ∀ (x1 : Int32) (x2 : Int32) (x3 : Int32) (x4 : Int32) (σ : nd_Mem), rec12 x1 x2 x3 x4 σ = some z → nd_V M_X3_wordNumber (nd_rm 4) (nd_Pi (nd_SH ++ t) z) 0 0 12 [(0, .ref 38), (1, .int x1), (2, .int x2), (3, .int x3), (4, .int x4)] [] (nd_SH ++ t) σ) (x1 : Int32) (x2 : Int32) (x3 : Int32) (x4 : Int32) (σ : nd_Mem) (h : f_X3_wordNumber_104 F rec12 x1 x2 x3 x4 σ = some z) : nd_V M_X3_wordNumber (nd_rm 4) (nd_Pi (nd_SH ++ t) z) 0 0 104 [(0, .ref 38), (1, .int x1), (2, .int x2), (3, .int x3), (4, .int x4)] [] (nd_SH ++ t) σ := by
  unfold f_X3_wordNumber_104 at h
  refine nd_iinc (v := (x4 + (1 : Int32))) (ls' := [(4, .int (x4 + (1 : Int32))), (0, .ref 38), (1, .int x1), (2, .int x2), (3, .int x3)]) dX3_wordNumber_104 4 rfl (congrArg (HAdd.hAdd _) ic_1) (by decide) rfl ?_
  refine nd_goto dX3_wordNumber_107 12 (by decide) ?_
  refine nd_sub [1, 2, 3, 4, 0] rfl ?_
  exact hrec12 _ _ _ _ _ h
set_option maxRecDepth 100000 in
set_option maxHeartbeats 4000000 in
theorem b_X3_wordNumber_73 (F : Nat) (rec12 : Int32 → Int32 → Int32 → Int32 → nd_Mem → nd_Res) (t : List nd_S) (hL : (nd_SH ++ t).length < nd_ro) {z : Int32 × nd_Mem} (hrec12 : ∀ (x1 : Int32) (x2 : Int32) (x3 : Int32) (x4 : Int32) (σ : nd_Mem), rec12 x1 x2 x3 x4 σ = some z → nd_V M_X3_wordNumber (nd_rm 4) (nd_Pi (nd_SH ++ t) z) 0 0 12 [(0, .ref 38), (1, .int x1), (2, .int x2), (3, .int x3), (4, .int x4)] [] (nd_SH ++ t) σ) (x1 : Int32) (x2 : Int32) (x4 : Int32) (s0 : Int32) (σ : nd_Mem) (h : f_X3_wordNumber_73 F rec12 x1 x2 x4 s0 σ = some z) : nd_V M_X3_wordNumber (nd_rm 4) (nd_Pi (nd_SH ++ t) z) 0 0 73 [(0, .ref 38), (1, .int x1), (2, .int x2), (4, .int x4)] [.int s0] (nd_SH ++ t) σ := by
  unfold f_X3_wordNumber_73 at h
  refine nd_istore_n (ls' := [(3, .int s0), (0, .ref 38), (1, .int x1), (2, .int x2), (4, .int x4)]) dX3_wordNumber_73 (by decide) rfl ?_
  refine nd_iinc (v := (x2 + (1 : Int32))) (ls' := [(2, .int (x2 + (1 : Int32))), (3, .int s0), (0, .ref 38), (1, .int x1), (4, .int x4)]) dX3_wordNumber_74 3 rfl (congrArg (HAdd.hAdd _) ic_1) (by decide) rfl ?_
  refine nd_goto dX3_wordNumber_77 104 (by decide) ?_
  refine nd_sub [2, 3, 0, 1, 4] rfl ?_
  exact b_X3_wordNumber_104 F _ t hL hrec12 _ _ _ _ _ h
set_option maxRecDepth 100000 in
set_option maxHeartbeats 4000000 in
theorem b_X3_wordNumber_72 (F : Nat) (rec12 : Int32 → Int32 → Int32 → Int32 → nd_Mem → nd_Res) (t : List nd_S) (hL : (nd_SH ++ t).length < nd_ro) {z : Int32 × nd_Mem} (hrec12 : ∀ (x1 : Int32) (x2 : Int32) (x3 : Int32) (x4 : Int32) (σ : nd_Mem), rec12 x1 x2 x3 x4 σ = some z → nd_V M_X3_wordNumber (nd_rm 4) (nd_Pi (nd_SH ++ t) z) 0 0 12 [(0, .ref 38), (1, .int x1), (2, .int x2), (3, .int x3), (4, .int x4)] [] (nd_SH ++ t) σ) (x1 : Int32) (x2 : Int32) (x4 : Int32) (σ : nd_Mem) (h : f_X3_wordNumber_72 F rec12 x1 x2 x4 σ = some z) : nd_V M_X3_wordNumber (nd_rm 4) (nd_Pi (nd_SH ++ t) z) 0 0 72 [(0, .ref 38), (1, .int x1), (2, .int x2), (4, .int x4)] [] (nd_SH ++ t) σ := by
  unfold f_X3_wordNumber_72 at h
  refine nd_iconst dX3_wordNumber_72 ic_0 ?_
  exact b_X3_wordNumber_73 F _ t hL hrec12 _ _ _ _ _ h
set_option maxRecDepth 100000 in
set_option maxHeartbeats 4000000 in
theorem b_X3_wordNumber_94 (F : Nat) (rec12 : Int32 → Int32 → Int32 → Int32 → nd_Mem → nd_Res) (t : List nd_S) (hL : (nd_SH ++ t).length < nd_ro) {z : Int32 × nd_Mem} (hrec12 : ∀ (x1 : Int32) (x2 : Int32) (x3 : Int32) (x4 : Int32) (σ : nd_Mem), rec12 x1 x2 x3 x4 σ = some z → nd_V M_X3_wordNumber (nd_rm 4) (nd_Pi (nd_SH ++ t) z) 0 0 12 [(0, .ref 38), (1, .int x1), (2, .int x2), (3, .int x3), (4, .int x4)] [] (nd_SH ++ t) σ) (x1 : Int32) (x4 : Int32) (σ : nd_Mem) (h : f_X3_wordNumber_94 F rec12 x1 x4 σ = some z) : nd_V M_X3_wordNumber (nd_rm 4) (nd_Pi (nd_SH ++ t) z) 0 0 94 [(0, .ref 38), (1, .int x1), (4, .int x4)] [] (nd_SH ++ t) σ := by
  unfold f_X3_wordNumber_94 at h
  refine nd_iinc (v := (x1 + (1 : Int32))) (ls' := [(1, .int (x1 + (1 : Int32))), (0, .ref 38), (4, .int x4)]) dX3_wordNumber_94 1 rfl (congrArg (HAdd.hAdd _) ic_1) (by decide) rfl ?_
  refine nd_aload_n dX3_wordNumber_97 1 rfl ?_
  refine nd_get dX3_wordNumber_98 gf_X3_147 (sh_38 t) rfl ?_
  refine nd_istore_n (ls' := [(2, .int (σ 38 9)), (1, .int (x1 + (1 : Int32))), (0, .ref 38), (4, .int x4)]) dX3_wordNumber_101 (by decide) rfl ?_
  refine nd_iconst dX3_wordNumber_102 ic_1 ?_
  refine nd_istore_n (ls' := [(3, .int (1 : Int32)), (2, .int (σ 38 9)), (1, .int (x1 + (1 : Int32))), (0, .ref 38), (4, .int x4)]) dX3_wordNumber_103 (by decide) rfl ?_
  refine nd_sub [3, 2, 1, 0, 4] rfl ?_
  exact b_X3_wordNumber_104 F _ t hL hrec12 _ _ _ _ _ h
set_option maxRecDepth 100000 in
set_option maxHeartbeats 4000000 in
theorem b_X3_wordNumber_126 (F : Nat) (t : List nd_S) (hL : (nd_SH ++ t).length < nd_ro) {z : Int32 × nd_Mem} (σ : nd_Mem) (h : f_X3_wordNumber_126 F σ = some z) : nd_V M_X3_wordNumber (nd_rm 4) (nd_Pi (nd_SH ++ t) z) 0 0 126 [(0, .ref 38)] [] (nd_SH ++ t) σ := by
  unfold f_X3_wordNumber_126 at h
  refine nd_iconst dX3_wordNumber_126 ic_m1 ?_
  exact nd_iret dX3_wordNumber_127 (Nat.zero_le _) (Nat.zero_le _) (vp_nar_int _) (by cases h; exact ⟨rfl, rfl, rfl⟩)
set_option maxRecDepth 100000 in
set_option maxHeartbeats 4000000 in
theorem b_X3_wordNumber_12 (F : Nat) (t : List nd_S) (hL : (nd_SH ++ t).length < nd_ro) {z : Int32 × nd_Mem} (m9 : Nat) : ∀ (x1 : Int32) (x2 : Int32) (x3 : Int32) (x4 : Int32) (σ : nd_Mem), f_X3_wordNumber_12 F m9 x1 x2 x3 x4 σ = some z → nd_V M_X3_wordNumber (nd_rm 4) (nd_Pi (nd_SH ++ t) z) 0 0 12 [(0, .ref 38), (1, .int x1), (2, .int x2), (3, .int x3), (4, .int x4)] [] (nd_SH ++ t) σ := by
  induction m9 with
  | zero =>
    intro x1 x2 x3 x4 σ h
    have h : none = some z := h
    cases h
  | succ m9 hrec12 =>
    intro x1 x2 x3 x4 σ h
    have h : f_X3_wordNumber_12_b F (f_X3_wordNumber_12 F m9) x1 x2 x3 x4 σ = some z := h
    unfold f_X3_wordNumber_12_b at h
    refine nd_iload dX3_wordNumber_12 4 rfl ?_
    refine nd_aload_n dX3_wordNumber_14 0 rfl ?_
    refine nd_get dX3_wordNumber_15 gf_X3_28 (sh_38 t) rfl ?_
    have hw1 := nd_no_e h
    have h := hw1.2
    have hw1 := Nat.not_le.mp hw1.1
    obtain ⟨r2, σ3, hc4, h⟩ := nd_bind_e h
    refine nd_cti [] [.int x4] hw1 dX3_wordNumber_18 cl_X3_167 ⟨Nat.le_of_ble_eq_true rfl, Nat.le_of_ble_eq_true rfl⟩ rfl (Nat.le_of_ble_eq_true rfl) hL (t_J0_length_8abf5 F (σ 38 5).toNatClampNeg (nd_SH ++ t) hL hw1 _ hc4) ?_
    refine nd_icmp_geN dX3_wordNumber_21 110 (by decide) h (fun h => ?_) (fun h => ?_)
    · refine nd_iload_n dX3_wordNumber_110 3 rfl ?_
      refine nd_if_eqN dX3_wordNumber_111 126 (by decide) h (fun h => ?_) (fun h => ?_)
      · refine nd_sub [0] rfl ?_
        exact b_X3_wordNumber_126 F t hL _ h
      · refine nd_iload_n dX3_wordNumber_114 2 rfl ?_
        refine nd_aload_n dX3_wordNumber_115 0 rfl ?_
        refine nd_get dX3_wordNumber_116 gf_X3_49 (sh_38 t) rfl ?_
        refine nd_icmp_neN dX3_wordNumber_119 126 (by decide) h (fun h => ?_) (fun h => ?_)
        · refine nd_sub [0] rfl ?_
          exact b_X3_wordNumber_126 F t hL _ h
        · refine nd_iload_n dX3_wordNumber_122 1 rfl ?_
          refine nd_goto dX3_wordNumber_123 127 (by decide) ?_
          exact nd_iret dX3_wordNumber_127 (Nat.zero_le _) (Nat.zero_le _) (vp_nar_int _) (by cases h; exact ⟨rfl, rfl, rfl⟩)
    · refine nd_aload_n dX3_wordNumber_24 0 rfl ?_
      refine nd_get dX3_wordNumber_25 gf_X3_28 (sh_38 t) rfl ?_
      have hw5 := nd_no_e h
      have h := hw5.2
      have hw5 := Nat.not_le.mp hw5.1
      refine nd_iload dX3_wordNumber_28 4 rfl ?_
      obtain ⟨r6, σ7, hc8, h⟩ := nd_bind_e h
      refine nd_cti [.int x4] [] hw5 dX3_wordNumber_30 cl_X3_170 ⟨Nat.le_of_ble_eq_true rfl, Nat.le_of_ble_eq_true rfl⟩ rfl (Nat.le_of_ble_eq_true rfl) hL (t_J0_charAt_5068e F (σ3 38 5).toNatClampNeg (nd_SH ++ t) hL hw5 _ _ hc8) ?_
      refine nd_bipush dX3_wordNumber_33 ib_32 ?_
      refine nd_icmp_eqN dX3_wordNumber_35 80 (by decide) h (fun h => ?_) (fun h => ?_)
      · refine nd_iload_n dX3_wordNumber_80 3 rfl ?_
        refine nd_if_eqN dX3_wordNumber_81 94 (by decide) h (fun h => ?_) (fun h => ?_)
        · refine nd_sub [0, 1, 4] rfl ?_
          exact b_X3_wordNumber_94 F _ t hL hrec12 _ _ _ h
        · refine nd_iload_n dX3_wordNumber_84 2 rfl ?_
          refine nd_aload_n dX3_wordNumber_85 0 rfl ?_
          refine nd_get dX3_wordNumber_86 gf_X3_49 (sh_38 t) rfl ?_
          refine nd_icmp_neN dX3_wordNumber_89 94 (by decide) h (fun h => ?_) (fun h => ?_)
          · refine nd_sub [0, 1, 4] rfl ?_
            exact b_X3_wordNumber_94 F _ t hL hrec12 _ _ _ h
          · refine nd_iload_n dX3_wordNumber_92 1 rfl ?_
            exact nd_iret dX3_wordNumber_93 (Nat.zero_le _) (Nat.zero_le _) (vp_nar_int _) (by cases h; exact ⟨rfl, rfl, rfl⟩)
      · refine nd_iload_n dX3_wordNumber_38 3 rfl ?_
        refine nd_if_eqN dX3_wordNumber_39 72 (by decide) h (fun h => ?_) (fun h => ?_)
        · refine nd_sub [0, 1, 2, 4] rfl ?_
          exact b_X3_wordNumber_72 F _ t hL hrec12 _ _ _ _ h
        · refine nd_iload_n dX3_wordNumber_42 2 rfl ?_
          refine nd_aload_n dX3_wordNumber_43 0 rfl ?_
          refine nd_get dX3_wordNumber_44 gf_X3_49 (sh_38 t) rfl ?_
          refine nd_icmp_geN dX3_wordNumber_47 72 (by decide) h (fun h => ?_) (fun h => ?_)
          · refine nd_sub [0, 1, 2, 4] rfl ?_
            exact b_X3_wordNumber_72 F _ t hL hrec12 _ _ _ _ h
          · refine nd_aload_n dX3_wordNumber_50 0 rfl ?_
            refine nd_get dX3_wordNumber_51 gf_X3_18 (sh_38 t) rfl ?_
            refine nd_iload_n dX3_wordNumber_54 2 rfl ?_
            refine nd_ialoadN dX3_wordNumber_55 (sh_47 t) h (fun h => ?_)
            refine nd_aload_n dX3_wordNumber_56 0 rfl ?_
            refine nd_get dX3_wordNumber_57 gf_X3_28 (sh_38 t) rfl ?_
            have hw9 := nd_no_e h
            have h := hw9.2
            have hw9 := Nat.not_le.mp hw9.1
            refine nd_iload dX3_wordNumber_60 4 rfl ?_
            obtain ⟨r10, σ11, hc12, h⟩ := nd_bind_e h
            refine nd_cti [.int x4] [.int (σ7 47 (x2).toNatClampNeg)] hw9 dX3_wordNumber_62 cl_X3_170 ⟨Nat.le_of_ble_eq_true rfl, Nat.le_of_ble_eq_true rfl⟩ rfl (Nat.le_of_ble_eq_true rfl) hL (t_J0_charAt_5068e F (σ7 38 5).toNatClampNeg (nd_SH ++ t) hL hw9 _ _ hc12) ?_
            refine nd_icmp_neN dX3_wordNumber_65 72 (by decide) h (fun h => ?_) (fun h => ?_)
            · refine nd_sub [0, 1, 2, 4] rfl ?_
              exact b_X3_wordNumber_72 F _ t hL hrec12 _ _ _ _ h
            · refine nd_iconst dX3_wordNumber_68 ic_1 ?_
              refine nd_goto dX3_wordNumber_69 73 (by decide) ?_
              refine nd_sub [0, 1, 2, 4] rfl ?_
              exact b_X3_wordNumber_73 F _ t hL hrec12 _ _ _ _ _ h
set_option maxRecDepth 100000 in
set_option maxHeartbeats 4000000 in
theorem t_X3_wordNumber (F : Nat) (t : List nd_S) (hL : (nd_SH ++ t).length < nd_ro) {z : Int32 × nd_Mem} (σ : nd_Mem) (h : f_X3_wordNumber F σ = some z) : nd_Fn M_X3_wordNumber (nd_rm 4) [.ref 38] (nd_SH ++ t) σ (nd_Pi (nd_SH ++ t) z) := by
  refine nd_Fn.ofV (ls := [(0, .ref 38)]) pl_X3_wordNumber rfl (fun _ => Nat.le_of_ble_eq_true rfl) (fun _ => rfl) ?_
  unfold f_X3_wordNumber at h
  refine nd_iconst dX3_wordNumber_0 ic_0 ?_
  refine nd_istore_n (ls' := [(1, .int (0 : Int32)), (0, .ref 38)]) dX3_wordNumber_1 (by decide) rfl ?_
  refine nd_aload_n dX3_wordNumber_2 1 rfl ?_
  refine nd_get dX3_wordNumber_3 gf_X3_147 (sh_38 t) rfl ?_
  refine nd_istore_n (ls' := [(2, .int (σ 38 9)), (1, .int (0 : Int32)), (0, .ref 38)]) dX3_wordNumber_6 (by decide) rfl ?_
  refine nd_iconst dX3_wordNumber_7 ic_1 ?_
  refine nd_istore_n (ls' := [(3, .int (1 : Int32)), (2, .int (σ 38 9)), (1, .int (0 : Int32)), (0, .ref 38)]) dX3_wordNumber_8 (by decide) rfl ?_
  refine nd_iconst dX3_wordNumber_9 ic_0 ?_
  refine nd_istore (ls' := [(4, .int (0 : Int32)), (3, .int (1 : Int32)), (2, .int (σ 38 9)), (1, .int (0 : Int32)), (0, .ref 38)]) dX3_wordNumber_10 (by decide) rfl ?_
  refine nd_sub [4, 3, 2, 1, 0] rfl ?_
  exact b_X3_wordNumber_12 F t hL F _ _ _ _ _ h
def f_X3_advance_47 (F : Nat) (rec8 : nd_Mem → nd_Res) (σ : nd_Mem) : nd_Res := (nd_let (nd_up σ 38 9 ((σ 38 9) + (1 : Int32))) fun σ1 => (rec8 σ1))
def f_X3_advance_168 (F : Nat) (s0 : Int32) (σ : nd_Mem) : nd_Res := (nd_let (nd_up σ 38 7 s0) fun σ1 => (some (0, σ1)))
def f_X3_advance_146 (F : Nat) (σ : nd_Mem) : nd_Res := (nd_bind (f_X3_wordNumber F σ) fun r1 σ2 => (nd_let (nd_up σ2 38 8 r1) fun σ4 => (if (σ4 38 8) = (-1 : Int32) then (f_X3_advance_168 F (4 : Int32) σ4) else (f_X3_advance_168 F (1 : Int32) σ4))))
def f_X3_advance_107_b (F : Nat) (rec107 : nd_Mem → nd_Res) (σ : nd_Mem) : nd_Res := (if (σ 38 2) ≤ (σ 38 10) then (f_X3_advance_146 F σ) else (if (σ 38 10) < 0 ∨ 400 ≤ ((σ 38 10)).toNatClampNeg then none else (nd_bind (f_X3_isLetter F (σ 47 ((σ 38 10)).toNatClampNeg) σ) fun r1 σ2 => (if r1 = 0 then (f_X3_advance_146 F σ2) else (nd_let (nd_up σ2 38 10 ((σ2 38 10) + (1 : Int32))) fun σ4 => (rec107 σ4))))))
def f_X3_advance_107 (F : Nat) : Nat → nd_Mem → nd_Res
  | 0, _ => none
  | m9 + 1, σ => f_X3_advance_107_b F (f_X3_advance_107 F m9) σ
def f_X3_advance_253 (F : Nat) (rec189 : nd_Mem → nd_Res) (s0 : Int32) (σ : nd_Mem) : nd_Res := (nd_let (nd_up σ 38 8 s0) fun σ1 => (nd_let (nd_up σ1 38 10 ((σ1 38 10) + (1 : Int32))) fun σ2 => (rec189 σ2)))
def f_X3_advance_288 (F : Nat) (s0 : Int32) (σ : nd_Mem) : nd_Res := (nd_let (nd_up σ 38 7 s0) fun σ1 => (some (0, σ1)))
def f_X3_advance_269 (F : Nat) (σ : nd_Mem) : nd_Res := (if ((σ 38 10) - (σ 38 9)) ≤ (4 : Int32) then (f_X3_advance_288 F (2 : Int32) σ) else (f_X3_advance_288 F (4 : Int32) σ))
def f_X3_advance_189_b (F : Nat) (rec189 : nd_Mem → nd_Res) (σ : nd_Mem) : nd_Res := (if (σ 38 2) ≤ (σ 38 10) then (f_X3_advance_269 F σ) else (if (σ 38 10) < 0 ∨ 400 ≤ ((σ 38 10)).toNatClampNeg then none else (nd_bind (f_X3_isDigit F (σ 47 ((σ 38 10)).toNatClampNeg) σ) fun r1 σ2 => (if r1 = 0 then (f_X3_advance_269 F σ2) else (if (σ2 38 8) ≤ (9999 : Int32) then (if (σ2 38 10) < 0 ∨ 400 ≤ ((σ2 38 10)).toNatClampNeg then none else (f_X3_advance_253 F rec189 ((((σ2 38 8) * (10 : Int32)) + (σ2 47 ((σ2 38 10)).toNatClampNeg)) - (48 : Int32)) σ2)) else (f_X3_advance_253 F rec189 (σ2 38 8) σ2))))))
def f_X3_advance_189 (F : Nat) : Nat → nd_Mem → nd_Res
  | 0, _ => none
  | m9 + 1, σ => f_X3_advance_189_b F (f_X3_advance_189 F m9) σ
def f_X3_advance_336 (F : Nat) (s0 : Int32) (σ : nd_Mem) : nd_Res := (nd_let (nd_up σ 38 7 s0) fun σ1 => (some (0, σ1)))
def f_X3_advance_60 (F : Nat) (σ : nd_Mem) : nd_Res := (nd_let (nd_up σ 38 10 (σ 38 9)) fun σ1 => (nd_let (nd_up σ1 38 8 (0 : Int32)) fun σ2 => (if (σ2 38 9) < (σ2 38 2) then (if (σ2 38 9) < 0 ∨ 400 ≤ ((σ2 38 9)).toNatClampNeg then none else (nd_bind (f_X3_isLetter F (σ2 47 ((σ2 38 9)).toNatClampNeg) σ2) fun r3 σ4 => (if r3 = 0 then (if (σ4 38 9) < 0 ∨ 400 ≤ ((σ4 38 9)).toNatClampNeg then none else (nd_bind (f_X3_isDigit F (σ4 47 ((σ4 38 9)).toNatClampNeg) σ4) fun r6 σ7 => (if r6 = 0 then (nd_let (nd_up σ7 38 10 ((σ7 38 10) + (1 : Int32))) fun σ9 => (if (σ9 38 9) < 0 ∨ 400 ≤ ((σ9 38 9)).toNatClampNeg then none else (nd_let (nd_up σ9 38 8 (σ9 47 ((σ9 38 9)).toNatClampNeg)) fun σ10 => (nd_bind (f_J0_indexOf_0f7a4 F 4 (((σ10 38 8)).toUInt32 % 65536).toInt32 σ10) fun r11 σ12 => (if 0 ≤ r11 then (f_X3_advance_336 F (3 : Int32) σ12) else (f_X3_advance_336 F (4 : Int32) σ12)))))) else (f_X3_advance_189 F F σ7)))) else (f_X3_advance_107 F F σ4)))) else (nd_let (nd_up σ2 38 7 (0 : Int32)) fun σ14 => (some (0, σ14))))))
def f_X3_advance_8_b (F : Nat) (rec8 : nd_Mem → nd_Res) (σ : nd_Mem) : nd_Res := (if (σ 38 2) ≤ (σ 38 9) then (f_X3_advance_60 F σ) else (if (σ 38 9) < 0 ∨ 400 ≤ ((σ 38 9)).toNatClampNeg then none else (if (σ 47 ((σ 38 9)).toNatClampNeg) = (32 : Int32) then (f_X3_advance_47 F rec8 σ) else (if (σ 38 9) < 0 ∨ 400 ≤ ((σ 38 9)).toNatClampNeg then none else (if (σ 47 ((σ 38 9)).toNatClampNeg) = (10 : Int32) then (f_X3_advance_47 F rec8 σ) else (f_X3_advance_60 F σ))))))
def f_X3_advance_8 (F : Nat) : Nat → nd_Mem → nd_Res
  | 0, _ => none
  | m9 + 1, σ => f_X3_advance_8_b F (f_X3_advance_8 F m9) σ
def f_X3_advance (F : Nat) (σ : nd_Mem) : nd_Res := (nd_let (nd_up σ 38 9 (σ 38 10)) fun σ1 => (f_X3_advance_8 F F σ1))
set_option maxRecDepth 100000 in
set_option maxHeartbeats 4000000 in
theorem b_X3_advance_47 (F : Nat) (rec8 : nd_Mem → nd_Res) (t : List nd_S) (hL : (nd_SH ++ t).length < nd_ro) {z : Int32 × nd_Mem} (hrec8 : ∀ (σ : nd_Mem), rec8 σ = some z → nd_V M_X3_advance (nd_rm 5) (nd_Pv (nd_SH ++ t) z) 0 0 8 [(0, .ref 38)] [] (nd_SH ++ t) σ) (σ : nd_Mem) (h : f_X3_advance_47 F rec8 σ = some z) : nd_V M_X3_advance (nd_rm 5) (nd_Pv (nd_SH ++ t) z) 0 0 47 [(0, .ref 38)] [] (nd_SH ++ t) σ := by
  unfold f_X3_advance_47 at h
  refine nd_aload_n dX3_advance_47 0 rfl ?_
  refine nd_dup dX3_advance_48 rfl ?_
  refine nd_get dX3_advance_49 gf_X3_147 (sh_38 t) rfl ?_
  refine nd_iconst dX3_advance_52 ic_1 ?_
  refine nd_iadd dX3_advance_53 ?_
  refine nd_putiN dX3_advance_54 pf_X3_147 (sh_38 t) rfl h (fun σ1 h => ?_)
  refine nd_goto dX3_advance_57 8 (by decide) ?_
  exact hrec8 _ h
set_option maxRecDepth 100000 in
set_option maxHeartbeats 4000000 in
theorem b_X3_advance_168 (F : Nat) (t : List nd_S) (hL : (nd_SH ++ t).length < nd_ro) {z : Int32 × nd_Mem} (s0 : Int32) (σ : nd_Mem) (h : f_X3_advance_168 F s0 σ = some z) : nd_V M_X3_advance (nd_rm 5) (nd_Pv (nd_SH ++ t) z) 0 0 168 [(0, .ref 38)] [.int s0, .ref 38] (nd_SH ++ t) σ := by
  unfold f_X3_advance_168 at h
  refine nd_putiN dX3_advance_168 pf_X3_55 (sh_38 t) rfl h (fun σ1 h => ?_)
  refine nd_goto dX3_advance_171 339 (by decide) ?_
  exact nd_vret dX3_advance_339 (Nat.zero_le _) (Nat.zero_le _) trivial (by cases h; exact ⟨rfl, rfl, rfl⟩)
set_option maxRecDepth 100000 in
set_option maxHeartbeats 4000000 in
theorem b_X3_advance_146 (F : Nat) (t : List nd_S) (hL : (nd_SH ++ t).length < nd_ro) {z : Int32 × nd_Mem} (σ : nd_Mem) (h : f_X3_advance_146 F σ = some z) : nd_V M_X3_advance (nd_rm 5) (nd_Pv (nd_SH ++ t) z) 0 0 146 [(0, .ref 38)] [] (nd_SH ++ t) σ := by
  unfold f_X3_advance_146 at h
  refine nd_aload_n dX3_advance_146 0 rfl ?_
  refine nd_aload_n dX3_advance_147 0 rfl ?_
  obtain ⟨r1, σ2, hc3, h⟩ := nd_bind_e h
  refine nd_cvi [] [.ref 38] dX3_advance_148 cl_X3_153 (sh_38 t) ⟨Nat.le_of_ble_eq_true rfl, Nat.le_of_ble_eq_true rfl⟩ rfl (Nat.le_of_ble_eq_true rfl) hL (t_X3_wordNumber F t hL _ hc3) ?_
  refine nd_putiN dX3_advance_151 pf_X3_72 (sh_38 t) rfl h (fun σ4 h => ?_)
  refine nd_aload_n dX3_advance_154 0 rfl ?_
  refine nd_aload_n dX3_advance_155 0 rfl ?_
  refine nd_get dX3_advance_156 gf_X3_72 (sh_38 t) rfl ?_
  refine nd_iconst dX3_advance_159 ic_m1 ?_
  refine nd_icmp_neN dX3_advance_160 167 (by decide) h (fun h => ?_) (fun h => ?_)
  · refine nd_iconst dX3_advance_167 ic_1 ?_
    exact b_X3_advance_168 F t hL _ _ h
  · refine nd_iconst dX3_advance_163 ic_4 ?_
    refine nd_goto dX3_advance_164 168 (by decide) ?_
    exact b_X3_advance_168 F t hL _ _ h
set_option maxRecDepth 100000 in
set_option maxHeartbeats 4000000 in
theorem b_X3_advance_107 (F : Nat) (t : List nd_S) (hL : (nd_SH ++ t).length < nd_ro) {z : Int32 × nd_Mem} (m9 : Nat) : ∀ (σ : nd_Mem), f_X3_advance_107 F m9 σ = some z → nd_V M_X3_advance (nd_rm 5) (nd_Pv (nd_SH ++ t) z) 0 0 107 [(0, .ref 38)] [] (nd_SH ++ t) σ := by
  induction m9 with
  | zero =>
    intro σ h
    have h : none = some z := h
    cases h
  | succ m9 hrec107 =>
    intro σ h
    have h : f_X3_advance_107_b F (f_X3_advance_107 F m9) σ = some z := h
    unfold f_X3_advance_107_b at h
    refine nd_aload_n dX3_advance_107 0 rfl ?_
    refine nd_get dX3_advance_108 gf_X3_49 (sh_38 t) rfl ?_
    refine nd_aload_n dX3_advance_111 0 rfl ?_
    refine nd_get dX3_advance_112 gf_X3_32 (sh_38 t) rfl ?_
    refine nd_icmp_geN dX3_advance_115 146 (by decide) h (fun h => ?_) (fun h => ?_)
    · exact b_X3_advance_146 F t hL _ h
    · refine nd_aload_n dX3_advance_118 0 rfl ?_
      refine nd_get dX3_advance_119 gf_X3_18 (sh_38 t) rfl ?_
      refine nd_aload_n dX3_advance_122 0 rfl ?_
      refine nd_get dX3_advance_123 gf_X3_49 (sh_38 t) rfl ?_
      refine nd_ialoadN dX3_advance_126 (sh_47 t) h (fun h => ?_)
      obtain ⟨r1, σ2, hc3, h⟩ := nd_bind_e h
      refine nd_csi [.int (σ 47 ((σ 38 10)).toNatClampNeg)] [] dX3_advance_127 cl_X3_150 ⟨Nat.le_of_ble_eq_true rfl, Nat.le_of_ble_eq_true rfl⟩ rfl (Nat.le_of_ble_eq_true rfl) hL (t_X3_isLetter F (nd_SH ++ t) hL _ _ hc3) ?_
      refine nd_if_eqN dX3_advance_130 146 (by decide) h (fun h => ?_) (fun h => ?_)
      · exact b_X3_advance_146 F t hL _ h
      · refine nd_aload_n dX3_advance_133 0 rfl ?_
        refine nd_dup dX3_advance_134 rfl ?_
        refine nd_get dX3_advance_135 gf_X3_49 (sh_38 t) rfl ?_
        refine nd_iconst dX3_advance_138 ic_1 ?_
        refine nd_iadd dX3_advance_139 ?_
        refine nd_putiN dX3_advance_140 pf_X3_49 (sh_38 t) rfl h (fun σ4 h => ?_)
        refine nd_goto dX3_advance_143 107 (by decide) ?_
        exact hrec107 _ h
set_option maxRecDepth 100000 in
set_option maxHeartbeats 4000000 in
theorem b_X3_advance_253 (F : Nat) (rec189 : nd_Mem → nd_Res) (t : List nd_S) (hL : (nd_SH ++ t).length < nd_ro) {z : Int32 × nd_Mem} (hrec189 : ∀ (σ : nd_Mem), rec189 σ = some z → nd_V M_X3_advance (nd_rm 5) (nd_Pv (nd_SH ++ t) z) 0 0 189 [(0, .ref 38)] [] (nd_SH ++ t) σ) (s0 : Int32) (σ : nd_Mem) (h : f_X3_advance_253 F rec189 s0 σ = some z) : nd_V M_X3_advance (nd_rm 5) (nd_Pv (nd_SH ++ t) z) 0 0 253 [(0, .ref 38)] [.int s0, .ref 38] (nd_SH ++ t) σ := by
  unfold f_X3_advance_253 at h
  refine nd_putiN dX3_advance_253 pf_X3_72 (sh_38 t) rfl h (fun σ1 h => ?_)
  refine nd_aload_n dX3_advance_256 0 rfl ?_
  refine nd_dup dX3_advance_257 rfl ?_
  refine nd_get dX3_advance_258 gf_X3_49 (sh_38 t) rfl ?_
  refine nd_iconst dX3_advance_261 ic_1 ?_
  refine nd_iadd dX3_advance_262 ?_
  refine nd_putiN dX3_advance_263 pf_X3_49 (sh_38 t) rfl h (fun σ2 h => ?_)
  refine nd_goto dX3_advance_266 189 (by decide) ?_
  exact hrec189 _ h
set_option maxRecDepth 100000 in
set_option maxHeartbeats 4000000 in
theorem b_X3_advance_288 (F : Nat) (t : List nd_S) (hL : (nd_SH ++ t).length < nd_ro) {z : Int32 × nd_Mem} (s0 : Int32) (σ : nd_Mem) (h : f_X3_advance_288 F s0 σ = some z) : nd_V M_X3_advance (nd_rm 5) (nd_Pv (nd_SH ++ t) z) 0 0 288 [(0, .ref 38)] [.int s0, .ref 38] (nd_SH ++ t) σ := by
  unfold f_X3_advance_288 at h
  refine nd_putiN dX3_advance_288 pf_X3_55 (sh_38 t) rfl h (fun σ1 h => ?_)
  refine nd_goto dX3_advance_291 339 (by decide) ?_
  exact nd_vret dX3_advance_339 (Nat.zero_le _) (Nat.zero_le _) trivial (by cases h; exact ⟨rfl, rfl, rfl⟩)
set_option maxRecDepth 100000 in
set_option maxHeartbeats 4000000 in
theorem b_X3_advance_269 (F : Nat) (t : List nd_S) (hL : (nd_SH ++ t).length < nd_ro) {z : Int32 × nd_Mem} (σ : nd_Mem) (h : f_X3_advance_269 F σ = some z) : nd_V M_X3_advance (nd_rm 5) (nd_Pv (nd_SH ++ t) z) 0 0 269 [(0, .ref 38)] [] (nd_SH ++ t) σ := by
  unfold f_X3_advance_269 at h
  refine nd_aload_n dX3_advance_269 0 rfl ?_
  refine nd_aload_n dX3_advance_270 0 rfl ?_
  refine nd_get dX3_advance_271 gf_X3_49 (sh_38 t) rfl ?_
  refine nd_aload_n dX3_advance_274 0 rfl ?_
  refine nd_get dX3_advance_275 gf_X3_147 (sh_38 t) rfl ?_
  refine nd_isub dX3_advance_278 ?_
  refine nd_iconst dX3_advance_279 ic_4 ?_
  refine nd_icmp_leN dX3_advance_280 287 (by decide) h (fun h => ?_) (fun h => ?_)
  · refine nd_iconst dX3_advance_287 ic_2 ?_
    exact b_X3_advance_288 F t hL _ _ h
  · refine nd_iconst dX3_advance_283 ic_4 ?_
    refine nd_goto dX3_advance_284 288 (by decide) ?_
    exact b_X3_advance_288 F t hL _ _ h
set_option maxRecDepth 100000 in
set_option maxHeartbeats 4000000 in
theorem b_X3_advance_189 (F : Nat) (t : List nd_S) (hL : (nd_SH ++ t).length < nd_ro) {z : Int32 × nd_Mem} (m9 : Nat) : ∀ (σ : nd_Mem), f_X3_advance_189 F m9 σ = some z → nd_V M_X3_advance (nd_rm 5) (nd_Pv (nd_SH ++ t) z) 0 0 189 [(0, .ref 38)] [] (nd_SH ++ t) σ := by
  induction m9 with
  | zero =>
    intro σ h
    have h : none = some z := h
    cases h
  | succ m9 hrec189 =>
    intro σ h
    have h : f_X3_advance_189_b F (f_X3_advance_189 F m9) σ = some z := h
    unfold f_X3_advance_189_b at h
    refine nd_aload_n dX3_advance_189 0 rfl ?_
    refine nd_get dX3_advance_190 gf_X3_49 (sh_38 t) rfl ?_
    refine nd_aload_n dX3_advance_193 0 rfl ?_
    refine nd_get dX3_advance_194 gf_X3_32 (sh_38 t) rfl ?_
    refine nd_icmp_geN dX3_advance_197 269 (by decide) h (fun h => ?_) (fun h => ?_)
    · exact b_X3_advance_269 F t hL _ h
    · refine nd_aload_n dX3_advance_200 0 rfl ?_
      refine nd_get dX3_advance_201 gf_X3_18 (sh_38 t) rfl ?_
      refine nd_aload_n dX3_advance_204 0 rfl ?_
      refine nd_get dX3_advance_205 gf_X3_49 (sh_38 t) rfl ?_
      refine nd_ialoadN dX3_advance_208 (sh_47 t) h (fun h => ?_)
      obtain ⟨r1, σ2, hc3, h⟩ := nd_bind_e h
      refine nd_csi [.int (σ 47 ((σ 38 10)).toNatClampNeg)] [] dX3_advance_209 cl_X3_157 ⟨Nat.le_of_ble_eq_true rfl, Nat.le_of_ble_eq_true rfl⟩ rfl (Nat.le_of_ble_eq_true rfl) hL (t_X3_isDigit F (nd_SH ++ t) hL _ _ hc3) ?_
      refine nd_if_eqN dX3_advance_212 269 (by decide) h (fun h => ?_) (fun h => ?_)
      · exact b_X3_advance_269 F t hL _ h
      · refine nd_aload_n dX3_advance_215 0 rfl ?_
        refine nd_aload_n dX3_advance_216 0 rfl ?_
        refine nd_get dX3_advance_217 gf_X3_72 (sh_38 t) rfl ?_
        refine nd_sipush dX3_advance_220 is_9999 ?_
        refine nd_icmp_leN dX3_advance_223 233 (by decide) h (fun h => ?_) (fun h => ?_)
        · refine nd_aload_n dX3_advance_233 0 rfl ?_
          refine nd_get dX3_advance_234 gf_X3_72 (sh_38 t) rfl ?_
          refine nd_bipush dX3_advance_237 ib_10 ?_
          refine nd_imul dX3_advance_239 ?_
          refine nd_aload_n dX3_advance_240 0 rfl ?_
          refine nd_get dX3_advance_241 gf_X3_18 (sh_38 t) rfl ?_
          refine nd_aload_n dX3_advance_244 0 rfl ?_
          refine nd_get dX3_advance_245 gf_X3_49 (sh_38 t) rfl ?_
          refine nd_ialoadN dX3_advance_248 (sh_47 t) h (fun h => ?_)
          refine nd_iadd dX3_advance_249 ?_
          refine nd_bipush dX3_advance_250 ib_48 ?_
          refine nd_isub dX3_advance_252 ?_
          exact b_X3_advance_253 F _ t hL hrec189 _ _ h
        · refine nd_aload_n dX3_advance_226 0 rfl ?_
          refine nd_get dX3_advance_227 gf_X3_72 (sh_38 t) rfl ?_
          refine nd_goto dX3_advance_230 253 (by decide) ?_
          exact b_X3_advance_253 F _ t hL hrec189 _ _ h
set_option maxRecDepth 100000 in
set_option maxHeartbeats 4000000 in
theorem b_X3_advance_336 (F : Nat) (t : List nd_S) (hL : (nd_SH ++ t).length < nd_ro) {z : Int32 × nd_Mem} (s0 : Int32) (σ : nd_Mem) (h : f_X3_advance_336 F s0 σ = some z) : nd_V M_X3_advance (nd_rm 5) (nd_Pv (nd_SH ++ t) z) 0 0 336 [(0, .ref 38)] [.int s0, .ref 38] (nd_SH ++ t) σ := by
  unfold f_X3_advance_336 at h
  refine nd_putiN dX3_advance_336 pf_X3_55 (sh_38 t) rfl h (fun σ1 h => ?_)
  exact nd_vret dX3_advance_339 (Nat.zero_le _) (Nat.zero_le _) trivial (by cases h; exact ⟨rfl, rfl, rfl⟩)
set_option maxRecDepth 100000 in
set_option maxHeartbeats 4000000 in
theorem b_X3_advance_60 (F : Nat) (t : List nd_S) (hL : (nd_SH ++ t).length < nd_ro) {z : Int32 × nd_Mem} (σ : nd_Mem) (h : f_X3_advance_60 F σ = some z) : nd_V M_X3_advance (nd_rm 5) (nd_Pv (nd_SH ++ t) z) 0 0 60 [(0, .ref 38)] [] (nd_SH ++ t) σ := by
  unfold f_X3_advance_60 at h
  refine nd_aload_n dX3_advance_60 0 rfl ?_
  refine nd_aload_n dX3_advance_61 0 rfl ?_
  refine nd_get dX3_advance_62 gf_X3_147 (sh_38 t) rfl ?_
  refine nd_putiN dX3_advance_65 pf_X3_49 (sh_38 t) rfl h (fun σ1 h => ?_)
  refine nd_aload_n dX3_advance_68 0 rfl ?_
  refine nd_iconst dX3_advance_69 ic_0 ?_
  refine nd_putiN dX3_advance_70 pf_X3_72 (sh_38 t) rfl h (fun σ2 h => ?_)
  refine nd_aload_n dX3_advance_73 0 rfl ?_
  refine nd_get dX3_advance_74 gf_X3_147 (sh_38 t) rfl ?_
  refine nd_aload_n dX3_advance_77 0 rfl ?_
  refine nd_get dX3_advance_78 gf_X3_32 (sh_38 t) rfl ?_
  refine nd_icmp_ltN dX3_advance_81 92 (by decide) h (fun h => ?_) (fun h => ?_)
  · refine nd_aload_n dX3_advance_92 0 rfl ?_
    refine nd_get dX3_advance_93 gf_X3_18 (sh_38 t) rfl ?_
    refine nd_aload_n dX3_advance_96 0 rfl ?_
    refine nd_get dX3_advance_97 gf_X3_147 (sh_38 t) rfl ?_
    refine nd_ialoadN dX3_advance_100 (sh_47 t) h (fun h => ?_)
    obtain ⟨r3, σ4, hc5, h⟩ := nd_bind_e h
    refine nd_csi [.int (σ2 47 ((σ2 38 9)).toNatClampNeg)] [] dX3_advance_101 cl_X3_150 ⟨Nat.le_of_ble_eq_true rfl, Nat.le_of_ble_eq_true rfl⟩ rfl (Nat.le_of_ble_eq_true rfl) hL (t_X3_isLetter F (nd_SH ++ t) hL _ _ hc5) ?_
    refine nd_if_eqN dX3_advance_104 174 (by decide) h (fun h => ?_) (fun h => ?_)
    · refine nd_aload_n dX3_advance_174 0 rfl ?_
      refine nd_get dX3_advance_175 gf_X3_18 (sh_38 t) rfl ?_
      refine nd_aload_n dX3_advance_178 0 rfl ?_
      refine nd_get dX3_advance_179 gf_X3_147 (sh_38 t) rfl ?_
      refine nd_ialoadN dX3_advance_182 (sh_47 t) h (fun h => ?_)
      obtain ⟨r6, σ7, hc8, h⟩ := nd_bind_e h
      refine nd_csi [.int (σ4 47 ((σ4 38 9)).toNatClampNeg)] [] dX3_advance_183 cl_X3_157 ⟨Nat.le_of_ble_eq_true rfl, Nat.le_of_ble_eq_true rfl⟩ rfl (Nat.le_of_ble_eq_true rfl) hL (t_X3_isDigit F (nd_SH ++ t) hL _ _ hc8) ?_
      refine nd_if_eqN dX3_advance_186 294 (by decide) h (fun h => ?_) (fun h => ?_)
      · refine nd_aload_n dX3_advance_294 0 rfl ?_
        refine nd_dup dX3_advance_295 rfl ?_
        refine nd_get dX3_advance_296 gf_X3_49 (sh_38 t) rfl ?_
        refine nd_iconst dX3_advance_299 ic_1 ?_
        refine nd_iadd dX3_advance_300 ?_
        refine nd_putiN dX3_advance_301 pf_X3_49 (sh_38 t) rfl h (fun σ9 h => ?_)
        refine nd_aload_n dX3_advance_304 0 rfl ?_
        refine nd_aload_n dX3_advance_305 0 rfl ?_
        refine nd_get dX3_advance_306 gf_X3_18 (sh_38 t) rfl ?_
        refine nd_aload_n dX3_advance_309 0 rfl ?_
        refine nd_get dX3_advance_310 gf_X3_147 (sh_38 t) rfl ?_
        refine nd_ialoadN dX3_advance_313 (sh_47 t) h (fun h => ?_)
        refine nd_putiN dX3_advance_314 pf_X3_72 (sh_38 t) rfl h (fun σ10 h => ?_)
        refine nd_aload_n dX3_advance_317 0 rfl ?_
        refine nd_ldcS 4 (by decide) dX3_advance_318 rfl rfl ?_
        refine nd_aload_n dX3_advance_320 0 rfl ?_
        refine nd_get dX3_advance_321 gf_X3_72 (sh_38 t) rfl ?_
        refine nd_i2c dX3_advance_324 ?_
        obtain ⟨r11, σ12, hc13, h⟩ := nd_bind_e h
        refine nd_cti [.int (((σ10 38 8)).toUInt32 % 65536).toInt32] [.ref 38] (by decide) dX3_advance_325 cl_X3_162 ⟨Nat.le_of_ble_eq_true rfl, Nat.le_of_ble_eq_true rfl⟩ rfl (Nat.le_of_ble_eq_true rfl) hL (t_J0_indexOf_0f7a4 F 4 (nd_SH ++ t) hL (by decide) _ _ hc13) ?_
        refine nd_if_geN dX3_advance_328 335 (by decide) h (fun h => ?_) (fun h => ?_)
        · refine nd_iconst dX3_advance_335 ic_3 ?_
          exact b_X3_advance_336 F t hL _ _ h
        · refine nd_iconst dX3_advance_331 ic_4 ?_
          refine nd_goto dX3_advance_332 336 (by decide) ?_
          exact b_X3_advance_336 F t hL _ _ h
      · exact b_X3_advance_189 F t hL F _ h
    · exact b_X3_advance_107 F t hL F _ h
  · refine nd_aload_n dX3_advance_84 0 rfl ?_
    refine nd_iconst dX3_advance_85 ic_0 ?_
    refine nd_putiN dX3_advance_86 pf_X3_55 (sh_38 t) rfl h (fun σ14 h => ?_)
    refine nd_goto dX3_advance_89 339 (by decide) ?_
    exact nd_vret dX3_advance_339 (Nat.zero_le _) (Nat.zero_le _) trivial (by cases h; exact ⟨rfl, rfl, rfl⟩)
set_option maxRecDepth 100000 in
set_option maxHeartbeats 4000000 in
theorem b_X3_advance_8 (F : Nat) (t : List nd_S) (hL : (nd_SH ++ t).length < nd_ro) {z : Int32 × nd_Mem} (m9 : Nat) : ∀ (σ : nd_Mem), f_X3_advance_8 F m9 σ = some z → nd_V M_X3_advance (nd_rm 5) (nd_Pv (nd_SH ++ t) z) 0 0 8 [(0, .ref 38)] [] (nd_SH ++ t) σ := by
  induction m9 with
  | zero =>
    intro σ h
    have h : none = some z := h
    cases h
  | succ m9 hrec8 =>
    intro σ h
    have h : f_X3_advance_8_b F (f_X3_advance_8 F m9) σ = some z := h
    unfold f_X3_advance_8_b at h
    refine nd_aload_n dX3_advance_8 0 rfl ?_
    refine nd_get dX3_advance_9 gf_X3_147 (sh_38 t) rfl ?_
    refine nd_aload_n dX3_advance_12 0 rfl ?_
    refine nd_get dX3_advance_13 gf_X3_32 (sh_38 t) rfl ?_
    refine nd_icmp_geN dX3_advance_16 60 (by decide) h (fun h => ?_) (fun h => ?_)
    · exact b_X3_advance_60 F t hL _ h
    · refine nd_aload_n dX3_advance_19 0 rfl ?_
      refine nd_get dX3_advance_20 gf_X3_18 (sh_38 t) rfl ?_
      refine nd_aload_n dX3_advance_23 0 rfl ?_
      refine nd_get dX3_advance_24 gf_X3_147 (sh_38 t) rfl ?_
      refine nd_ialoadN dX3_advance_27 (sh_47 t) h (fun h => ?_)
      refine nd_bipush dX3_advance_28 ib_32 ?_
      refine nd_icmp_eqN dX3_advance_30 47 (by decide) h (fun h => ?_) (fun h => ?_)
      · exact b_X3_advance_47 F _ t hL hrec8 _ h
      · refine nd_aload_n dX3_advance_33 0 rfl ?_
        refine nd_get dX3_advance_34 gf_X3_18 (sh_38 t) rfl ?_
        refine nd_aload_n dX3_advance_37 0 rfl ?_
        refine nd_get dX3_advance_38 gf_X3_147 (sh_38 t) rfl ?_
        refine nd_ialoadN dX3_advance_41 (sh_47 t) h (fun h => ?_)
        refine nd_bipush dX3_advance_42 ib_10 ?_
        refine nd_icmp_neN dX3_advance_44 60 (by decide) h (fun h => ?_) (fun h => ?_)
        · exact b_X3_advance_60 F t hL _ h
        · exact b_X3_advance_47 F _ t hL hrec8 _ h
set_option maxRecDepth 100000 in
set_option maxHeartbeats 4000000 in
theorem t_X3_advance (F : Nat) (t : List nd_S) (hL : (nd_SH ++ t).length < nd_ro) {z : Int32 × nd_Mem} (σ : nd_Mem) (h : f_X3_advance F σ = some z) : nd_Fn M_X3_advance (nd_rm 5) [.ref 38] (nd_SH ++ t) σ (nd_Pv (nd_SH ++ t) z) := by
  refine nd_Fn.ofV (ls := [(0, .ref 38)]) pl_X3_advance rfl (fun _ => Nat.le_of_ble_eq_true rfl) (fun _ => rfl) ?_
  unfold f_X3_advance at h
  refine nd_aload_n dX3_advance_0 0 rfl ?_
  refine nd_aload_n dX3_advance_1 0 rfl ?_
  refine nd_get dX3_advance_2 gf_X3_49 (sh_38 t) rfl ?_
  refine nd_putiN dX3_advance_5 pf_X3_147 (sh_38 t) rfl h (fun σ1 h => ?_)
  exact b_X3_advance_8 F t hL F _ h
def f_X3_mayOpen (F : Nat) (x1 : Int32) (σ : nd_Mem) : nd_Res := (if x1 < (8 : Int32) then (nd_bind (f_X3_advance F σ) fun r1 σ2 => (some ((1 : Int32), σ2))) else (nd_bind (f_X3_refuse F (3 : Int32) σ) fun r4 σ5 => (if ¬ (r4 = 0 ∨ r4 = 1) then none else (some (r4, σ5)))))
set_option maxRecDepth 100000 in
set_option maxHeartbeats 4000000 in
theorem t_X3_mayOpen (F : Nat) (t : List nd_S) (hL : (nd_SH ++ t).length < nd_ro) {z : Int32 × nd_Mem} (x1 : Int32) (σ : nd_Mem) (h : f_X3_mayOpen F x1 σ = some z) : nd_Fn M_X3_mayOpen (nd_rm 6) [.ref 38, .int x1] (nd_SH ++ t) σ (nd_Pi (nd_SH ++ t) z) := by
  refine nd_Fn.ofV (ls := [(0, .ref 38), (1, .int x1)]) pl_X3_mayOpen rfl (fun _ => Nat.le_of_ble_eq_true rfl) (fun _ => rfl) ?_
  unfold f_X3_mayOpen at h
  refine nd_iload_n dX3_mayOpen_0 1 rfl ?_
  refine nd_bipush dX3_mayOpen_1 ib_8 ?_
  refine nd_icmp_ltN dX3_mayOpen_3 12 (by decide) h (fun h => ?_) (fun h => ?_)
  · refine nd_aload_n dX3_mayOpen_12 0 rfl ?_
    obtain ⟨r1, σ2, hc3, h⟩ := nd_bind_e h
    refine nd_cvv [] [] dX3_mayOpen_13 cl_X3_52 (sh_38 t) ⟨Nat.le_of_ble_eq_true rfl, Nat.le_of_ble_eq_true rfl⟩ rfl (Nat.le_of_ble_eq_true rfl) hL (t_X3_advance F t hL _ hc3) ?_
    refine nd_iconst dX3_mayOpen_16 ic_1 ?_
    exact nd_iret dX3_mayOpen_17 (Nat.zero_le _) (Nat.zero_le _) rfl (by cases h; exact ⟨rfl, rfl, rfl⟩)
  · refine nd_aload_n dX3_mayOpen_6 0 rfl ?_
    refine nd_iconst dX3_mayOpen_7 ic_3 ?_
    obtain ⟨r4, σ5, hc6, h⟩ := nd_bind_e h
    refine nd_cvi [.int (3 : Int32)] [] dX3_mayOpen_8 cl_X3_75 (sh_38 t) ⟨Nat.le_of_ble_eq_true rfl, Nat.le_of_ble_eq_true rfl⟩ rfl (Nat.le_of_ble_eq_true rfl) hL (t_X3_refuse F t hL _ _ hc6) ?_
    have hz7 := nd_no_e h
    have h := hz7.2
    exact nd_iret dX3_mayOpen_11 (Nat.zero_le _) (Nat.zero_le _) (nd_zok rfl (Classical.not_not.mp hz7.1)) (by cases h; exact ⟨rfl, rfl, rfl⟩)
def f_X3_readNumber_38 (F : Nat) (σ : nd_Mem) : nd_Res := (nd_bind (f_X3_refuse F (2 : Int32) σ) fun r1 σ2 => (if ¬ (r1 = 0 ∨ r1 = 1) then none else (some (r1, σ2))))
def f_X3_readNumber (F : Nat) (x1 : Int32) (x2 : Int32) (x3 : Int32) (σ : nd_Mem) : nd_Res := (if (σ 38 7) = (2 : Int32) then (if (σ 38 8) < x1 then (f_X3_readNumber_38 F σ) else (if x2 < (σ 38 8) then (f_X3_readNumber_38 F σ) else (if (σ 38 8) = x3 then (f_X3_readNumber_38 F σ) else (nd_bind (f_X3_advance F σ) fun r1 σ2 => (some ((1 : Int32), σ2)))))) else (nd_bind (f_X3_refuse F (1 : Int32) σ) fun r4 σ5 => (if ¬ (r4 = 0 ∨ r4 = 1) then none else (some (r4, σ5)))))
set_option maxRecDepth 100000 in
set_option maxHeartbeats 4000000 in
theorem b_X3_readNumber_38 (F : Nat) (t : List nd_S) (hL : (nd_SH ++ t).length < nd_ro) {z : Int32 × nd_Mem} (σ : nd_Mem) (h : f_X3_readNumber_38 F σ = some z) : nd_V M_X3_readNumber (nd_rm 6) (nd_Pi (nd_SH ++ t) z) 0 0 38 [(0, .ref 38)] [] (nd_SH ++ t) σ := by
  unfold f_X3_readNumber_38 at h
  refine nd_aload_n dX3_readNumber_38 0 rfl ?_
  refine nd_iconst dX3_readNumber_39 ic_2 ?_
  obtain ⟨r1, σ2, hc3, h⟩ := nd_bind_e h
  refine nd_cvi [.int (2 : Int32)] [] dX3_readNumber_40 cl_X3_75 (sh_38 t) ⟨Nat.le_of_ble_eq_true rfl, Nat.le_of_ble_eq_true rfl⟩ rfl (Nat.le_of_ble_eq_true rfl) hL (t_X3_refuse F t hL _ _ hc3) ?_
  have hz4 := nd_no_e h
  have h := hz4.2
  exact nd_iret dX3_readNumber_43 (Nat.zero_le _) (Nat.zero_le _) (nd_zok rfl (Classical.not_not.mp hz4.1)) (by cases h; exact ⟨rfl, rfl, rfl⟩)
set_option maxRecDepth 100000 in
set_option maxHeartbeats 4000000 in
theorem t_X3_readNumber (F : Nat) (t : List nd_S) (hL : (nd_SH ++ t).length < nd_ro) {z : Int32 × nd_Mem} (x1 : Int32) (x2 : Int32) (x3 : Int32) (σ : nd_Mem) (h : f_X3_readNumber F x1 x2 x3 σ = some z) : nd_Fn M_X3_readNumber (nd_rm 6) [.ref 38, .int x1, .int x2, .int x3] (nd_SH ++ t) σ (nd_Pi (nd_SH ++ t) z) := by
  refine nd_Fn.ofV (ls := [(0, .ref 38), (1, .int x1), (2, .int x2), (3, .int x3)]) pl_X3_readNumber rfl (fun _ => Nat.le_of_ble_eq_true rfl) (fun _ => rfl) ?_
  unfold f_X3_readNumber at h
  refine nd_aload_n dX3_readNumber_0 0 rfl ?_
  refine nd_get dX3_readNumber_1 gf_X3_55 (sh_38 t) rfl ?_
  refine nd_iconst dX3_readNumber_4 ic_2 ?_
  refine nd_icmp_eqN dX3_readNumber_5 14 (by decide) h (fun h => ?_) (fun h => ?_)
  · refine nd_aload_n dX3_readNumber_14 0 rfl ?_
    refine nd_get dX3_readNumber_15 gf_X3_72 (sh_38 t) rfl ?_
    refine nd_iload_n dX3_readNumber_18 1 rfl ?_
    refine nd_icmp_ltN dX3_readNumber_19 38 (by decide) h (fun h => ?_) (fun h => ?_)
    · refine nd_sub [0] rfl ?_
      exact b_X3_readNumber_38 F t hL _ h
    · refine nd_aload_n dX3_readNumber_22 0 rfl ?_
      refine nd_get dX3_readNumber_23 gf_X3_72 (sh_38 t) rfl ?_
      refine nd_iload_n dX3_readNumber_26 2 rfl ?_
      refine nd_icmp_gtN dX3_readNumber_27 38 (by decide) h (fun h => ?_) (fun h => ?_)
      · refine nd_sub [0] rfl ?_
        exact b_X3_readNumber_38 F t hL _ h
      · refine nd_aload_n dX3_readNumber_30 0 rfl ?_
        refine nd_get dX3_readNumber_31 gf_X3_72 (sh_38 t) rfl ?_
        refine nd_iload_n dX3_readNumber_34 3 rfl ?_
        refine nd_icmp_neN dX3_readNumber_35 44 (by decide) h (fun h => ?_) (fun h => ?_)
        · refine nd_aload_n dX3_readNumber_44 0 rfl ?_
          obtain ⟨r1, σ2, hc3, h⟩ := nd_bind_e h
          refine nd_cvv [] [] dX3_readNumber_45 cl_X3_52 (sh_38 t) ⟨Nat.le_of_ble_eq_true rfl, Nat.le_of_ble_eq_true rfl⟩ rfl (Nat.le_of_ble_eq_true rfl) hL (t_X3_advance F t hL _ hc3) ?_
          refine nd_iconst dX3_readNumber_48 ic_1 ?_
          exact nd_iret dX3_readNumber_49 (Nat.zero_le _) (Nat.zero_le _) rfl (by cases h; exact ⟨rfl, rfl, rfl⟩)
        · refine nd_sub [0] rfl ?_
          exact b_X3_readNumber_38 F t hL _ h
  · refine nd_aload_n dX3_readNumber_8 0 rfl ?_
    refine nd_iconst dX3_readNumber_9 ic_1 ?_
    obtain ⟨r4, σ5, hc6, h⟩ := nd_bind_e h
    refine nd_cvi [.int (1 : Int32)] [] dX3_readNumber_10 cl_X3_75 (sh_38 t) ⟨Nat.le_of_ble_eq_true rfl, Nat.le_of_ble_eq_true rfl⟩ rfl (Nat.le_of_ble_eq_true rfl) hL (t_X3_refuse F t hL _ _ hc6) ?_
    have hz7 := nd_no_e h
    have h := hz7.2
    exact nd_iret dX3_readNumber_13 (Nat.zero_le _) (Nat.zero_le _) (nd_zok rfl (Classical.not_not.mp hz7.1)) (by cases h; exact ⟨rfl, rfl, rfl⟩)
def f_X3_readSecondWord (F : Nat) (σ : nd_Mem) : nd_Res := (nd_bind (f_X3_isWord F (1 : Int32) σ) fun r1 σ2 => (if r1 = 0 then (nd_bind (f_X3_refuse F (1 : Int32) σ2) fun r7 σ8 => (if ¬ (r7 = 0 ∨ r7 = 1) then none else (some (r7, σ8)))) else (nd_bind (f_X3_advance F σ2) fun r4 σ5 => (some ((1 : Int32), σ5)))))
set_option maxRecDepth 100000 in
set_option maxHeartbeats 4000000 in
theorem t_X3_readSecondWord (F : Nat) (t : List nd_S) (hL : (nd_SH ++ t).length < nd_ro) {z : Int32 × nd_Mem} (σ : nd_Mem) (h : f_X3_readSecondWord F σ = some z) : nd_Fn M_X3_readSecondWord (nd_rm 6) [.ref 38] (nd_SH ++ t) σ (nd_Pi (nd_SH ++ t) z) := by
  refine nd_Fn.ofV (ls := [(0, .ref 38)]) pl_X3_readSecondWord rfl (fun _ => Nat.le_of_ble_eq_true rfl) (fun _ => rfl) ?_
  unfold f_X3_readSecondWord at h
  refine nd_aload_n dX3_readSecondWord_0 0 rfl ?_
  refine nd_iconst dX3_readSecondWord_1 ic_1 ?_
  obtain ⟨r1, σ2, hc3, h⟩ := nd_bind_e h
  refine nd_cvi [.int (1 : Int32)] [] dX3_readSecondWord_2 cl_X3_105 (sh_38 t) ⟨Nat.le_of_ble_eq_true rfl, Nat.le_of_ble_eq_true rfl⟩ rfl (Nat.le_of_ble_eq_true rfl) hL (t_X3_isWord F t hL _ _ hc3) ?_
  refine nd_if_neN dX3_readSecondWord_5 14 (by decide) h (fun h => ?_) (fun h => ?_)
  · refine nd_aload_n dX3_readSecondWord_14 0 rfl ?_
    obtain ⟨r4, σ5, hc6, h⟩ := nd_bind_e h
    refine nd_cvv [] [] dX3_readSecondWord_15 cl_X3_52 (sh_38 t) ⟨Nat.le_of_ble_eq_true rfl, Nat.le_of_ble_eq_true rfl⟩ rfl (Nat.le_of_ble_eq_true rfl) hL (t_X3_advance F t hL _ hc6) ?_
    refine nd_iconst dX3_readSecondWord_18 ic_1 ?_
    exact nd_iret dX3_readSecondWord_19 (Nat.zero_le _) (Nat.zero_le _) rfl (by cases h; exact ⟨rfl, rfl, rfl⟩)
  · refine nd_aload_n dX3_readSecondWord_8 0 rfl ?_
    refine nd_iconst dX3_readSecondWord_9 ic_1 ?_
    obtain ⟨r7, σ8, hc9, h⟩ := nd_bind_e h
    refine nd_cvi [.int (1 : Int32)] [] dX3_readSecondWord_10 cl_X3_75 (sh_38 t) ⟨Nat.le_of_ble_eq_true rfl, Nat.le_of_ble_eq_true rfl⟩ rfl (Nat.le_of_ble_eq_true rfl) hL (t_X3_refuse F t hL _ _ hc9) ?_
    have hz10 := nd_no_e h
    have h := hz10.2
    exact nd_iret dX3_readSecondWord_13 (Nat.zero_le _) (Nat.zero_le _) (nd_zok rfl (Classical.not_not.mp hz10.1)) (by cases h; exact ⟨rfl, rfl, rfl⟩)
def f_X3_readSign (F : Nat) (x1 : Int32) (σ : nd_Mem) : nd_Res := (nd_bind (f_X3_isSign F x1 σ) fun r1 σ2 => (if r1 = 0 then (nd_bind (f_X3_refuse F (1 : Int32) σ2) fun r7 σ8 => (if ¬ (r7 = 0 ∨ r7 = 1) then none else (some (r7, σ8)))) else (nd_bind (f_X3_advance F σ2) fun r4 σ5 => (some ((1 : Int32), σ5)))))
set_option maxRecDepth 100000 in
set_option maxHeartbeats 4000000 in
theorem t_X3_readSign (F : Nat) (t : List nd_S) (hL : (nd_SH ++ t).length < nd_ro) {z : Int32 × nd_Mem} (x1 : Int32) (σ : nd_Mem) (h : f_X3_readSign F x1 σ = some z) : nd_Fn M_X3_readSign (nd_rm 6) [.ref 38, .int x1] (nd_SH ++ t) σ (nd_Pi (nd_SH ++ t) z) := by
  refine nd_Fn.ofV (ls := [(0, .ref 38), (1, .int x1)]) pl_X3_readSign rfl (fun _ => Nat.le_of_ble_eq_true rfl) (fun _ => rfl) ?_
  unfold f_X3_readSign at h
  refine nd_aload_n dX3_readSign_0 0 rfl ?_
  refine nd_iload_n dX3_readSign_1 1 rfl ?_
  obtain ⟨r1, σ2, hc3, h⟩ := nd_bind_e h
  refine nd_cvi [.int x1] [] dX3_readSign_2 cl_X3_132 (sh_38 t) ⟨Nat.le_of_ble_eq_true rfl, Nat.le_of_ble_eq_true rfl⟩ rfl (Nat.le_of_ble_eq_true rfl) hL (t_X3_isSign F t hL _ _ hc3) ?_
  refine nd_if_neN dX3_readSign_5 14 (by decide) h (fun h => ?_) (fun h => ?_)
  · refine nd_aload_n dX3_readSign_14 0 rfl ?_
    obtain ⟨r4, σ5, hc6, h⟩ := nd_bind_e h
    refine nd_cvv [] [] dX3_readSign_15 cl_X3_52 (sh_38 t) ⟨Nat.le_of_ble_eq_true rfl, Nat.le_of_ble_eq_true rfl⟩ rfl (Nat.le_of_ble_eq_true rfl) hL (t_X3_advance F t hL _ hc6) ?_
    refine nd_iconst dX3_readSign_18 ic_1 ?_
    exact nd_iret dX3_readSign_19 (Nat.zero_le _) (Nat.zero_le _) rfl (by cases h; exact ⟨rfl, rfl, rfl⟩)
  · refine nd_aload_n dX3_readSign_8 0 rfl ?_
    refine nd_iconst dX3_readSign_9 ic_1 ?_
    obtain ⟨r7, σ8, hc9, h⟩ := nd_bind_e h
    refine nd_cvi [.int (1 : Int32)] [] dX3_readSign_10 cl_X3_75 (sh_38 t) ⟨Nat.le_of_ble_eq_true rfl, Nat.le_of_ble_eq_true rfl⟩ rfl (Nat.le_of_ble_eq_true rfl) hL (t_X3_refuse F t hL _ _ hc9) ?_
    have hz10 := nd_no_e h
    have h := hz10.2
    exact nd_iret dX3_readSign_13 (Nat.zero_le _) (Nat.zero_le _) (nd_zok rfl (Classical.not_not.mp hz10.1)) (by cases h; exact ⟨rfl, rfl, rfl⟩)
def f_X3_readSum_213 (F : Nat) (rec6 : Int32 → Int32 → Int32 → nd_Mem → nd_Res) (x1 : Int32) (x2 : Int32) (x3 : Int32) (σ : nd_Mem) : nd_Res := (nd_bind (f_X3_advance F σ) fun r1 σ2 => (rec6 x1 x2 (x3 + (1 : Int32)) σ2))
def f_X3_readSum_206 (F : Nat) (rec6 : Int32 → Int32 → Int32 → nd_Mem → nd_Res) (x2 : Int32) (x3 : Int32) (s0 : Int32) (σ : nd_Mem) : nd_Res := (if s0 = 0 then (some ((1 : Int32), σ)) else (f_X3_readSum_213 F rec6 s0 x2 x3 σ))
def f_X3_readSum_198 (F : Nat) (rec6 : Int32 → Int32 → Int32 → nd_Mem → nd_Res) (x2 : Int32) (x3 : Int32) (σ : nd_Mem) : nd_Res := (f_X3_readSum_206 F rec6 x2 x3 (σ 38 8) σ)
def f_X3_readSum_180 (F : Nat) (rec6 : Int32 → Int32 → Int32 → nd_Mem → nd_Res) (x2 : Int32) (x3 : Int32) (σ : nd_Mem) : nd_Res := (nd_bind (f_X3_isSign F (43 : Int32) σ) fun r1 σ2 => (if r1 = 0 then (nd_bind (f_X3_isSign F (45 : Int32) σ2) fun r4 σ5 => (if r4 = 0 then (f_X3_readSum_206 F rec6 x2 x3 (0 : Int32) σ5) else (f_X3_readSum_198 F rec6 x2 x3 σ5))) else (f_X3_readSum_198 F rec6 x2 x3 σ2)))
def f_X3_readSum_158 (F : Nat) (rec6 : Int32 → Int32 → Int32 → nd_Mem → nd_Res) (x1 : Int32) (x3 : Int32) (s0 : Int32) (σ : nd_Mem) : nd_Res := (if s0 = 0 then (if x1 = 0 then (f_X3_readSum_180 F rec6 s0 x3 σ) else (nd_bind (f_X4_add F 42 43 400 (-x1) σ) fun r1 σ2 => (f_X3_readSum_180 F rec6 s0 x3 σ2))) else (f_X3_readSum_213 F rec6 x1 s0 x3 σ))
def f_X3_readSum_150 (F : Nat) (rec6 : Int32 → Int32 → Int32 → nd_Mem → nd_Res) (x1 : Int32) (x3 : Int32) (σ : nd_Mem) : nd_Res := (f_X3_readSum_158 F rec6 x1 x3 (σ 38 8) σ)
def f_X3_readSum_132 (F : Nat) (rec6 : Int32 → Int32 → Int32 → nd_Mem → nd_Res) (x1 : Int32) (x3 : Int32) (σ : nd_Mem) : nd_Res := (nd_bind (f_X3_isSign F (42 : Int32) σ) fun r1 σ2 => (if r1 = 0 then (nd_bind (f_X3_isSign F (47 : Int32) σ2) fun r4 σ5 => (if r4 = 0 then (f_X3_readSum_158 F rec6 x1 x3 (0 : Int32) σ5) else (f_X3_readSum_150 F rec6 x1 x3 σ5))) else (f_X3_readSum_150 F rec6 x1 x3 σ2)))
def f_X3_readSum_107 (F : Nat) (rec6 : Int32 → Int32 → Int32 → nd_Mem → nd_Res) (x1 : Int32) (x2 : Int32) (x3 : Int32) (s0 : Int32) (σ : nd_Mem) : nd_Res := (nd_bind (f_X4_add F 42 43 400 s0 σ) fun r1 σ2 => (nd_bind (f_X3_advance F σ2) fun r4 σ5 => (if x2 = 0 then (f_X3_readSum_132 F rec6 x1 x3 σ5) else (nd_bind (f_X4_add F 42 43 400 (-x2) σ5) fun r7 σ8 => (f_X3_readSum_132 F rec6 x1 x3 σ8)))))
def f_X3_readSum_81 (F : Nat) (rec6 : Int32 → Int32 → Int32 → nd_Mem → nd_Res) (x1 : Int32) (x2 : Int32) (x3 : Int32) (x4 : Int32) (σ : nd_Mem) : nd_Res := (if x4 = 0 then (f_X3_readSum_107 F rec6 x1 x2 x3 (σ 38 8) σ) else (f_X3_readSum_107 F rec6 x1 x2 x3 ((-100 : Int32) - (σ 38 8)) σ))
def f_X3_readSum_62 (F : Nat) (rec6 : Int32 → Int32 → Int32 → nd_Mem → nd_Res) (x1 : Int32) (x2 : Int32) (x3 : Int32) (x4 : Int32) (σ : nd_Mem) : nd_Res := (if x2 = (47 : Int32) then (if (σ 38 8) = 0 then (nd_bind (f_X3_refuse F (2 : Int32) σ) fun r1 σ2 => (if ¬ (r1 = 0 ∨ r1 = 1) then none else (some (r1, σ2)))) else (f_X3_readSum_81 F rec6 x1 x2 x3 x4 σ)) else (f_X3_readSum_81 F rec6 x1 x2 x3 x4 σ))
def f_X3_readSum_41 (F : Nat) (rec6 : Int32 → Int32 → Int32 → nd_Mem → nd_Res) (x1 : Int32) (x2 : Int32) (x3 : Int32) (s0 : Int32) (σ : nd_Mem) : nd_Res := (if (σ 38 7) = (2 : Int32) then (f_X3_readSum_62 F rec6 x1 x2 x3 s0 σ) else (if s0 = 0 then (nd_bind (f_X3_refuse F (1 : Int32) σ) fun r1 σ2 => (if ¬ (r1 = 0 ∨ r1 = 1) then none else (some (r1, σ2)))) else (f_X3_readSum_62 F rec6 x1 x2 x3 s0 σ)))
def f_X3_readSum_40 (F : Nat) (rec6 : Int32 → Int32 → Int32 → nd_Mem → nd_Res) (x1 : Int32) (x2 : Int32) (x3 : Int32) (σ : nd_Mem) : nd_Res := (f_X3_readSum_41 F rec6 x1 x2 x3 (0 : Int32) σ)
def f_X3_readSum_6_b (F : Nat) (rec6 : Int32 → Int32 → Int32 → nd_Mem → nd_Res) (x1 : Int32) (x2 : Int32) (x3 : Int32) (σ : nd_Mem) : nd_Res := (if (400 : Int32) ≤ x3 then (nd_bind (f_X3_refuse F (1 : Int32) σ) fun r1 σ2 => (if ¬ (r1 = 0 ∨ r1 = 1) then none else (some (r1, σ2)))) else (if (σ 38 7) = (1 : Int32) then (if (σ 38 8) < (7 : Int32) then (f_X3_readSum_40 F rec6 x1 x2 x3 σ) else (if x2 = (47 : Int32) then (f_X3_readSum_40 F rec6 x1 x2 x3 σ) else (f_X3_readSum_41 F rec6 x1 x2 x3 (1 : Int32) σ))) else (f_X3_readSum_40 F rec6 x1 x2 x3 σ)))
def f_X3_readSum_6 (F : Nat) : Nat → Int32 → Int32 → Int32 → nd_Mem → nd_Res
  | 0, _, _, _, _ => none
  | m9 + 1, x1, x2, x3, σ => f_X3_readSum_6_b F (f_X3_readSum_6 F m9) x1 x2 x3 σ
def f_X3_readSum (F : Nat) (σ : nd_Mem) : nd_Res := (f_X3_readSum_6 F F (0 : Int32) (0 : Int32) (0 : Int32) σ)
set_option maxRecDepth 100000 in
set_option maxHeartbeats 4000000 in
theorem b_X3_readSum_213 (F : Nat) (rec6 : Int32 → Int32 → Int32 → nd_Mem → nd_Res) (t : List nd_S) (hL : (nd_SH ++ t).length < nd_ro) {z : Int32 × nd_Mem} (hrec6 : ∀ (x1 : Int32) (x2 : Int32) (x3 : Int32) (σ : nd_Mem), rec6 x1 x2 x3 σ = some z → nd_V M_X3_readSum (nd_rm 6) (nd_Pi (nd_SH ++ t) z) 0 0 6 [(0, .ref 38), (1, .int x1), (2, .int x2), (3, .int x3)] [] (nd_SH ++ t) σ) (x1 : Int32) (x2 : Int32) (x3 : Int32) (σ : nd_Mem) (h : f_X3_readSum_213 F rec6 x1 x2 x3 σ = some z) : nd_V M_X3_readSum (nd_rm 6) (nd_Pi (nd_SH ++ t) z) 0 0 213 [(0, .ref 38), (1, .int x1), (2, .int x2), (3, .int x3)] [] (nd_SH ++ t) σ := by
  unfold f_X3_readSum_213 at h
  refine nd_aload_n dX3_readSum_213 0 rfl ?_
  obtain ⟨r1, σ2, hc3, h⟩ := nd_bind_e h
  refine nd_cvv [] [] dX3_readSum_214 cl_X3_52 (sh_38 t) ⟨Nat.le_of_ble_eq_true rfl, Nat.le_of_ble_eq_true rfl⟩ rfl (Nat.le_of_ble_eq_true rfl) hL (t_X3_advance F t hL _ hc3) ?_
  refine nd_iinc (v := (x3 + (1 : Int32))) (ls' := [(3, .int (x3 + (1 : Int32))), (0, .ref 38), (1, .int x1), (2, .int x2)]) dX3_readSum_217 3 rfl (congrArg (HAdd.hAdd _) ic_1) (by decide) rfl ?_
  refine nd_goto dX3_readSum_220 6 (by decide) ?_
  refine nd_sub [1, 2, 3, 0] rfl ?_
  exact hrec6 _ _ _ _ h
set_option maxRecDepth 100000 in
set_option maxHeartbeats 4000000 in
theorem b_X3_readSum_206 (F : Nat) (rec6 : Int32 → Int32 → Int32 → nd_Mem → nd_Res) (t : List nd_S) (hL : (nd_SH ++ t).length < nd_ro) {z : Int32 × nd_Mem} (hrec6 : ∀ (x1 : Int32) (x2 : Int32) (x3 : Int32) (σ : nd_Mem), rec6 x1 x2 x3 σ = some z → nd_V M_X3_readSum (nd_rm 6) (nd_Pi (nd_SH ++ t) z) 0 0 6 [(0, .ref 38), (1, .int x1), (2, .int x2), (3, .int x3)] [] (nd_SH ++ t) σ) (x2 : Int32) (x3 : Int32) (s0 : Int32) (σ : nd_Mem) (h : f_X3_readSum_206 F rec6 x2 x3 s0 σ = some z) : nd_V M_X3_readSum (nd_rm 6) (nd_Pi (nd_SH ++ t) z) 0 0 206 [(0, .ref 38), (2, .int x2), (3, .int x3)] [.int s0] (nd_SH ++ t) σ := by
  unfold f_X3_readSum_206 at h
  refine nd_istore_n (ls' := [(1, .int s0), (0, .ref 38), (2, .int x2), (3, .int x3)]) dX3_readSum_206 (by decide) rfl ?_
  refine nd_iload_n dX3_readSum_207 0 rfl ?_
  refine nd_if_neN dX3_readSum_208 213 (by decide) h (fun h => ?_) (fun h => ?_)
  · refine nd_sub [1, 0, 2, 3] rfl ?_
    exact b_X3_readSum_213 F _ t hL hrec6 _ _ _ _ h
  · refine nd_iconst dX3_readSum_211 ic_1 ?_
    exact nd_iret dX3_readSum_212 (Nat.zero_le _) (Nat.zero_le _) rfl (by cases h; exact ⟨rfl, rfl, rfl⟩)
set_option maxRecDepth 100000 in
set_option maxHeartbeats 4000000 in
theorem b_X3_readSum_198 (F : Nat) (rec6 : Int32 → Int32 → Int32 → nd_Mem → nd_Res) (t : List nd_S) (hL : (nd_SH ++ t).length < nd_ro) {z : Int32 × nd_Mem} (hrec6 : ∀ (x1 : Int32) (x2 : Int32) (x3 : Int32) (σ : nd_Mem), rec6 x1 x2 x3 σ = some z → nd_V M_X3_readSum (nd_rm 6) (nd_Pi (nd_SH ++ t) z) 0 0 6 [(0, .ref 38), (1, .int x1), (2, .int x2), (3, .int x3)] [] (nd_SH ++ t) σ) (x2 : Int32) (x3 : Int32) (σ : nd_Mem) (h : f_X3_readSum_198 F rec6 x2 x3 σ = some z) : nd_V M_X3_readSum (nd_rm 6) (nd_Pi (nd_SH ++ t) z) 0 0 198 [(0, .ref 38), (2, .int x2), (3, .int x3)] [] (nd_SH ++ t) σ := by
  unfold f_X3_readSum_198 at h
  refine nd_aload_n dX3_readSum_198 0 rfl ?_
  refine nd_get dX3_readSum_199 gf_X3_72 (sh_38 t) rfl ?_
  refine nd_goto dX3_readSum_202 206 (by decide) ?_
  exact b_X3_readSum_206 F _ t hL hrec6 _ _ _ _ h
set_option maxRecDepth 100000 in
set_option maxHeartbeats 4000000 in
theorem b_X3_readSum_180 (F : Nat) (rec6 : Int32 → Int32 → Int32 → nd_Mem → nd_Res) (t : List nd_S) (hL : (nd_SH ++ t).length < nd_ro) {z : Int32 × nd_Mem} (hrec6 : ∀ (x1 : Int32) (x2 : Int32) (x3 : Int32) (σ : nd_Mem), rec6 x1 x2 x3 σ = some z → nd_V M_X3_readSum (nd_rm 6) (nd_Pi (nd_SH ++ t) z) 0 0 6 [(0, .ref 38), (1, .int x1), (2, .int x2), (3, .int x3)] [] (nd_SH ++ t) σ) (x2 : Int32) (x3 : Int32) (σ : nd_Mem) (h : f_X3_readSum_180 F rec6 x2 x3 σ = some z) : nd_V M_X3_readSum (nd_rm 6) (nd_Pi (nd_SH ++ t) z) 0 0 180 [(0, .ref 38), (2, .int x2), (3, .int x3)] [] (nd_SH ++ t) σ := by
  unfold f_X3_readSum_180 at h
  refine nd_aload_n dX3_readSum_180 0 rfl ?_
  refine nd_bipush dX3_readSum_181 ib_43 ?_
  obtain ⟨r1, σ2, hc3, h⟩ := nd_bind_e h
  refine nd_cvi [.int (43 : Int32)] [] dX3_readSum_183 cl_X3_132 (sh_38 t) ⟨Nat.le_of_ble_eq_true rfl, Nat.le_of_ble_eq_true rfl⟩ rfl (Nat.le_of_ble_eq_true rfl) hL (t_X3_isSign F t hL _ _ hc3) ?_
  refine nd_if_neN dX3_readSum_186 198 (by decide) h (fun h => ?_) (fun h => ?_)
  · exact b_X3_readSum_198 F _ t hL hrec6 _ _ _ h
  · refine nd_aload_n dX3_readSum_189 0 rfl ?_
    refine nd_bipush dX3_readSum_190 ib_45 ?_
    obtain ⟨r4, σ5, hc6, h⟩ := nd_bind_e h
    refine nd_cvi [.int (45 : Int32)] [] dX3_readSum_192 cl_X3_132 (sh_38 t) ⟨Nat.le_of_ble_eq_true rfl, Nat.le_of_ble_eq_true rfl⟩ rfl (Nat.le_of_ble_eq_true rfl) hL (t_X3_isSign F t hL _ _ hc6) ?_
    refine nd_if_eqN dX3_readSum_195 205 (by decide) h (fun h => ?_) (fun h => ?_)
    · refine nd_iconst dX3_readSum_205 ic_0 ?_
      exact b_X3_readSum_206 F _ t hL hrec6 _ _ _ _ h
    · exact b_X3_readSum_198 F _ t hL hrec6 _ _ _ h
set_option maxRecDepth 100000 in
set_option maxHeartbeats 4000000 in
theorem b_X3_readSum_158 (F : Nat) (rec6 : Int32 → Int32 → Int32 → nd_Mem → nd_Res) (t : List nd_S) (hL : (nd_SH ++ t).length < nd_ro) {z : Int32 × nd_Mem} (hrec6 : ∀ (x1 : Int32) (x2 : Int32) (x3 : Int32) (σ : nd_Mem), rec6 x1 x2 x3 σ = some z → nd_V M_X3_readSum (nd_rm 6) (nd_Pi (nd_SH ++ t) z) 0 0 6 [(0, .ref 38), (1, .int x1), (2, .int x2), (3, .int x3)] [] (nd_SH ++ t) σ) (x1 : Int32) (x3 : Int32) (s0 : Int32) (σ : nd_Mem) (h : f_X3_readSum_158 F rec6 x1 x3 s0 σ = some z) : nd_V M_X3_readSum (nd_rm 6) (nd_Pi (nd_SH ++ t) z) 0 0 158 [(0, .ref 38), (1, .int x1), (3, .int x3)] [.int s0] (nd_SH ++ t) σ := by
  unfold f_X3_readSum_158 at h
  refine nd_istore_n (ls' := [(2, .int s0), (0, .ref 38), (1, .int x1), (3, .int x3)]) dX3_readSum_158 (by decide) rfl ?_
  refine nd_iload_n dX3_readSum_159 0 rfl ?_
  refine nd_if_neN dX3_readSum_160 213 (by decide) h (fun h => ?_) (fun h => ?_)
  · refine nd_sub [1, 2, 0, 3] rfl ?_
    exact b_X3_readSum_213 F _ t hL hrec6 _ _ _ _ h
  · refine nd_iload_n dX3_readSum_163 2 rfl ?_
    refine nd_if_eqN dX3_readSum_164 180 (by decide) h (fun h => ?_) (fun h => ?_)
    · refine nd_sub [1, 0, 3] rfl ?_
      exact b_X3_readSum_180 F _ t hL hrec6 _ _ _ h
    · refine nd_aload_n dX3_readSum_167 1 rfl ?_
      refine nd_get dX3_readSum_168 gf_X3_12 (sh_38 t) rfl ?_
      refine nd_get dX3_readSum_171 gf_X3_95 (sh_39 t) rfl ?_
      refine nd_iload_n dX3_readSum_174 2 rfl ?_
      refine nd_ineg dX3_readSum_175 ?_
      obtain ⟨r1, σ2, hc3, h⟩ := nd_bind_e h
      refine nd_cvi [.int (-x1)] [] dX3_readSum_176 cl_X3_138 (sh_42 t) ⟨Nat.le_of_ble_eq_true rfl, Nat.le_of_ble_eq_true rfl⟩ rfl (Nat.le_of_ble_eq_true rfl) hL (t_X4_add F 42 43 400 (nd_SH ++ t) hL (is_Row_42 t) _ _ hc3) ?_
      refine nd_pop dX3_readSum_179 rfl ?_
      refine nd_sub [1, 0, 3] rfl ?_
      exact b_X3_readSum_180 F _ t hL hrec6 _ _ _ h
set_option maxRecDepth 100000 in
set_option maxHeartbeats 4000000 in
theorem b_X3_readSum_150 (F : Nat) (rec6 : Int32 → Int32 → Int32 → nd_Mem → nd_Res) (t : List nd_S) (hL : (nd_SH ++ t).length < nd_ro) {z : Int32 × nd_Mem} (hrec6 : ∀ (x1 : Int32) (x2 : Int32) (x3 : Int32) (σ : nd_Mem), rec6 x1 x2 x3 σ = some z → nd_V M_X3_readSum (nd_rm 6) (nd_Pi (nd_SH ++ t) z) 0 0 6 [(0, .ref 38), (1, .int x1), (2, .int x2), (3, .int x3)] [] (nd_SH ++ t) σ) (x1 : Int32) (x3 : Int32) (σ : nd_Mem) (h : f_X3_readSum_150 F rec6 x1 x3 σ = some z) : nd_V M_X3_readSum (nd_rm 6) (nd_Pi (nd_SH ++ t) z) 0 0 150 [(0, .ref 38), (1, .int x1), (3, .int x3)] [] (nd_SH ++ t) σ := by
  unfold f_X3_readSum_150 at h
  refine nd_aload_n dX3_readSum_150 0 rfl ?_
  refine nd_get dX3_readSum_151 gf_X3_72 (sh_38 t) rfl ?_
  refine nd_goto dX3_readSum_154 158 (by decide) ?_
  exact b_X3_readSum_158 F _ t hL hrec6 _ _ _ _ h
set_option maxRecDepth 100000 in
set_option maxHeartbeats 4000000 in
theorem b_X3_readSum_132 (F : Nat) (rec6 : Int32 → Int32 → Int32 → nd_Mem → nd_Res) (t : List nd_S) (hL : (nd_SH ++ t).length < nd_ro) {z : Int32 × nd_Mem} (hrec6 : ∀ (x1 : Int32) (x2 : Int32) (x3 : Int32) (σ : nd_Mem), rec6 x1 x2 x3 σ = some z → nd_V M_X3_readSum (nd_rm 6) (nd_Pi (nd_SH ++ t) z) 0 0 6 [(0, .ref 38), (1, .int x1), (2, .int x2), (3, .int x3)] [] (nd_SH ++ t) σ) (x1 : Int32) (x3 : Int32) (σ : nd_Mem) (h : f_X3_readSum_132 F rec6 x1 x3 σ = some z) : nd_V M_X3_readSum (nd_rm 6) (nd_Pi (nd_SH ++ t) z) 0 0 132 [(0, .ref 38), (1, .int x1), (3, .int x3)] [] (nd_SH ++ t) σ := by
  unfold f_X3_readSum_132 at h
  refine nd_aload_n dX3_readSum_132 0 rfl ?_
  refine nd_bipush dX3_readSum_133 ib_42 ?_
  obtain ⟨r1, σ2, hc3, h⟩ := nd_bind_e h
  refine nd_cvi [.int (42 : Int32)] [] dX3_readSum_135 cl_X3_132 (sh_38 t) ⟨Nat.le_of_ble_eq_true rfl, Nat.le_of_ble_eq_true rfl⟩ rfl (Nat.le_of_ble_eq_true rfl) hL (t_X3_isSign F t hL _ _ hc3) ?_
  refine nd_if_neN dX3_readSum_138 150 (by decide) h (fun h => ?_) (fun h => ?_)
  · exact b_X3_readSum_150 F _ t hL hrec6 _ _ _ h
  · refine nd_aload_n dX3_readSum_141 0 rfl ?_
    refine nd_bipush dX3_readSum_142 ib_47 ?_
    obtain ⟨r4, σ5, hc6, h⟩ := nd_bind_e h
    refine nd_cvi [.int (47 : Int32)] [] dX3_readSum_144 cl_X3_132 (sh_38 t) ⟨Nat.le_of_ble_eq_true rfl, Nat.le_of_ble_eq_true rfl⟩ rfl (Nat.le_of_ble_eq_true rfl) hL (t_X3_isSign F t hL _ _ hc6) ?_
    refine nd_if_eqN dX3_readSum_147 157 (by decide) h (fun h => ?_) (fun h => ?_)
    · refine nd_iconst dX3_readSum_157 ic_0 ?_
      exact b_X3_readSum_158 F _ t hL hrec6 _ _ _ _ h
    · exact b_X3_readSum_150 F _ t hL hrec6 _ _ _ h
set_option maxRecDepth 100000 in
set_option maxHeartbeats 4000000 in
theorem b_X3_readSum_107 (F : Nat) (rec6 : Int32 → Int32 → Int32 → nd_Mem → nd_Res) (t : List nd_S) (hL : (nd_SH ++ t).length < nd_ro) {z : Int32 × nd_Mem} (hrec6 : ∀ (x1 : Int32) (x2 : Int32) (x3 : Int32) (σ : nd_Mem), rec6 x1 x2 x3 σ = some z → nd_V M_X3_readSum (nd_rm 6) (nd_Pi (nd_SH ++ t) z) 0 0 6 [(0, .ref 38), (1, .int x1), (2, .int x2), (3, .int x3)] [] (nd_SH ++ t) σ) (x1 : Int32) (x2 : Int32) (x3 : Int32) (s0 : Int32) (σ : nd_Mem) (h : f_X3_readSum_107 F rec6 x1 x2 x3 s0 σ = some z) : nd_V M_X3_readSum (nd_rm 6) (nd_Pi (nd_SH ++ t) z) 0 0 107 [(0, .ref 38), (1, .int x1), (2, .int x2), (3, .int x3)] [.int s0, .ref 42] (nd_SH ++ t) σ := by
  unfold f_X3_readSum_107 at h
  obtain ⟨r1, σ2, hc3, h⟩ := nd_bind_e h
  refine nd_cvi [.int s0] [] dX3_readSum_107 cl_X3_138 (sh_42 t) ⟨Nat.le_of_ble_eq_true rfl, Nat.le_of_ble_eq_true rfl⟩ rfl (Nat.le_of_ble_eq_true rfl) hL (t_X4_add F 42 43 400 (nd_SH ++ t) hL (is_Row_42 t) _ _ hc3) ?_
  refine nd_pop dX3_readSum_110 rfl ?_
  refine nd_aload_n dX3_readSum_111 0 rfl ?_
  obtain ⟨r4, σ5, hc6, h⟩ := nd_bind_e h
  refine nd_cvv [] [] dX3_readSum_112 cl_X3_52 (sh_38 t) ⟨Nat.le_of_ble_eq_true rfl, Nat.le_of_ble_eq_true rfl⟩ rfl (Nat.le_of_ble_eq_true rfl) hL (t_X3_advance F t hL _ hc6) ?_
  refine nd_iload_n dX3_readSum_115 2 rfl ?_
  refine nd_if_eqN dX3_readSum_116 132 (by decide) h (fun h => ?_) (fun h => ?_)
  · refine nd_sub [0, 1, 3] rfl ?_
    exact b_X3_readSum_132 F _ t hL hrec6 _ _ _ h
  · refine nd_aload_n dX3_readSum_119 0 rfl ?_
    refine nd_get dX3_readSum_120 gf_X3_12 (sh_38 t) rfl ?_
    refine nd_get dX3_readSum_123 gf_X3_95 (sh_39 t) rfl ?_
    refine nd_iload_n dX3_readSum_126 2 rfl ?_
    refine nd_ineg dX3_readSum_127 ?_
    obtain ⟨r7, σ8, hc9, h⟩ := nd_bind_e h
    refine nd_cvi [.int (-x2)] [] dX3_readSum_128 cl_X3_138 (sh_42 t) ⟨Nat.le_of_ble_eq_true rfl, Nat.le_of_ble_eq_true rfl⟩ rfl (Nat.le_of_ble_eq_true rfl) hL (t_X4_add F 42 43 400 (nd_SH ++ t) hL (is_Row_42 t) _ _ hc9) ?_
    refine nd_pop dX3_readSum_131 rfl ?_
    refine nd_sub [0, 1, 3] rfl ?_
    exact b_X3_readSum_132 F _ t hL hrec6 _ _ _ h
set_option maxRecDepth 100000 in
set_option maxHeartbeats 4000000 in
theorem b_X3_readSum_81 (F : Nat) (rec6 : Int32 → Int32 → Int32 → nd_Mem → nd_Res) (t : List nd_S) (hL : (nd_SH ++ t).length < nd_ro) {z : Int32 × nd_Mem} (hrec6 : ∀ (x1 : Int32) (x2 : Int32) (x3 : Int32) (σ : nd_Mem), rec6 x1 x2 x3 σ = some z → nd_V M_X3_readSum (nd_rm 6) (nd_Pi (nd_SH ++ t) z) 0 0 6 [(0, .ref 38), (1, .int x1), (2, .int x2), (3, .int x3)] [] (nd_SH ++ t) σ) (x1 : Int32) (x2 : Int32) (x3 : Int32) (x4 : Int32) (σ : nd_Mem) (h : f_X3_readSum_81 F rec6 x1 x2 x3 x4 σ = some z) : nd_V M_X3_readSum (nd_rm 6) (nd_Pi (nd_SH ++ t) z) 0 0 81 [(0, .ref 38), (1, .int x1), (2, .int x2), (3, .int x3), (4, .int x4)] [] (nd_SH ++ t) σ := by
  unfold f_X3_readSum_81 at h
  refine nd_aload_n dX3_readSum_81 0 rfl ?_
  refine nd_get dX3_readSum_82 gf_X3_12 (sh_38 t) rfl ?_
  refine nd_get dX3_readSum_85 gf_X3_95 (sh_39 t) rfl ?_
  refine nd_iload dX3_readSum_88 4 rfl ?_
  refine nd_if_eqN dX3_readSum_90 103 (by decide) h (fun h => ?_) (fun h => ?_)
  · refine nd_aload_n dX3_readSum_103 0 rfl ?_
    refine nd_get dX3_readSum_104 gf_X3_72 (sh_38 t) rfl ?_
    refine nd_sub [0, 1, 2, 3] rfl ?_
    exact b_X3_readSum_107 F _ t hL hrec6 _ _ _ _ _ h
  · refine nd_bipush dX3_readSum_93 ib_m100 ?_
    refine nd_aload_n dX3_readSum_95 0 rfl ?_
    refine nd_get dX3_readSum_96 gf_X3_72 (sh_38 t) rfl ?_
    refine nd_isub dX3_readSum_99 ?_
    refine nd_goto dX3_readSum_100 107 (by decide) ?_
    refine nd_sub [0, 1, 2, 3] rfl ?_
    exact b_X3_readSum_107 F _ t hL hrec6 _ _ _ _ _ h
set_option maxRecDepth 100000 in
set_option maxHeartbeats 4000000 in
theorem b_X3_readSum_62 (F : Nat) (rec6 : Int32 → Int32 → Int32 → nd_Mem → nd_Res) (t : List nd_S) (hL : (nd_SH ++ t).length < nd_ro) {z : Int32 × nd_Mem} (hrec6 : ∀ (x1 : Int32) (x2 : Int32) (x3 : Int32) (σ : nd_Mem), rec6 x1 x2 x3 σ = some z → nd_V M_X3_readSum (nd_rm 6) (nd_Pi (nd_SH ++ t) z) 0 0 6 [(0, .ref 38), (1, .int x1), (2, .int x2), (3, .int x3)] [] (nd_SH ++ t) σ) (x1 : Int32) (x2 : Int32) (x3 : Int32) (x4 : Int32) (σ : nd_Mem) (h : f_X3_readSum_62 F rec6 x1 x2 x3 x4 σ = some z) : nd_V M_X3_readSum (nd_rm 6) (nd_Pi (nd_SH ++ t) z) 0 0 62 [(0, .ref 38), (1, .int x1), (2, .int x2), (3, .int x3), (4, .int x4)] [] (nd_SH ++ t) σ := by
  unfold f_X3_readSum_62 at h
  refine nd_iload_n dX3_readSum_62 2 rfl ?_
  refine nd_bipush dX3_readSum_63 ib_47 ?_
  refine nd_icmp_neN dX3_readSum_65 81 (by decide) h (fun h => ?_) (fun h => ?_)
  · exact b_X3_readSum_81 F _ t hL hrec6 _ _ _ _ _ h
  · refine nd_aload_n dX3_readSum_68 0 rfl ?_
    refine nd_get dX3_readSum_69 gf_X3_72 (sh_38 t) rfl ?_
    refine nd_if_neN dX3_readSum_72 81 (by decide) h (fun h => ?_) (fun h => ?_)
    · exact b_X3_readSum_81 F _ t hL hrec6 _ _ _ _ _ h
    · refine nd_aload_n dX3_readSum_75 0 rfl ?_
      refine nd_iconst dX3_readSum_76 ic_2 ?_
      obtain ⟨r1, σ2, hc3, h⟩ := nd_bind_e h
      refine nd_cvi [.int (2 : Int32)] [] dX3_readSum_77 cl_X3_75 (sh_38 t) ⟨Nat.le_of_ble_eq_true rfl, Nat.le_of_ble_eq_true rfl⟩ rfl (Nat.le_of_ble_eq_true rfl) hL (t_X3_refuse F t hL _ _ hc3) ?_
      have hz4 := nd_no_e h
      have h := hz4.2
      exact nd_iret dX3_readSum_80 (Nat.zero_le _) (Nat.zero_le _) (nd_zok rfl (Classical.not_not.mp hz4.1)) (by cases h; exact ⟨rfl, rfl, rfl⟩)
set_option maxRecDepth 100000 in
set_option maxHeartbeats 4000000 in
theorem b_X3_readSum_41 (F : Nat) (rec6 : Int32 → Int32 → Int32 → nd_Mem → nd_Res) (t : List nd_S) (hL : (nd_SH ++ t).length < nd_ro) {z : Int32 × nd_Mem} (hrec6 : ∀ (x1 : Int32) (x2 : Int32) (x3 : Int32) (σ : nd_Mem), rec6 x1 x2 x3 σ = some z → nd_V M_X3_readSum (nd_rm 6) (nd_Pi (nd_SH ++ t) z) 0 0 6 [(0, .ref 38), (1, .int x1), (2, .int x2), (3, .int x3)] [] (nd_SH ++ t) σ) (x1 : Int32) (x2 : Int32) (x3 : Int32) (s0 : Int32) (σ : nd_Mem) (h : f_X3_readSum_41 F rec6 x1 x2 x3 s0 σ = some z) : nd_V M_X3_readSum (nd_rm 6) (nd_Pi (nd_SH ++ t) z) 0 0 41 [(0, .ref 38), (1, .int x1), (2, .int x2), (3, .int x3)] [.int s0] (nd_SH ++ t) σ := by
  unfold f_X3_readSum_41 at h
  refine nd_istore (ls' := [(4, .int s0), (0, .ref 38), (1, .int x1), (2, .int x2), (3, .int x3)]) dX3_readSum_41 (by decide) rfl ?_
  refine nd_aload_n dX3_readSum_43 1 rfl ?_
  refine nd_get dX3_readSum_44 gf_X3_55 (sh_38 t) rfl ?_
  refine nd_iconst dX3_readSum_47 ic_2 ?_
  refine nd_icmp_eqN dX3_readSum_48 62 (by decide) h (fun h => ?_) (fun h => ?_)
  · refine nd_sub [1, 2, 3, 4, 0] rfl ?_
    exact b_X3_readSum_62 F _ t hL hrec6 _ _ _ _ _ h
  · refine nd_iload dX3_readSum_51 0 rfl ?_
    refine nd_if_neN dX3_readSum_53 62 (by decide) h (fun h => ?_) (fun h => ?_)
    · refine nd_sub [1, 2, 3, 4, 0] rfl ?_
      exact b_X3_readSum_62 F _ t hL hrec6 _ _ _ _ _ h
    · refine nd_aload_n dX3_readSum_56 1 rfl ?_
      refine nd_iconst dX3_readSum_57 ic_1 ?_
      obtain ⟨r1, σ2, hc3, h⟩ := nd_bind_e h
      refine nd_cvi [.int (1 : Int32)] [] dX3_readSum_58 cl_X3_75 (sh_38 t) ⟨Nat.le_of_ble_eq_true rfl, Nat.le_of_ble_eq_true rfl⟩ rfl (Nat.le_of_ble_eq_true rfl) hL (t_X3_refuse F t hL _ _ hc3) ?_
      have hz4 := nd_no_e h
      have h := hz4.2
      exact nd_iret dX3_readSum_61 (Nat.zero_le _) (Nat.zero_le _) (nd_zok rfl (Classical.not_not.mp hz4.1)) (by cases h; exact ⟨rfl, rfl, rfl⟩)
set_option maxRecDepth 100000 in
set_option maxHeartbeats 4000000 in
theorem b_X3_readSum_40 (F : Nat) (rec6 : Int32 → Int32 → Int32 → nd_Mem → nd_Res) (t : List nd_S) (hL : (nd_SH ++ t).length < nd_ro) {z : Int32 × nd_Mem} (hrec6 : ∀ (x1 : Int32) (x2 : Int32) (x3 : Int32) (σ : nd_Mem), rec6 x1 x2 x3 σ = some z → nd_V M_X3_readSum (nd_rm 6) (nd_Pi (nd_SH ++ t) z) 0 0 6 [(0, .ref 38), (1, .int x1), (2, .int x2), (3, .int x3)] [] (nd_SH ++ t) σ) (x1 : Int32) (x2 : Int32) (x3 : Int32) (σ : nd_Mem) (h : f_X3_readSum_40 F rec6 x1 x2 x3 σ = some z) : nd_V M_X3_readSum (nd_rm 6) (nd_Pi (nd_SH ++ t) z) 0 0 40 [(0, .ref 38), (1, .int x1), (2, .int x2), (3, .int x3)] [] (nd_SH ++ t) σ := by
  unfold f_X3_readSum_40 at h
  refine nd_iconst dX3_readSum_40 ic_0 ?_
  exact b_X3_readSum_41 F _ t hL hrec6 _ _ _ _ _ h
set_option maxRecDepth 100000 in
set_option maxHeartbeats 4000000 in
theorem b_X3_readSum_6 (F : Nat) (t : List nd_S) (hL : (nd_SH ++ t).length < nd_ro) {z : Int32 × nd_Mem} (m9 : Nat) : ∀ (x1 : Int32) (x2 : Int32) (x3 : Int32) (σ : nd_Mem), f_X3_readSum_6 F m9 x1 x2 x3 σ = some z → nd_V M_X3_readSum (nd_rm 6) (nd_Pi (nd_SH ++ t) z) 0 0 6 [(0, .ref 38), (1, .int x1), (2, .int x2), (3, .int x3)] [] (nd_SH ++ t) σ := by
  induction m9 with
  | zero =>
    intro x1 x2 x3 σ h
    have h : none = some z := h
    cases h
  | succ m9 hrec6 =>
    intro x1 x2 x3 σ h
    have h : f_X3_readSum_6_b F (f_X3_readSum_6 F m9) x1 x2 x3 σ = some z := h
    unfold f_X3_readSum_6_b at h
    refine nd_iload_n dX3_readSum_6 3 rfl ?_
    refine nd_sipush dX3_readSum_7 is_400 ?_
    refine nd_icmp_geN dX3_readSum_10 223 (by decide) h (fun h => ?_) (fun h => ?_)
    · refine nd_aload_n dX3_readSum_223 0 rfl ?_
      refine nd_iconst dX3_readSum_224 ic_1 ?_
      obtain ⟨r1, σ2, hc3, h⟩ := nd_bind_e h
      refine nd_cvi [.int (1 : Int32)] [] dX3_readSum_225 cl_X3_75 (sh_38 t) ⟨Nat.le_of_ble_eq_true rfl, Nat.le_of_ble_eq_true rfl⟩ rfl (Nat.le_of_ble_eq_true rfl) hL (t_X3_refuse F t hL _ _ hc3) ?_
      have hz4 := nd_no_e h
      have h := hz4.2
      exact nd_iret dX3_readSum_228 (Nat.zero_le _) (Nat.zero_le _) (nd_zok rfl (Classical.not_not.mp hz4.1)) (by cases h; exact ⟨rfl, rfl, rfl⟩)
    · refine nd_aload_n dX3_readSum_13 0 rfl ?_
      refine nd_get dX3_readSum_14 gf_X3_55 (sh_38 t) rfl ?_
      refine nd_iconst dX3_readSum_17 ic_1 ?_
      refine nd_icmp_neN dX3_readSum_18 40 (by decide) h (fun h => ?_) (fun h => ?_)
      · exact b_X3_readSum_40 F _ t hL hrec6 _ _ _ _ h
      · refine nd_aload_n dX3_readSum_21 0 rfl ?_
        refine nd_get dX3_readSum_22 gf_X3_72 (sh_38 t) rfl ?_
        refine nd_bipush dX3_readSum_25 ib_7 ?_
        refine nd_icmp_ltN dX3_readSum_27 40 (by decide) h (fun h => ?_) (fun h => ?_)
        · exact b_X3_readSum_40 F _ t hL hrec6 _ _ _ _ h
        · refine nd_iload_n dX3_readSum_30 2 rfl ?_
          refine nd_bipush dX3_readSum_31 ib_47 ?_
          refine nd_icmp_eqN dX3_readSum_33 40 (by decide) h (fun h => ?_) (fun h => ?_)
          · exact b_X3_readSum_40 F _ t hL hrec6 _ _ _ _ h
          · refine nd_iconst dX3_readSum_36 ic_1 ?_
            refine nd_goto dX3_readSum_37 41 (by decide) ?_
            exact b_X3_readSum_41 F _ t hL hrec6 _ _ _ _ _ h
set_option maxRecDepth 100000 in
set_option maxHeartbeats 4000000 in
theorem t_X3_readSum (F : Nat) (t : List nd_S) (hL : (nd_SH ++ t).length < nd_ro) {z : Int32 × nd_Mem} (σ : nd_Mem) (h : f_X3_readSum F σ = some z) : nd_Fn M_X3_readSum (nd_rm 6) [.ref 38] (nd_SH ++ t) σ (nd_Pi (nd_SH ++ t) z) := by
  refine nd_Fn.ofV (ls := [(0, .ref 38)]) pl_X3_readSum rfl (fun _ => Nat.le_of_ble_eq_true rfl) (fun _ => rfl) ?_
  unfold f_X3_readSum at h
  refine nd_iconst dX3_readSum_0 ic_0 ?_
  refine nd_istore_n (ls' := [(1, .int (0 : Int32)), (0, .ref 38)]) dX3_readSum_1 (by decide) rfl ?_
  refine nd_iconst dX3_readSum_2 ic_0 ?_
  refine nd_istore_n (ls' := [(2, .int (0 : Int32)), (1, .int (0 : Int32)), (0, .ref 38)]) dX3_readSum_3 (by decide) rfl ?_
  refine nd_iconst dX3_readSum_4 ic_0 ?_
  refine nd_istore_n (ls' := [(3, .int (0 : Int32)), (2, .int (0 : Int32)), (1, .int (0 : Int32)), (0, .ref 38)]) dX3_readSum_5 (by decide) rfl ?_
  refine nd_sub [3, 2, 1, 0] rfl ?_
  exact b_X3_readSum_6 F t hL F _ _ _ _ h
def f_X3_readFeud_27 (F : Nat) (σ : nd_Mem) : nd_Res := (some ((0 : Int32), σ))
def f_X3_readFeud (F : Nat) (σ : nd_Mem) : nd_Res := (nd_bind (f_X3_readNumber F (0 : Int32) ((σ 38 6) - (1 : Int32)) (-1 : Int32) σ) fun r1 σ2 => (if r1 = 0 then (f_X3_readFeud_27 F σ2) else (nd_bind (f_X3_readSecondWord F σ2) fun r4 σ5 => (if r4 = 0 then (f_X3_readFeud_27 F σ5) else (nd_bind (f_X3_readNumber F (0 : Int32) ((σ5 38 6) - (1 : Int32)) (σ 38 8) σ5) fun r7 σ8 => (if r7 = 0 then (some ((0 : Int32), σ8)) else (nd_bind (f_X5_addFeud F 39 (σ 38 8) (σ5 38 8) σ8) fun r10 σ11 => (some ((1 : Int32), σ11)))))))))
set_option maxRecDepth 100000 in
set_option maxHeartbeats 4000000 in
theorem b_X3_readFeud_27 (F : Nat) (t : List nd_S) (hL : (nd_SH ++ t).length < nd_ro) {z : Int32 × nd_Mem} (σ : nd_Mem) (h : f_X3_readFeud_27 F σ = some z) : nd_V M_X3_readFeud (nd_rm 7) (nd_Pi (nd_SH ++ t) z) 0 0 27 [(0, .ref 38)] [] (nd_SH ++ t) σ := by
  unfold f_X3_readFeud_27 at h
  refine nd_iconst dX3_readFeud_27 ic_0 ?_
  exact nd_iret dX3_readFeud_28 (Nat.zero_le _) (Nat.zero_le _) rfl (by cases h; exact ⟨rfl, rfl, rfl⟩)
set_option maxRecDepth 100000 in
set_option maxHeartbeats 4000000 in
theorem t_X3_readFeud (F : Nat) (t : List nd_S) (hL : (nd_SH ++ t).length < nd_ro) {z : Int32 × nd_Mem} (σ : nd_Mem) (h : f_X3_readFeud F σ = some z) : nd_Fn M_X3_readFeud (nd_rm 7) [.ref 38] (nd_SH ++ t) σ (nd_Pi (nd_SH ++ t) z) := by
  refine nd_Fn.ofV (ls := [(0, .ref 38)]) pl_X3_readFeud rfl (fun _ => Nat.le_of_ble_eq_true rfl) (fun _ => rfl) ?_
  unfold f_X3_readFeud at h
  refine nd_aload_n dX3_readFeud_0 0 rfl ?_
  refine nd_get dX3_readFeud_1 gf_X3_72 (sh_38 t) rfl ?_
  refine nd_istore_n (ls' := [(1, .int (σ 38 8)), (0, .ref 38)]) dX3_readFeud_4 (by decide) rfl ?_
  refine nd_aload_n dX3_readFeud_5 1 rfl ?_
  refine nd_iconst dX3_readFeud_6 ic_0 ?_
  refine nd_aload_n dX3_readFeud_7 1 rfl ?_
  refine nd_get dX3_readFeud_8 gf_X3_42 (sh_38 t) rfl ?_
  refine nd_iconst dX3_readFeud_11 ic_1 ?_
  refine nd_isub dX3_readFeud_12 ?_
  refine nd_iconst dX3_readFeud_13 ic_m1 ?_
  obtain ⟨r1, σ2, hc3, h⟩ := nd_bind_e h
  refine nd_cvi [.int (0 : Int32), .int ((σ 38 6) - (1 : Int32)), .int (-1 : Int32)] [] dX3_readFeud_14 cl_X3_115 (sh_38 t) ⟨Nat.le_of_ble_eq_true rfl, Nat.le_of_ble_eq_true rfl⟩ rfl (Nat.le_of_ble_eq_true rfl) hL (t_X3_readNumber F t hL _ _ _ _ hc3) ?_
  refine nd_if_eqN dX3_readFeud_17 27 (by decide) h (fun h => ?_) (fun h => ?_)
  · refine nd_sub [1] rfl ?_
    exact b_X3_readFeud_27 F t hL _ h
  · refine nd_aload_n dX3_readFeud_20 1 rfl ?_
    obtain ⟨r4, σ5, hc6, h⟩ := nd_bind_e h
    refine nd_cvi [] [] dX3_readFeud_21 cl_X3_122 (sh_38 t) ⟨Nat.le_of_ble_eq_true rfl, Nat.le_of_ble_eq_true rfl⟩ rfl (Nat.le_of_ble_eq_true rfl) hL (t_X3_readSecondWord F t hL _ hc6) ?_
    refine nd_if_neN dX3_readFeud_24 29 (by decide) h (fun h => ?_) (fun h => ?_)
    · refine nd_aload_n dX3_readFeud_29 1 rfl ?_
      refine nd_get dX3_readFeud_30 gf_X3_72 (sh_38 t) rfl ?_
      refine nd_istore_n (ls' := [(2, .int (σ5 38 8)), (1, .int (σ 38 8)), (0, .ref 38)]) dX3_readFeud_33 (by decide) rfl ?_
      refine nd_aload_n dX3_readFeud_34 2 rfl ?_
      refine nd_iconst dX3_readFeud_35 ic_0 ?_
      refine nd_aload_n dX3_readFeud_36 2 rfl ?_
      refine nd_get dX3_readFeud_37 gf_X3_42 (sh_38 t) rfl ?_
      refine nd_iconst dX3_readFeud_40 ic_1 ?_
      refine nd_isub dX3_readFeud_41 ?_
      refine nd_iload_n dX3_readFeud_42 1 rfl ?_
      obtain ⟨r7, σ8, hc9, h⟩ := nd_bind_e h
      refine nd_cvi [.int (0 : Int32), .int ((σ5 38 6) - (1 : Int32)), .int (σ 38 8)] [] dX3_readFeud_43 cl_X3_115 (sh_38 t) ⟨Nat.le_of_ble_eq_true rfl, Nat.le_of_ble_eq_true rfl⟩ rfl (Nat.le_of_ble_eq_true rfl) hL (t_X3_readNumber F t hL _ _ _ _ hc9) ?_
      refine nd_if_neN dX3_readFeud_46 51 (by decide) h (fun h => ?_) (fun h => ?_)
      · refine nd_aload_n dX3_readFeud_51 2 rfl ?_
        refine nd_get dX3_readFeud_52 gf_X3_12 (sh_38 t) rfl ?_
        refine nd_iload_n dX3_readFeud_55 1 rfl ?_
        refine nd_iload_n dX3_readFeud_56 0 rfl ?_
        obtain ⟨r10, σ11, hc12, h⟩ := nd_bind_e h
        refine nd_cvv [.int (σ 38 8), .int (σ5 38 8)] [] dX3_readFeud_57 cl_X3_125 (sh_39 t) ⟨Nat.le_of_ble_eq_true rfl, Nat.le_of_ble_eq_true rfl⟩ rfl (Nat.le_of_ble_eq_true rfl) hL (t_X5_addFeud F 39 (nd_SH ++ t) hL (is_Rules_39 t) _ _ _ hc12) ?_
        refine nd_iconst dX3_readFeud_60 ic_1 ?_
        exact nd_iret dX3_readFeud_61 (Nat.zero_le _) (Nat.zero_le _) rfl (by cases h; exact ⟨rfl, rfl, rfl⟩)
      · refine nd_iconst dX3_readFeud_49 ic_0 ?_
        exact nd_iret dX3_readFeud_50 (Nat.zero_le _) (Nat.zero_le _) rfl (by cases h; exact ⟨rfl, rfl, rfl⟩)
    · refine nd_sub [1] rfl ?_
      exact b_X3_readFeud_27 F t hL _ h
def f_X3_readPlan_36 (F : Nat) (σ : nd_Mem) : nd_Res := (nd_bind (f_X3_refuse F (1 : Int32) σ) fun r1 σ2 => (if ¬ (r1 = 0 ∨ r1 = 1) then none else (some (r1, σ2))))
def f_X3_readPlan_93 (F : Nat) (x1 : Int32) (x2 : Int32) (x3 : Int32) (x4 : Int32) (σ : nd_Mem) : nd_Res := (nd_bind (f_X5_addPlan F 39 x1 x2 x3 x4 σ) fun r1 σ2 => (some ((1 : Int32), σ2)))
def f_X3_readPlan (F : Nat) (σ : nd_Mem) : nd_Res := (nd_bind (f_X3_readNumber F (0 : Int32) (999 : Int32) (-1 : Int32) σ) fun r1 σ2 => (if r1 = 0 then (some ((0 : Int32), σ2)) else (if (σ2 38 7) = (1 : Int32) then (if (σ2 38 8) = 0 then (f_X3_readPlan_36 F σ2) else (nd_bind (f_X3_advance F σ2) fun r4 σ5 => (nd_bind (f_X3_readNumber F (0 : Int32) ((σ5 38 6) - (1 : Int32)) (-1 : Int32) σ5) fun r7 σ8 => (if r7 = 0 then (some ((0 : Int32), σ8)) else (if (σ2 38 8) = (5 : Int32) then (nd_bind (f_X3_readNumber F (1 : Int32) (999 : Int32) (-1 : Int32) σ8) fun r10 σ11 => (if r10 = 0 then (some ((0 : Int32), σ11)) else (f_X3_readPlan_93 F (σ 38 8) (σ2 38 8) (σ5 38 8) (σ8 38 8) σ11))) else (f_X3_readPlan_93 F (σ 38 8) (σ2 38 8) (σ5 38 8) (σ8 38 8) σ8)))))) else (f_X3_readPlan_36 F σ2))))
set_option maxRecDepth 100000 in
set_option maxHeartbeats 4000000 in
theorem b_X3_readPlan_36 (F : Nat) (t : List nd_S) (hL : (nd_SH ++ t).length < nd_ro) {z : Int32 × nd_Mem} (σ : nd_Mem) (h : f_X3_readPlan_36 F σ = some z) : nd_V M_X3_readPlan (nd_rm 7) (nd_Pi (nd_SH ++ t) z) 0 0 36 [(0, .ref 38)] [] (nd_SH ++ t) σ := by
  unfold f_X3_readPlan_36 at h
  refine nd_aload_n dX3_readPlan_36 0 rfl ?_
  refine nd_iconst dX3_readPlan_37 ic_1 ?_
  obtain ⟨r1, σ2, hc3, h⟩ := nd_bind_e h
  refine nd_cvi [.int (1 : Int32)] [] dX3_readPlan_38 cl_X3_75 (sh_38 t) ⟨Nat.le_of_ble_eq_true rfl, Nat.le_of_ble_eq_true rfl⟩ rfl (Nat.le_of_ble_eq_true rfl) hL (t_X3_refuse F t hL _ _ hc3) ?_
  have hz4 := nd_no_e h
  have h := hz4.2
  exact nd_iret dX3_readPlan_41 (Nat.zero_le _) (Nat.zero_le _) (nd_zok rfl (Classical.not_not.mp hz4.1)) (by cases h; exact ⟨rfl, rfl, rfl⟩)
set_option maxRecDepth 100000 in
set_option maxHeartbeats 4000000 in
theorem b_X3_readPlan_93 (F : Nat) (t : List nd_S) (hL : (nd_SH ++ t).length < nd_ro) {z : Int32 × nd_Mem} (x1 : Int32) (x2 : Int32) (x3 : Int32) (x4 : Int32) (σ : nd_Mem) (h : f_X3_readPlan_93 F x1 x2 x3 x4 σ = some z) : nd_V M_X3_readPlan (nd_rm 7) (nd_Pi (nd_SH ++ t) z) 0 0 93 [(0, .ref 38), (1, .int x1), (2, .int x2), (3, .int x3), (4, .int x4)] [] (nd_SH ++ t) σ := by
  unfold f_X3_readPlan_93 at h
  refine nd_aload_n dX3_readPlan_93 0 rfl ?_
  refine nd_get dX3_readPlan_94 gf_X3_12 (sh_38 t) rfl ?_
  refine nd_iload_n dX3_readPlan_97 1 rfl ?_
  refine nd_iload_n dX3_readPlan_98 2 rfl ?_
  refine nd_iload_n dX3_readPlan_99 3 rfl ?_
  refine nd_iload dX3_readPlan_100 4 rfl ?_
  obtain ⟨r1, σ2, hc3, h⟩ := nd_bind_e h
  refine nd_cvv [.int x1, .int x2, .int x3, .int x4] [] dX3_readPlan_102 cl_X3_119 (sh_39 t) ⟨Nat.le_of_ble_eq_true rfl, Nat.le_of_ble_eq_true rfl⟩ rfl (Nat.le_of_ble_eq_true rfl) hL (t_X5_addPlan F 39 (nd_SH ++ t) hL (is_Rules_39 t) _ _ _ _ _ hc3) ?_
  refine nd_iconst dX3_readPlan_105 ic_1 ?_
  exact nd_iret dX3_readPlan_106 (Nat.zero_le _) (Nat.zero_le _) rfl (by cases h; exact ⟨rfl, rfl, rfl⟩)
set_option maxRecDepth 100000 in
set_option maxHeartbeats 4000000 in
theorem t_X3_readPlan (F : Nat) (t : List nd_S) (hL : (nd_SH ++ t).length < nd_ro) {z : Int32 × nd_Mem} (σ : nd_Mem) (h : f_X3_readPlan F σ = some z) : nd_Fn M_X3_readPlan (nd_rm 7) [.ref 38] (nd_SH ++ t) σ (nd_Pi (nd_SH ++ t) z) := by
  refine nd_Fn.ofV (ls := [(0, .ref 38)]) pl_X3_readPlan rfl (fun _ => Nat.le_of_ble_eq_true rfl) (fun _ => rfl) ?_
  unfold f_X3_readPlan at h
  refine nd_aload_n dX3_readPlan_0 0 rfl ?_
  refine nd_get dX3_readPlan_1 gf_X3_72 (sh_38 t) rfl ?_
  refine nd_istore_n (ls' := [(1, .int (σ 38 8)), (0, .ref 38)]) dX3_readPlan_4 (by decide) rfl ?_
  refine nd_aload_n dX3_readPlan_5 1 rfl ?_
  refine nd_iconst dX3_readPlan_6 ic_0 ?_
  refine nd_sipush dX3_readPlan_7 is_999 ?_
  refine nd_iconst dX3_readPlan_10 ic_m1 ?_
  obtain ⟨r1, σ2, hc3, h⟩ := nd_bind_e h
  refine nd_cvi [.int (0 : Int32), .int (999 : Int32), .int (-1 : Int32)] [] dX3_readPlan_11 cl_X3_115 (sh_38 t) ⟨Nat.le_of_ble_eq_true rfl, Nat.le_of_ble_eq_true rfl⟩ rfl (Nat.le_of_ble_eq_true rfl) hL (t_X3_readNumber F t hL _ _ _ _ hc3) ?_
  refine nd_if_neN dX3_readPlan_14 19 (by decide) h (fun h => ?_) (fun h => ?_)
  · refine nd_aload_n dX3_readPlan_19 1 rfl ?_
    refine nd_get dX3_readPlan_20 gf_X3_72 (sh_38 t) rfl ?_
    refine nd_istore_n (ls' := [(2, .int (σ2 38 8)), (1, .int (σ 38 8)), (0, .ref 38)]) dX3_readPlan_23 (by decide) rfl ?_
    refine nd_aload_n dX3_readPlan_24 2 rfl ?_
    refine nd_get dX3_readPlan_25 gf_X3_55 (sh_38 t) rfl ?_
    refine nd_iconst dX3_readPlan_28 ic_1 ?_
    refine nd_icmp_neN dX3_readPlan_29 36 (by decide) h (fun h => ?_) (fun h => ?_)
    · refine nd_sub [2] rfl ?_
      exact b_X3_readPlan_36 F t hL _ h
    · refine nd_iload_n dX3_readPlan_32 0 rfl ?_
      refine nd_if_neN dX3_readPlan_33 42 (by decide) h (fun h => ?_) (fun h => ?_)
      · refine nd_aload_n dX3_readPlan_42 2 rfl ?_
        obtain ⟨r4, σ5, hc6, h⟩ := nd_bind_e h
        refine nd_cvv [] [] dX3_readPlan_43 cl_X3_52 (sh_38 t) ⟨Nat.le_of_ble_eq_true rfl, Nat.le_of_ble_eq_true rfl⟩ rfl (Nat.le_of_ble_eq_true rfl) hL (t_X3_advance F t hL _ hc6) ?_
        refine nd_aload_n dX3_readPlan_46 2 rfl ?_
        refine nd_get dX3_readPlan_47 gf_X3_72 (sh_38 t) rfl ?_
        refine nd_istore_n (ls' := [(3, .int (σ5 38 8)), (2, .int (σ2 38 8)), (1, .int (σ 38 8)), (0, .ref 38)]) dX3_readPlan_50 (by decide) rfl ?_
        refine nd_aload_n dX3_readPlan_51 3 rfl ?_
        refine nd_iconst dX3_readPlan_52 ic_0 ?_
        refine nd_aload_n dX3_readPlan_53 3 rfl ?_
        refine nd_get dX3_readPlan_54 gf_X3_42 (sh_38 t) rfl ?_
        refine nd_iconst dX3_readPlan_57 ic_1 ?_
        refine nd_isub dX3_readPlan_58 ?_
        refine nd_iconst dX3_readPlan_59 ic_m1 ?_
        obtain ⟨r7, σ8, hc9, h⟩ := nd_bind_e h
        refine nd_cvi [.int (0 : Int32), .int ((σ5 38 6) - (1 : Int32)), .int (-1 : Int32)] [] dX3_readPlan_60 cl_X3_115 (sh_38 t) ⟨Nat.le_of_ble_eq_true rfl, Nat.le_of_ble_eq_true rfl⟩ rfl (Nat.le_of_ble_eq_true rfl) hL (t_X3_readNumber F t hL _ _ _ _ hc9) ?_
        refine nd_if_neN dX3_readPlan_63 68 (by decide) h (fun h => ?_) (fun h => ?_)
        · refine nd_aload_n dX3_readPlan_68 3 rfl ?_
          refine nd_get dX3_readPlan_69 gf_X3_72 (sh_38 t) rfl ?_
          refine nd_istore (ls' := [(4, .int (σ8 38 8)), (3, .int (σ5 38 8)), (2, .int (σ2 38 8)), (1, .int (σ 38 8)), (0, .ref 38)]) dX3_readPlan_72 (by decide) rfl ?_
          refine nd_iload_n dX3_readPlan_74 2 rfl ?_
          refine nd_iconst dX3_readPlan_75 ic_5 ?_
          refine nd_icmp_neN dX3_readPlan_76 93 (by decide) h (fun h => ?_) (fun h => ?_)
          · refine nd_sub [4, 3, 2, 1, 0] rfl ?_
            exact b_X3_readPlan_93 F t hL _ _ _ _ _ h
          · refine nd_aload_n dX3_readPlan_79 4 rfl ?_
            refine nd_iconst dX3_readPlan_80 ic_1 ?_
            refine nd_sipush dX3_readPlan_81 is_999 ?_
            refine nd_iconst dX3_readPlan_84 ic_m1 ?_
            obtain ⟨r10, σ11, hc12, h⟩ := nd_bind_e h
            refine nd_cvi [.int (1 : Int32), .int (999 : Int32), .int (-1 : Int32)] [] dX3_readPlan_85 cl_X3_115 (sh_38 t) ⟨Nat.le_of_ble_eq_true rfl, Nat.le_of_ble_eq_true rfl⟩ rfl (Nat.le_of_ble_eq_true rfl) hL (t_X3_readNumber F t hL _ _ _ _ hc12) ?_
            refine nd_if_neN dX3_readPlan_88 93 (by decide) h (fun h => ?_) (fun h => ?_)
            · refine nd_sub [4, 3, 2, 1, 0] rfl ?_
              exact b_X3_readPlan_93 F t hL _ _ _ _ _ h
            · refine nd_iconst dX3_readPlan_91 ic_0 ?_
              exact nd_iret dX3_readPlan_92 (Nat.zero_le _) (Nat.zero_le _) rfl (by cases h; exact ⟨rfl, rfl, rfl⟩)
        · refine nd_iconst dX3_readPlan_66 ic_0 ?_
          exact nd_iret dX3_readPlan_67 (Nat.zero_le _) (Nat.zero_le _) rfl (by cases h; exact ⟨rfl, rfl, rfl⟩)
      · refine nd_sub [2] rfl ?_
        exact b_X3_readPlan_36 F t hL _ h
  · refine nd_iconst dX3_readPlan_17 ic_0 ?_
    exact nd_iret dX3_readPlan_18 (Nat.zero_le _) (Nat.zero_le _) rfl (by cases h; exact ⟨rfl, rfl, rfl⟩)
def f_X3_readSide_27 (F : Nat) (σ : nd_Mem) : nd_Res := (some ((0 : Int32), σ))
def f_X3_readSide (F : Nat) (σ : nd_Mem) : nd_Res := (nd_bind (f_X3_readNumber F (0 : Int32) ((σ 38 6) - (1 : Int32)) (-1 : Int32) σ) fun r1 σ2 => (if r1 = 0 then (f_X3_readSide_27 F σ2) else (nd_bind (f_X3_readSecondWord F σ2) fun r4 σ5 => (if r4 = 0 then (f_X3_readSide_27 F σ5) else (nd_bind (f_X3_readNumber F (0 : Int32) (1 : Int32) (-1 : Int32) σ5) fun r7 σ8 => (if r7 = 0 then (some ((0 : Int32), σ8)) else (nd_bind (f_X5_addSide F 39 (σ 38 8) (σ5 38 8) σ8) fun r10 σ11 => (some ((1 : Int32), σ11)))))))))
set_option maxRecDepth 100000 in
set_option maxHeartbeats 4000000 in
theorem b_X3_readSide_27 (F : Nat) (t : List nd_S) (hL : (nd_SH ++ t).length < nd_ro) {z : Int32 × nd_Mem} (σ : nd_Mem) (h : f_X3_readSide_27 F σ = some z) : nd_V M_X3_readSide (nd_rm 7) (nd_Pi (nd_SH ++ t) z) 0 0 27 [(0, .ref 38)] [] (nd_SH ++ t) σ := by
  unfold f_X3_readSide_27 at h
  refine nd_iconst dX3_readSide_27 ic_0 ?_
  exact nd_iret dX3_readSide_28 (Nat.zero_le _) (Nat.zero_le _) rfl (by cases h; exact ⟨rfl, rfl, rfl⟩)
set_option maxRecDepth 100000 in
set_option maxHeartbeats 4000000 in
theorem t_X3_readSide (F : Nat) (t : List nd_S) (hL : (nd_SH ++ t).length < nd_ro) {z : Int32 × nd_Mem} (σ : nd_Mem) (h : f_X3_readSide F σ = some z) : nd_Fn M_X3_readSide (nd_rm 7) [.ref 38] (nd_SH ++ t) σ (nd_Pi (nd_SH ++ t) z) := by
  refine nd_Fn.ofV (ls := [(0, .ref 38)]) pl_X3_readSide rfl (fun _ => Nat.le_of_ble_eq_true rfl) (fun _ => rfl) ?_
  unfold f_X3_readSide at h
  refine nd_aload_n dX3_readSide_0 0 rfl ?_
  refine nd_get dX3_readSide_1 gf_X3_72 (sh_38 t) rfl ?_
  refine nd_istore_n (ls' := [(1, .int (σ 38 8)), (0, .ref 38)]) dX3_readSide_4 (by decide) rfl ?_
  refine nd_aload_n dX3_readSide_5 1 rfl ?_
  refine nd_iconst dX3_readSide_6 ic_0 ?_
  refine nd_aload_n dX3_readSide_7 1 rfl ?_
  refine nd_get dX3_readSide_8 gf_X3_42 (sh_38 t) rfl ?_
  refine nd_iconst dX3_readSide_11 ic_1 ?_
  refine nd_isub dX3_readSide_12 ?_
  refine nd_iconst dX3_readSide_13 ic_m1 ?_
  obtain ⟨r1, σ2, hc3, h⟩ := nd_bind_e h
  refine nd_cvi [.int (0 : Int32), .int ((σ 38 6) - (1 : Int32)), .int (-1 : Int32)] [] dX3_readSide_14 cl_X3_115 (sh_38 t) ⟨Nat.le_of_ble_eq_true rfl, Nat.le_of_ble_eq_true rfl⟩ rfl (Nat.le_of_ble_eq_true rfl) hL (t_X3_readNumber F t hL _ _ _ _ hc3) ?_
  refine nd_if_eqN dX3_readSide_17 27 (by decide) h (fun h => ?_) (fun h => ?_)
  · refine nd_sub [1] rfl ?_
    exact b_X3_readSide_27 F t hL _ h
  · refine nd_aload_n dX3_readSide_20 1 rfl ?_
    obtain ⟨r4, σ5, hc6, h⟩ := nd_bind_e h
    refine nd_cvi [] [] dX3_readSide_21 cl_X3_122 (sh_38 t) ⟨Nat.le_of_ble_eq_true rfl, Nat.le_of_ble_eq_true rfl⟩ rfl (Nat.le_of_ble_eq_true rfl) hL (t_X3_readSecondWord F t hL _ hc6) ?_
    refine nd_if_neN dX3_readSide_24 29 (by decide) h (fun h => ?_) (fun h => ?_)
    · refine nd_aload_n dX3_readSide_29 1 rfl ?_
      refine nd_get dX3_readSide_30 gf_X3_72 (sh_38 t) rfl ?_
      refine nd_istore_n (ls' := [(2, .int (σ5 38 8)), (1, .int (σ 38 8)), (0, .ref 38)]) dX3_readSide_33 (by decide) rfl ?_
      refine nd_aload_n dX3_readSide_34 2 rfl ?_
      refine nd_iconst dX3_readSide_35 ic_0 ?_
      refine nd_iconst dX3_readSide_36 ic_1 ?_
      refine nd_iconst dX3_readSide_37 ic_m1 ?_
      obtain ⟨r7, σ8, hc9, h⟩ := nd_bind_e h
      refine nd_cvi [.int (0 : Int32), .int (1 : Int32), .int (-1 : Int32)] [] dX3_readSide_38 cl_X3_115 (sh_38 t) ⟨Nat.le_of_ble_eq_true rfl, Nat.le_of_ble_eq_true rfl⟩ rfl (Nat.le_of_ble_eq_true rfl) hL (t_X3_readNumber F t hL _ _ _ _ hc9) ?_
      refine nd_if_neN dX3_readSide_41 46 (by decide) h (fun h => ?_) (fun h => ?_)
      · refine nd_aload_n dX3_readSide_46 2 rfl ?_
        refine nd_get dX3_readSide_47 gf_X3_12 (sh_38 t) rfl ?_
        refine nd_iload_n dX3_readSide_50 1 rfl ?_
        refine nd_iload_n dX3_readSide_51 0 rfl ?_
        obtain ⟨r10, σ11, hc12, h⟩ := nd_bind_e h
        refine nd_cvv [.int (σ 38 8), .int (σ5 38 8)] [] dX3_readSide_52 cl_X3_129 (sh_39 t) ⟨Nat.le_of_ble_eq_true rfl, Nat.le_of_ble_eq_true rfl⟩ rfl (Nat.le_of_ble_eq_true rfl) hL (t_X5_addSide F 39 (nd_SH ++ t) hL (is_Rules_39 t) _ _ _ hc12) ?_
        refine nd_iconst dX3_readSide_55 ic_1 ?_
        exact nd_iret dX3_readSide_56 (Nat.zero_le _) (Nat.zero_le _) rfl (by cases h; exact ⟨rfl, rfl, rfl⟩)
      · refine nd_iconst dX3_readSide_44 ic_0 ?_
        exact nd_iret dX3_readSide_45 (Nat.zero_le _) (Nat.zero_le _) rfl (by cases h; exact ⟨rfl, rfl, rfl⟩)
    · refine nd_sub [1] rfl ?_
      exact b_X3_readSide_27 F t hL _ h
