def f_X11_isFraction_34 (F : Nat) (x3 : Int32) (s0 : Int32) (σ : nd_Mem) : nd_Res := (if x3 = 0 then none else (nd_let (nd_up σ 60 59 (s0 / x3)) fun σ1 => (some (0, σ1))))
def f_X11_isFraction_18 (F : Nat) (x2 : Int32) (x3 : Int32) (s0 : Int32) (σ : nd_Mem) : nd_Res := (if x3 = 0 then none else (nd_let (nd_up σ 60 58 (s0 / x3)) fun σ1 => (if 0 ≤ x2 then (f_X11_isFraction_34 F x3 x2 σ1) else (f_X11_isFraction_34 F x3 (-x2) σ1))))
def f_X11_isFraction (F : Nat) (x1 : Int32) (x2 : Int32) (σ : nd_Mem) : nd_Res := (nd_bind (f_X11_common F x1 x2 σ) fun r1 σ2 => (if 0 ≤ x2 then (f_X11_isFraction_18 F x2 r1 x1 σ2) else (f_X11_isFraction_18 F x2 r1 (-x1) σ2)))
set_option maxRecDepth 100000 in
set_option maxHeartbeats 4000000 in
theorem b_X11_isFraction_34 (F : Nat) (t : List nd_S) (hL : (nd_SH ++ t).length < nd_ro) {z : Int32 × nd_Mem} (x3 : Int32) (s0 : Int32) (σ : nd_Mem) (h : f_X11_isFraction_34 F x3 s0 σ = some z) : nd_V M_X11_isFraction (nd_rm 1) (nd_Pv (nd_SH ++ t) z) 0 0 34 [(0, .ref 60), (3, .int x3)] [.int s0, .ref 60] (nd_SH ++ t) σ := by
  unfold f_X11_isFraction_34 at h
  refine nd_iload_n dX11_isFraction_34 1 rfl ?_
  refine nd_idivN dX11_isFraction_35 h (fun h => ?_)
  refine nd_putiN dX11_isFraction_36 pf_X11_435 (sh_60 t) rfl h (fun σ1 h => ?_)
  exact nd_vret dX11_isFraction_39 (Nat.zero_le _) (Nat.zero_le _) trivial (by cases h; exact ⟨rfl, rfl, rfl⟩)
set_option maxRecDepth 100000 in
set_option maxHeartbeats 4000000 in
theorem b_X11_isFraction_18 (F : Nat) (t : List nd_S) (hL : (nd_SH ++ t).length < nd_ro) {z : Int32 × nd_Mem} (x2 : Int32) (x3 : Int32) (s0 : Int32) (σ : nd_Mem) (h : f_X11_isFraction_18 F x2 x3 s0 σ = some z) : nd_V M_X11_isFraction (nd_rm 1) (nd_Pv (nd_SH ++ t) z) 0 0 18 [(0, .ref 60), (2, .int x2), (3, .int x3)] [.int s0, .ref 60] (nd_SH ++ t) σ := by
  unfold f_X11_isFraction_18 at h
  refine nd_iload_n dX11_isFraction_18 2 rfl ?_
  refine nd_idivN dX11_isFraction_19 h (fun h => ?_)
  refine nd_putiN dX11_isFraction_20 pf_X11_432 (sh_60 t) rfl h (fun σ1 h => ?_)
  refine nd_aload_n dX11_isFraction_23 0 rfl ?_
  refine nd_iload_n dX11_isFraction_24 1 rfl ?_
  refine nd_if_geN dX11_isFraction_25 33 (by decide) h (fun h => ?_) (fun h => ?_)
  · refine nd_iload_n dX11_isFraction_33 1 rfl ?_
    refine nd_sub [0, 2] rfl ?_
    exact b_X11_isFraction_34 F t hL _ _ _ h
  · refine nd_iload_n dX11_isFraction_28 1 rfl ?_
    refine nd_ineg dX11_isFraction_29 ?_
    refine nd_goto dX11_isFraction_30 34 (by decide) ?_
    refine nd_sub [0, 2] rfl ?_
    exact b_X11_isFraction_34 F t hL _ _ _ h
set_option maxRecDepth 100000 in
set_option maxHeartbeats 4000000 in
theorem t_X11_isFraction (F : Nat) (t : List nd_S) (hL : (nd_SH ++ t).length < nd_ro) {z : Int32 × nd_Mem} (x1 : Int32) (x2 : Int32) (σ : nd_Mem) (h : f_X11_isFraction F x1 x2 σ = some z) : nd_Fn M_X11_isFraction (nd_rm 1) [.ref 60, .int x1, .int x2] (nd_SH ++ t) σ (nd_Pv (nd_SH ++ t) z) := by
  refine nd_Fn.ofV (ls := [(0, .ref 60), (1, .int x1), (2, .int x2)]) pl_X11_isFraction rfl (fun _ => Nat.le_of_ble_eq_true rfl) (fun _ => rfl) ?_
  unfold f_X11_isFraction at h
  refine nd_aload_n dX11_isFraction_0 0 rfl ?_
  refine nd_iload_n dX11_isFraction_1 1 rfl ?_
  refine nd_iload_n dX11_isFraction_2 2 rfl ?_
  obtain ⟨r1, σ2, hc3, h⟩ := nd_bind_e h
  refine nd_cvi [.int x1, .int x2] [] dX11_isFraction_3 cl_X11_429 (sh_60 t) ⟨Nat.le_of_ble_eq_true rfl, Nat.le_of_ble_eq_true rfl⟩ rfl (Nat.le_of_ble_eq_true rfl) hL (t_X11_common F t hL _ _ _ hc3) ?_
  refine nd_istore_n (ls' := [(3, .int r1), (0, .ref 60), (1, .int x1), (2, .int x2)]) dX11_isFraction_6 (by decide) rfl ?_
  refine nd_aload_n dX11_isFraction_7 1 rfl ?_
  refine nd_iload_n dX11_isFraction_8 3 rfl ?_
  refine nd_if_geN dX11_isFraction_9 17 (by decide) h (fun h => ?_) (fun h => ?_)
  · refine nd_iload_n dX11_isFraction_17 2 rfl ?_
    refine nd_sub [1, 3, 0] rfl ?_
    exact b_X11_isFraction_18 F t hL _ _ _ _ h
  · refine nd_iload_n dX11_isFraction_12 2 rfl ?_
    refine nd_ineg dX11_isFraction_13 ?_
    refine nd_goto dX11_isFraction_14 18 (by decide) ?_
    refine nd_sub [1, 3, 0] rfl ?_
    exact b_X11_isFraction_18 F t hL _ _ _ _ h
def f_X11_isLetter_24 (F : Nat) (σ : nd_Mem) : nd_Res := (some ((1 : Int32), σ))
def f_X11_isLetter (F : Nat) (x1 : Int32) (σ : nd_Mem) : nd_Res := (nd_bind (f_X11_isIn F x1 (97 : Int32) (122 : Int32) σ) fun r1 σ2 => (if r1 = 0 then (nd_bind (f_X11_isIn F x1 (65 : Int32) (90 : Int32) σ2) fun r4 σ5 => (if r4 = 0 then (some ((0 : Int32), σ5)) else (f_X11_isLetter_24 F σ5))) else (f_X11_isLetter_24 F σ2)))
set_option maxRecDepth 100000 in
set_option maxHeartbeats 4000000 in
theorem b_X11_isLetter_24 (F : Nat) (t : List nd_S) (hL : (nd_SH ++ t).length < nd_ro) {z : Int32 × nd_Mem} (σ : nd_Mem) (h : f_X11_isLetter_24 F σ = some z) : nd_V M_X11_isLetter (nd_rm 1) (nd_Pi (nd_SH ++ t) z) 0 0 24 [(0, .ref 60)] [] (nd_SH ++ t) σ := by
  unfold f_X11_isLetter_24 at h
  refine nd_iconst dX11_isLetter_24 ic_1 ?_
  refine nd_goto dX11_isLetter_25 29 (by decide) ?_
  exact nd_iret dX11_isLetter_29 (Nat.zero_le _) (Nat.zero_le _) rfl (by cases h; exact ⟨rfl, rfl, rfl⟩)
set_option maxRecDepth 100000 in
set_option maxHeartbeats 4000000 in
theorem t_X11_isLetter (F : Nat) (t : List nd_S) (hL : (nd_SH ++ t).length < nd_ro) {z : Int32 × nd_Mem} (x1 : Int32) (σ : nd_Mem) (h : f_X11_isLetter F x1 σ = some z) : nd_Fn M_X11_isLetter (nd_rm 1) [.ref 60, .int x1] (nd_SH ++ t) σ (nd_Pi (nd_SH ++ t) z) := by
  refine nd_Fn.ofV (ls := [(0, .ref 60), (1, .int x1)]) pl_X11_isLetter rfl (fun _ => Nat.le_of_ble_eq_true rfl) (fun _ => rfl) ?_
  unfold f_X11_isLetter at h
  refine nd_aload_n dX11_isLetter_0 0 rfl ?_
  refine nd_iload_n dX11_isLetter_1 1 rfl ?_
  refine nd_bipush dX11_isLetter_2 ib_97 ?_
  refine nd_bipush dX11_isLetter_4 ib_122 ?_
  obtain ⟨r1, σ2, hc3, h⟩ := nd_bind_e h
  refine nd_cvi [.int x1, .int (97 : Int32), .int (122 : Int32)] [] dX11_isLetter_6 cl_X11_147 (sh_60 t) ⟨Nat.le_of_ble_eq_true rfl, Nat.le_of_ble_eq_true rfl⟩ rfl (Nat.le_of_ble_eq_true rfl) hL (t_X11_isIn F t hL _ _ _ _ hc3) ?_
  refine nd_if_neN dX11_isLetter_9 24 (by decide) h (fun h => ?_) (fun h => ?_)
  · refine nd_sub [0] rfl ?_
    exact b_X11_isLetter_24 F t hL _ h
  · refine nd_aload_n dX11_isLetter_12 0 rfl ?_
    refine nd_iload_n dX11_isLetter_13 1 rfl ?_
    refine nd_bipush dX11_isLetter_14 ib_65 ?_
    refine nd_bipush dX11_isLetter_16 ib_90 ?_
    obtain ⟨r4, σ5, hc6, h⟩ := nd_bind_e h
    refine nd_cvi [.int x1, .int (65 : Int32), .int (90 : Int32)] [] dX11_isLetter_18 cl_X11_147 (sh_60 t) ⟨Nat.le_of_ble_eq_true rfl, Nat.le_of_ble_eq_true rfl⟩ rfl (Nat.le_of_ble_eq_true rfl) hL (t_X11_isIn F t hL _ _ _ _ hc6) ?_
    refine nd_if_eqN dX11_isLetter_21 28 (by decide) h (fun h => ?_) (fun h => ?_)
    · refine nd_iconst dX11_isLetter_28 ic_0 ?_
      exact nd_iret dX11_isLetter_29 (Nat.zero_le _) (Nat.zero_le _) rfl (by cases h; exact ⟨rfl, rfl, rfl⟩)
    · refine nd_sub [0] rfl ?_
      exact b_X11_isLetter_24 F t hL _ h
def f_X11_isLineWord_25 (F : Nat) (σ : nd_Mem) : nd_Res := (some ((0 : Int32), σ))
def f_X11_isLineWord (F : Nat) (σ : nd_Mem) : nd_Res := (if (σ 60 12) = (2 : Int32) then (nd_bind (f_X11_isIn F (σ 60 13) (0 : Int32) (2 : Int32) σ) fun r1 σ2 => (if r1 = 0 then (f_X11_isLineWord_25 F σ2) else (some ((1 : Int32), σ2)))) else (f_X11_isLineWord_25 F σ))
set_option maxRecDepth 100000 in
set_option maxHeartbeats 4000000 in
theorem b_X11_isLineWord_25 (F : Nat) (t : List nd_S) (hL : (nd_SH ++ t).length < nd_ro) {z : Int32 × nd_Mem} (σ : nd_Mem) (h : f_X11_isLineWord_25 F σ = some z) : nd_V M_X11_isLineWord (nd_rm 1) (nd_Pi (nd_SH ++ t) z) 0 0 25 [(0, .ref 60)] [] (nd_SH ++ t) σ := by
  unfold f_X11_isLineWord_25 at h
  refine nd_iconst dX11_isLineWord_25 ic_0 ?_
  exact nd_iret dX11_isLineWord_26 (Nat.zero_le _) (Nat.zero_le _) rfl (by cases h; exact ⟨rfl, rfl, rfl⟩)
set_option maxRecDepth 100000 in
set_option maxHeartbeats 4000000 in
theorem t_X11_isLineWord (F : Nat) (t : List nd_S) (hL : (nd_SH ++ t).length < nd_ro) {z : Int32 × nd_Mem} (σ : nd_Mem) (h : f_X11_isLineWord F σ = some z) : nd_Fn M_X11_isLineWord (nd_rm 1) [.ref 60] (nd_SH ++ t) σ (nd_Pi (nd_SH ++ t) z) := by
  refine nd_Fn.ofV (ls := [(0, .ref 60)]) pl_X11_isLineWord rfl (fun _ => Nat.le_of_ble_eq_true rfl) (fun _ => rfl) ?_
  unfold f_X11_isLineWord at h
  refine nd_aload_n dX11_isLineWord_0 0 rfl ?_
  refine nd_get dX11_isLineWord_1 gf_X11_172 (sh_60 t) rfl ?_
  refine nd_iconst dX11_isLineWord_4 ic_2 ?_
  refine nd_icmp_neN dX11_isLineWord_5 25 (by decide) h (fun h => ?_) (fun h => ?_)
  · exact b_X11_isLineWord_25 F t hL _ h
  · refine nd_aload_n dX11_isLineWord_8 0 rfl ?_
    refine nd_aload_n dX11_isLineWord_9 0 rfl ?_
    refine nd_get dX11_isLineWord_10 gf_X11_175 (sh_60 t) rfl ?_
    refine nd_iconst dX11_isLineWord_13 ic_0 ?_
    refine nd_iconst dX11_isLineWord_14 ic_2 ?_
    obtain ⟨r1, σ2, hc3, h⟩ := nd_bind_e h
    refine nd_cvi [.int (σ 60 13), .int (0 : Int32), .int (2 : Int32)] [] dX11_isLineWord_15 cl_X11_147 (sh_60 t) ⟨Nat.le_of_ble_eq_true rfl, Nat.le_of_ble_eq_true rfl⟩ rfl (Nat.le_of_ble_eq_true rfl) hL (t_X11_isIn F t hL _ _ _ _ hc3) ?_
    refine nd_if_eqN dX11_isLineWord_18 25 (by decide) h (fun h => ?_) (fun h => ?_)
    · exact b_X11_isLineWord_25 F t hL _ h
    · refine nd_iconst dX11_isLineWord_21 ic_1 ?_
      refine nd_goto dX11_isLineWord_22 26 (by decide) ?_
      exact nd_iret dX11_isLineWord_26 (Nat.zero_le _) (Nat.zero_le _) rfl (by cases h; exact ⟨rfl, rfl, rfl⟩)
def f_X11_keepsLaw_96_b (F : Nat) (rec96 : Int32 → nd_Mem → nd_Res) (x1 : Int32) (σ : nd_Mem) : nd_Res := (if (400 : Int32) ≤ x1 then (some (0, σ)) else (if x1 < 0 ∨ 1200 ≤ (x1).toNatClampNeg then none else (nd_bind (f_X11_keeps F (σ 72 (x1).toNatClampNeg) σ) fun r1 σ2 => (if x1 < 0 ∨ 1200 ≤ (x1).toNatClampNeg then none else (nd_let (nd_up σ2 72 (x1).toNatClampNeg r1) fun σ4 => (if x1 < 0 ∨ 1200 ≤ (x1).toNatClampNeg then none else (nd_bind (f_X11_keeps F (σ4 73 (x1).toNatClampNeg) σ4) fun r5 σ6 => (if x1 < 0 ∨ 1200 ≤ (x1).toNatClampNeg then none else (nd_let (nd_up σ6 73 (x1).toNatClampNeg r5) fun σ8 => (rec96 (x1 + (1 : Int32)) σ8))))))))))
def f_X11_keepsLaw_96 (F : Nat) : Nat → Int32 → nd_Mem → nd_Res
  | 0, _, _ => none
  | m9 + 1, x1, σ => f_X11_keepsLaw_96_b F (f_X11_keepsLaw_96 F m9) x1 σ
def f_X11_keepsLaw_18_b (F : Nat) (rec18 : Int32 → nd_Mem → nd_Res) (x1 : Int32) (σ : nd_Mem) : nd_Res := (if (16 : Int32) ≤ x1 then (f_X11_keepsLaw_96 F F (0 : Int32) σ) else (if x1 < 0 ∨ 48 ≤ (x1).toNatClampNeg then none else (nd_bind (f_X11_keeps F (σ 68 (x1).toNatClampNeg) σ) fun r1 σ2 => (if x1 < 0 ∨ 48 ≤ (x1).toNatClampNeg then none else (nd_let (nd_up σ2 68 (x1).toNatClampNeg r1) fun σ4 => (if x1 < 0 ∨ 48 ≤ (x1).toNatClampNeg then none else (nd_bind (f_X11_keeps F (σ4 69 (x1).toNatClampNeg) σ4) fun r5 σ6 => (if x1 < 0 ∨ 48 ≤ (x1).toNatClampNeg then none else (nd_let (nd_up σ6 69 (x1).toNatClampNeg r5) fun σ8 => (if x1 < 0 ∨ 48 ≤ (x1).toNatClampNeg then none else (nd_bind (f_X11_keeps F (σ8 70 (x1).toNatClampNeg) σ8) fun r9 σ10 => (if x1 < 0 ∨ 48 ≤ (x1).toNatClampNeg then none else (nd_let (nd_up σ10 70 (x1).toNatClampNeg r9) fun σ12 => (if x1 < 0 ∨ 48 ≤ (x1).toNatClampNeg then none else (nd_bind (f_X11_keeps F (σ12 71 (x1).toNatClampNeg) σ12) fun r13 σ14 => (if x1 < 0 ∨ 48 ≤ (x1).toNatClampNeg then none else (nd_let (nd_up σ14 71 (x1).toNatClampNeg r13) fun σ16 => (rec18 (x1 + (1 : Int32)) σ16))))))))))))))))))
def f_X11_keepsLaw_18 (F : Nat) : Nat → Int32 → nd_Mem → nd_Res
  | 0, _, _ => none
  | m9 + 1, x1, σ => f_X11_keepsLaw_18_b F (f_X11_keepsLaw_18 F m9) x1 σ
def f_X11_keepsLaw (F : Nat) (σ : nd_Mem) : nd_Res := (if (0 : Int32) < 0 ∨ 2 ≤ ((0 : Int32)).toNatClampNeg then none else (nd_bind (f_X11_keeps F (σ 67 ((0 : Int32)).toNatClampNeg) σ) fun r1 σ2 => (if (0 : Int32) < 0 ∨ 2 ≤ ((0 : Int32)).toNatClampNeg then none else (nd_let (nd_up σ2 67 ((0 : Int32)).toNatClampNeg r1) fun σ4 => (f_X11_keepsLaw_18 F F (0 : Int32) σ4)))))
set_option maxRecDepth 100000 in
set_option maxHeartbeats 4000000 in
theorem b_X11_keepsLaw_96 (F : Nat) (t : List nd_S) (hL : (nd_SH ++ t).length < nd_ro) {z : Int32 × nd_Mem} (m9 : Nat) : ∀ (x1 : Int32) (σ : nd_Mem), f_X11_keepsLaw_96 F m9 x1 σ = some z → nd_V M_X11_keepsLaw (nd_rm 1) (nd_Pv (nd_SH ++ t) z) 0 0 96 [(0, .ref 60), (1, .int x1)] [] (nd_SH ++ t) σ := by
  induction m9 with
  | zero =>
    intro x1 σ h
    have h : none = some z := h
    cases h
  | succ m9 hrec96 =>
    intro x1 σ h
    have h : f_X11_keepsLaw_96_b F (f_X11_keepsLaw_96 F m9) x1 σ = some z := h
    unfold f_X11_keepsLaw_96_b at h
    refine nd_iload_n dX11_keepsLaw_96 1 rfl ?_
    refine nd_sipush dX11_keepsLaw_97 is_400 ?_
    refine nd_icmp_geN dX11_keepsLaw_100 141 (by decide) h (fun h => ?_) (fun h => ?_)
    · exact nd_vret dX11_keepsLaw_141 (Nat.zero_le _) (Nat.zero_le _) trivial (by cases h; exact ⟨rfl, rfl, rfl⟩)
    · refine nd_aload_n dX11_keepsLaw_103 0 rfl ?_
      refine nd_get dX11_keepsLaw_104 gf_X11_43 (sh_60 t) rfl ?_
      refine nd_iload_n dX11_keepsLaw_107 1 rfl ?_
      refine nd_aload_n dX11_keepsLaw_108 0 rfl ?_
      refine nd_aload_n dX11_keepsLaw_109 0 rfl ?_
      refine nd_get dX11_keepsLaw_110 gf_X11_43 (sh_60 t) rfl ?_
      refine nd_iload_n dX11_keepsLaw_113 1 rfl ?_
      refine nd_ialoadN dX11_keepsLaw_114 (sh_72 t) h (fun h => ?_)
      obtain ⟨r1, σ2, hc3, h⟩ := nd_bind_e h
      refine nd_cvi [.int (σ 72 (x1).toNatClampNeg)] [.int x1, .ref 72] dX11_keepsLaw_115 cl_X11_482 (sh_60 t) ⟨Nat.le_of_ble_eq_true rfl, Nat.le_of_ble_eq_true rfl⟩ rfl (Nat.le_of_ble_eq_true rfl) hL (t_X11_keeps F t hL _ _ hc3) ?_
      refine nd_iastoreN dX11_keepsLaw_118 (sh_72 t) h (fun σ4 h => ?_)
      refine nd_aload_n dX11_keepsLaw_119 0 rfl ?_
      refine nd_get dX11_keepsLaw_120 gf_X11_46 (sh_60 t) rfl ?_
      refine nd_iload_n dX11_keepsLaw_123 1 rfl ?_
      refine nd_aload_n dX11_keepsLaw_124 0 rfl ?_
      refine nd_aload_n dX11_keepsLaw_125 0 rfl ?_
      refine nd_get dX11_keepsLaw_126 gf_X11_46 (sh_60 t) rfl ?_
      refine nd_iload_n dX11_keepsLaw_129 1 rfl ?_
      refine nd_ialoadN dX11_keepsLaw_130 (sh_73 t) h (fun h => ?_)
      obtain ⟨r5, σ6, hc7, h⟩ := nd_bind_e h
      refine nd_cvi [.int (σ4 73 (x1).toNatClampNeg)] [.int x1, .ref 73] dX11_keepsLaw_131 cl_X11_482 (sh_60 t) ⟨Nat.le_of_ble_eq_true rfl, Nat.le_of_ble_eq_true rfl⟩ rfl (Nat.le_of_ble_eq_true rfl) hL (t_X11_keeps F t hL _ _ hc7) ?_
      refine nd_iastoreN dX11_keepsLaw_134 (sh_73 t) h (fun σ8 h => ?_)
      refine nd_iinc (v := (x1 + (1 : Int32))) (ls' := [(1, .int (x1 + (1 : Int32))), (0, .ref 60)]) dX11_keepsLaw_135 1 rfl (congrArg (HAdd.hAdd _) ic_1) (by decide) rfl ?_
      refine nd_goto dX11_keepsLaw_138 96 (by decide) ?_
      refine nd_sub [1, 0] rfl ?_
      exact hrec96 _ _ h
set_option maxRecDepth 100000 in
set_option maxHeartbeats 4000000 in
theorem b_X11_keepsLaw_18 (F : Nat) (t : List nd_S) (hL : (nd_SH ++ t).length < nd_ro) {z : Int32 × nd_Mem} (m9 : Nat) : ∀ (x1 : Int32) (σ : nd_Mem), f_X11_keepsLaw_18 F m9 x1 σ = some z → nd_V M_X11_keepsLaw (nd_rm 1) (nd_Pv (nd_SH ++ t) z) 0 0 18 [(0, .ref 60), (1, .int x1)] [] (nd_SH ++ t) σ := by
  induction m9 with
  | zero =>
    intro x1 σ h
    have h : none = some z := h
    cases h
  | succ m9 hrec18 =>
    intro x1 σ h
    have h : f_X11_keepsLaw_18_b F (f_X11_keepsLaw_18 F m9) x1 σ = some z := h
    unfold f_X11_keepsLaw_18_b at h
    refine nd_iload_n dX11_keepsLaw_18 1 rfl ?_
    refine nd_bipush dX11_keepsLaw_19 ib_16 ?_
    refine nd_icmp_geN dX11_keepsLaw_21 94 (by decide) h (fun h => ?_) (fun h => ?_)
    · refine nd_iconst dX11_keepsLaw_94 ic_0 ?_
      refine nd_istore_n (ls' := [(1, .int (0 : Int32)), (0, .ref 60)]) dX11_keepsLaw_95 (by decide) rfl ?_
      refine nd_sub [1, 0] rfl ?_
      exact b_X11_keepsLaw_96 F t hL F _ _ h
    · refine nd_aload_n dX11_keepsLaw_24 0 rfl ?_
      refine nd_get dX11_keepsLaw_25 gf_X11_31 (sh_60 t) rfl ?_
      refine nd_iload_n dX11_keepsLaw_28 1 rfl ?_
      refine nd_aload_n dX11_keepsLaw_29 0 rfl ?_
      refine nd_aload_n dX11_keepsLaw_30 0 rfl ?_
      refine nd_get dX11_keepsLaw_31 gf_X11_31 (sh_60 t) rfl ?_
      refine nd_iload_n dX11_keepsLaw_34 1 rfl ?_
      refine nd_ialoadN dX11_keepsLaw_35 (sh_68 t) h (fun h => ?_)
      obtain ⟨r1, σ2, hc3, h⟩ := nd_bind_e h
      refine nd_cvi [.int (σ 68 (x1).toNatClampNeg)] [.int x1, .ref 68] dX11_keepsLaw_36 cl_X11_482 (sh_60 t) ⟨Nat.le_of_ble_eq_true rfl, Nat.le_of_ble_eq_true rfl⟩ rfl (Nat.le_of_ble_eq_true rfl) hL (t_X11_keeps F t hL _ _ hc3) ?_
      refine nd_iastoreN dX11_keepsLaw_39 (sh_68 t) h (fun σ4 h => ?_)
      refine nd_aload_n dX11_keepsLaw_40 0 rfl ?_
      refine nd_get dX11_keepsLaw_41 gf_X11_34 (sh_60 t) rfl ?_
      refine nd_iload_n dX11_keepsLaw_44 1 rfl ?_
      refine nd_aload_n dX11_keepsLaw_45 0 rfl ?_
      refine nd_aload_n dX11_keepsLaw_46 0 rfl ?_
      refine nd_get dX11_keepsLaw_47 gf_X11_34 (sh_60 t) rfl ?_
      refine nd_iload_n dX11_keepsLaw_50 1 rfl ?_
      refine nd_ialoadN dX11_keepsLaw_51 (sh_69 t) h (fun h => ?_)
      obtain ⟨r5, σ6, hc7, h⟩ := nd_bind_e h
      refine nd_cvi [.int (σ4 69 (x1).toNatClampNeg)] [.int x1, .ref 69] dX11_keepsLaw_52 cl_X11_482 (sh_60 t) ⟨Nat.le_of_ble_eq_true rfl, Nat.le_of_ble_eq_true rfl⟩ rfl (Nat.le_of_ble_eq_true rfl) hL (t_X11_keeps F t hL _ _ hc7) ?_
      refine nd_iastoreN dX11_keepsLaw_55 (sh_69 t) h (fun σ8 h => ?_)
      refine nd_aload_n dX11_keepsLaw_56 0 rfl ?_
      refine nd_get dX11_keepsLaw_57 gf_X11_37 (sh_60 t) rfl ?_
      refine nd_iload_n dX11_keepsLaw_60 1 rfl ?_
      refine nd_aload_n dX11_keepsLaw_61 0 rfl ?_
      refine nd_aload_n dX11_keepsLaw_62 0 rfl ?_
      refine nd_get dX11_keepsLaw_63 gf_X11_37 (sh_60 t) rfl ?_
      refine nd_iload_n dX11_keepsLaw_66 1 rfl ?_
      refine nd_ialoadN dX11_keepsLaw_67 (sh_70 t) h (fun h => ?_)
      obtain ⟨r9, σ10, hc11, h⟩ := nd_bind_e h
      refine nd_cvi [.int (σ8 70 (x1).toNatClampNeg)] [.int x1, .ref 70] dX11_keepsLaw_68 cl_X11_482 (sh_60 t) ⟨Nat.le_of_ble_eq_true rfl, Nat.le_of_ble_eq_true rfl⟩ rfl (Nat.le_of_ble_eq_true rfl) hL (t_X11_keeps F t hL _ _ hc11) ?_
      refine nd_iastoreN dX11_keepsLaw_71 (sh_70 t) h (fun σ12 h => ?_)
      refine nd_aload_n dX11_keepsLaw_72 0 rfl ?_
      refine nd_get dX11_keepsLaw_73 gf_X11_40 (sh_60 t) rfl ?_
      refine nd_iload_n dX11_keepsLaw_76 1 rfl ?_
      refine nd_aload_n dX11_keepsLaw_77 0 rfl ?_
      refine nd_aload_n dX11_keepsLaw_78 0 rfl ?_
      refine nd_get dX11_keepsLaw_79 gf_X11_40 (sh_60 t) rfl ?_
      refine nd_iload_n dX11_keepsLaw_82 1 rfl ?_
      refine nd_ialoadN dX11_keepsLaw_83 (sh_71 t) h (fun h => ?_)
      obtain ⟨r13, σ14, hc15, h⟩ := nd_bind_e h
      refine nd_cvi [.int (σ12 71 (x1).toNatClampNeg)] [.int x1, .ref 71] dX11_keepsLaw_84 cl_X11_482 (sh_60 t) ⟨Nat.le_of_ble_eq_true rfl, Nat.le_of_ble_eq_true rfl⟩ rfl (Nat.le_of_ble_eq_true rfl) hL (t_X11_keeps F t hL _ _ hc15) ?_
      refine nd_iastoreN dX11_keepsLaw_87 (sh_71 t) h (fun σ16 h => ?_)
      refine nd_iinc (v := (x1 + (1 : Int32))) (ls' := [(1, .int (x1 + (1 : Int32))), (0, .ref 60)]) dX11_keepsLaw_88 1 rfl (congrArg (HAdd.hAdd _) ic_1) (by decide) rfl ?_
      refine nd_goto dX11_keepsLaw_91 18 (by decide) ?_
      refine nd_sub [1, 0] rfl ?_
      exact hrec18 _ _ h
set_option maxRecDepth 100000 in
set_option maxHeartbeats 4000000 in
theorem t_X11_keepsLaw (F : Nat) (t : List nd_S) (hL : (nd_SH ++ t).length < nd_ro) {z : Int32 × nd_Mem} (σ : nd_Mem) (h : f_X11_keepsLaw F σ = some z) : nd_Fn M_X11_keepsLaw (nd_rm 1) [.ref 60] (nd_SH ++ t) σ (nd_Pv (nd_SH ++ t) z) := by
  refine nd_Fn.ofV (ls := [(0, .ref 60)]) pl_X11_keepsLaw rfl (fun _ => Nat.le_of_ble_eq_true rfl) (fun _ => rfl) ?_
  unfold f_X11_keepsLaw at h
  refine nd_aload_n dX11_keepsLaw_0 0 rfl ?_
  refine nd_get dX11_keepsLaw_1 gf_X11_28 (sh_60 t) rfl ?_
  refine nd_iconst dX11_keepsLaw_4 ic_0 ?_
  refine nd_aload_n dX11_keepsLaw_5 0 rfl ?_
  refine nd_aload_n dX11_keepsLaw_6 0 rfl ?_
  refine nd_get dX11_keepsLaw_7 gf_X11_28 (sh_60 t) rfl ?_
  refine nd_iconst dX11_keepsLaw_10 ic_0 ?_
  refine nd_ialoadN dX11_keepsLaw_11 (sh_67 t) h (fun h => ?_)
  obtain ⟨r1, σ2, hc3, h⟩ := nd_bind_e h
  refine nd_cvi [.int (σ 67 ((0 : Int32)).toNatClampNeg)] [.int (0 : Int32), .ref 67] dX11_keepsLaw_12 cl_X11_482 (sh_60 t) ⟨Nat.le_of_ble_eq_true rfl, Nat.le_of_ble_eq_true rfl⟩ rfl (Nat.le_of_ble_eq_true rfl) hL (t_X11_keeps F t hL _ _ hc3) ?_
  refine nd_iastoreN dX11_keepsLaw_15 (sh_67 t) h (fun σ4 h => ?_)
  refine nd_iconst dX11_keepsLaw_16 ic_0 ?_
  refine nd_istore_n (ls' := [(1, .int (0 : Int32)), (0, .ref 60)]) dX11_keepsLaw_17 (by decide) rfl ?_
  refine nd_sub [1, 0] rfl ?_
  exact b_X11_keepsLaw_18 F t hL F _ _ h
def f_X11_keepsTold_356_b (F : Nat) (rec356 : Int32 → nd_Mem → nd_Res) (x1 : Int32) (σ : nd_Mem) : nd_Res := (if (64 : Int32) ≤ x1 then (some (0, σ)) else (if x1 < 0 ∨ 128 ≤ (x1).toNatClampNeg then none else (nd_bind (f_X11_keeps F (σ 75 (x1).toNatClampNeg) σ) fun r1 σ2 => (if x1 < 0 ∨ 128 ≤ (x1).toNatClampNeg then none else (nd_let (nd_up σ2 75 (x1).toNatClampNeg r1) fun σ4 => (rec356 (x1 + (1 : Int32)) σ4))))))
def f_X11_keepsTold_356 (F : Nat) : Nat → Int32 → nd_Mem → nd_Res
  | 0, _, _ => none
  | m9 + 1, x1, σ => f_X11_keepsTold_356_b F (f_X11_keepsTold_356 F m9) x1 σ
def f_X11_keepsTold_294_b (F : Nat) (rec294 : Int32 → nd_Mem → nd_Res) (x1 : Int32) (σ : nd_Mem) : nd_Res := (if (9 : Int32) ≤ x1 then (f_X11_keepsTold_356 F F (0 : Int32) σ) else (if x1 < 0 ∨ 9 ≤ (x1).toNatClampNeg then none else (nd_bind (f_X11_keeps F (σ 85 (x1).toNatClampNeg) σ) fun r1 σ2 => (if x1 < 0 ∨ 9 ≤ (x1).toNatClampNeg then none else (nd_let (nd_up σ2 85 (x1).toNatClampNeg r1) fun σ4 => (if x1 < 0 ∨ 9 ≤ (x1).toNatClampNeg then none else (nd_bind (f_X11_keeps F (σ4 86 (x1).toNatClampNeg) σ4) fun r5 σ6 => (if x1 < 0 ∨ 9 ≤ (x1).toNatClampNeg then none else (nd_let (nd_up σ6 86 (x1).toNatClampNeg r5) fun σ8 => (if x1 < 0 ∨ 9 ≤ (x1).toNatClampNeg then none else (nd_bind (f_X11_keeps F (σ8 87 (x1).toNatClampNeg) σ8) fun r9 σ10 => (if x1 < 0 ∨ 9 ≤ (x1).toNatClampNeg then none else (nd_let (nd_up σ10 87 (x1).toNatClampNeg r9) fun σ12 => (rec294 (x1 + (1 : Int32)) σ12))))))))))))))
def f_X11_keepsTold_294 (F : Nat) : Nat → Int32 → nd_Mem → nd_Res
  | 0, _, _ => none
  | m9 + 1, x1, σ => f_X11_keepsTold_294_b F (f_X11_keepsTold_294 F m9) x1 σ
def f_X11_keepsTold_232_b (F : Nat) (rec232 : Int32 → nd_Mem → nd_Res) (x1 : Int32) (σ : nd_Mem) : nd_Res := (if (10 : Int32) ≤ x1 then (f_X11_keepsTold_294 F F (0 : Int32) σ) else (if x1 < 0 ∨ 10 ≤ (x1).toNatClampNeg then none else (nd_bind (f_X11_keeps F (σ 89 (x1).toNatClampNeg) σ) fun r1 σ2 => (if x1 < 0 ∨ 10 ≤ (x1).toNatClampNeg then none else (nd_let (nd_up σ2 89 (x1).toNatClampNeg r1) fun σ4 => (if x1 < 0 ∨ 10 ≤ (x1).toNatClampNeg then none else (nd_bind (f_X11_keeps F (σ4 95 (x1).toNatClampNeg) σ4) fun r5 σ6 => (if x1 < 0 ∨ 10 ≤ (x1).toNatClampNeg then none else (nd_let (nd_up σ6 95 (x1).toNatClampNeg r5) fun σ8 => (if x1 < 0 ∨ 10 ≤ (x1).toNatClampNeg then none else (nd_bind (f_X11_keeps F (σ8 96 (x1).toNatClampNeg) σ8) fun r9 σ10 => (if x1 < 0 ∨ 10 ≤ (x1).toNatClampNeg then none else (nd_let (nd_up σ10 96 (x1).toNatClampNeg r9) fun σ12 => (rec232 (x1 + (1 : Int32)) σ12))))))))))))))
def f_X11_keepsTold_232 (F : Nat) : Nat → Int32 → nd_Mem → nd_Res
  | 0, _, _ => none
  | m9 + 1, x1, σ => f_X11_keepsTold_232_b F (f_X11_keepsTold_232 F m9) x1 σ
def f_X11_keepsTold_202_b (F : Nat) (rec202 : Int32 → nd_Mem → nd_Res) (x1 : Int32) (σ : nd_Mem) : nd_Res := (if (12 : Int32) ≤ x1 then (f_X11_keepsTold_232 F F (0 : Int32) σ) else (if x1 < 0 ∨ 12 ≤ (x1).toNatClampNeg then none else (nd_bind (f_X11_keeps F (σ 81 (x1).toNatClampNeg) σ) fun r1 σ2 => (if x1 < 0 ∨ 12 ≤ (x1).toNatClampNeg then none else (nd_let (nd_up σ2 81 (x1).toNatClampNeg r1) fun σ4 => (rec202 (x1 + (1 : Int32)) σ4))))))
def f_X11_keepsTold_202 (F : Nat) : Nat → Int32 → nd_Mem → nd_Res
  | 0, _, _ => none
  | m9 + 1, x1, σ => f_X11_keepsTold_202_b F (f_X11_keepsTold_202 F m9) x1 σ
def f_X11_keepsTold_156_b (F : Nat) (rec156 : Int32 → nd_Mem → nd_Res) (x1 : Int32) (σ : nd_Mem) : nd_Res := (if (14 : Int32) ≤ x1 then (f_X11_keepsTold_202 F F (0 : Int32) σ) else (if x1 < 0 ∨ 14 ≤ (x1).toNatClampNeg then none else (nd_bind (f_X11_keeps F (σ 92 (x1).toNatClampNeg) σ) fun r1 σ2 => (if x1 < 0 ∨ 14 ≤ (x1).toNatClampNeg then none else (nd_let (nd_up σ2 92 (x1).toNatClampNeg r1) fun σ4 => (if x1 < 0 ∨ 14 ≤ (x1).toNatClampNeg then none else (nd_bind (f_X11_keeps F (σ4 93 (x1).toNatClampNeg) σ4) fun r5 σ6 => (if x1 < 0 ∨ 14 ≤ (x1).toNatClampNeg then none else (nd_let (nd_up σ6 93 (x1).toNatClampNeg r5) fun σ8 => (rec156 (x1 + (1 : Int32)) σ8))))))))))
def f_X11_keepsTold_156 (F : Nat) : Nat → Int32 → nd_Mem → nd_Res
  | 0, _, _ => none
  | m9 + 1, x1, σ => f_X11_keepsTold_156_b F (f_X11_keepsTold_156 F m9) x1 σ
def f_X11_keepsTold_110_b (F : Nat) (rec110 : Int32 → nd_Mem → nd_Res) (x1 : Int32) (σ : nd_Mem) : nd_Res := (if (16 : Int32) ≤ x1 then (f_X11_keepsTold_156 F F (0 : Int32) σ) else (if x1 < 0 ∨ 32 ≤ (x1).toNatClampNeg then none else (nd_bind (f_X11_keeps F (σ 76 (x1).toNatClampNeg) σ) fun r1 σ2 => (if x1 < 0 ∨ 32 ≤ (x1).toNatClampNeg then none else (nd_let (nd_up σ2 76 (x1).toNatClampNeg r1) fun σ4 => (if x1 < 0 ∨ 32 ≤ (x1).toNatClampNeg then none else (nd_bind (f_X11_keeps F (σ4 77 (x1).toNatClampNeg) σ4) fun r5 σ6 => (if x1 < 0 ∨ 32 ≤ (x1).toNatClampNeg then none else (nd_let (nd_up σ6 77 (x1).toNatClampNeg r5) fun σ8 => (rec110 (x1 + (1 : Int32)) σ8))))))))))
def f_X11_keepsTold_110 (F : Nat) : Nat → Int32 → nd_Mem → nd_Res
  | 0, _, _ => none
  | m9 + 1, x1, σ => f_X11_keepsTold_110_b F (f_X11_keepsTold_110 F m9) x1 σ
def f_X11_keepsTold (F : Nat) (σ : nd_Mem) : nd_Res := (nd_bind (f_X11_keeps F (σ 60 6) σ) fun r1 σ2 => (nd_let (nd_up σ2 60 6 r1) fun σ4 => (nd_bind (f_X11_keeps F (σ4 60 31) σ4) fun r5 σ6 => (nd_let (nd_up σ6 60 31 r5) fun σ8 => (nd_bind (f_X11_keeps F (σ8 60 33) σ8) fun r9 σ10 => (nd_let (nd_up σ10 60 33 r9) fun σ12 => (nd_bind (f_X11_keeps F (σ12 60 35) σ12) fun r13 σ14 => (nd_let (nd_up σ14 60 35 r13) fun σ16 => (nd_bind (f_X11_keeps F (σ16 60 40) σ16) fun r17 σ18 => (nd_let (nd_up σ18 60 40 r17) fun σ20 => (nd_bind (f_X11_keeps F (σ20 60 45) σ20) fun r21 σ22 => (nd_let (nd_up σ22 60 45 r21) fun σ24 => (nd_bind (f_X11_keeps F (σ24 60 50) σ24) fun r25 σ26 => (nd_let (nd_up σ26 60 50 r25) fun σ28 => (nd_bind (f_X11_keeps F (σ28 60 54) σ28) fun r29 σ30 => (nd_let (nd_up σ30 60 54 r29) fun σ32 => (nd_bind (f_X11_keeps F (σ32 60 61) σ32) fun r33 σ34 => (nd_let (nd_up σ34 60 61 r33) fun σ36 => (f_X11_keepsTold_110 F F (0 : Int32) σ36)))))))))))))))))))
set_option maxRecDepth 100000 in
set_option maxHeartbeats 4000000 in
theorem b_X11_keepsTold_356 (F : Nat) (t : List nd_S) (hL : (nd_SH ++ t).length < nd_ro) {z : Int32 × nd_Mem} (m9 : Nat) : ∀ (x1 : Int32) (σ : nd_Mem), f_X11_keepsTold_356 F m9 x1 σ = some z → nd_V M_X11_keepsTold (nd_rm 1) (nd_Pv (nd_SH ++ t) z) 0 0 356 [(0, .ref 60), (1, .int x1)] [] (nd_SH ++ t) σ := by
  induction m9 with
  | zero =>
    intro x1 σ h
    have h : none = some z := h
    cases h
  | succ m9 hrec356 =>
    intro x1 σ h
    have h : f_X11_keepsTold_356_b F (f_X11_keepsTold_356 F m9) x1 σ = some z := h
    unfold f_X11_keepsTold_356_b at h
    refine nd_iload_n dX11_keepsTold_356 1 rfl ?_
    refine nd_bipush dX11_keepsTold_357 ib_64 ?_
    refine nd_icmp_geN dX11_keepsTold_359 384 (by decide) h (fun h => ?_) (fun h => ?_)
    · exact nd_vret dX11_keepsTold_384 (Nat.zero_le _) (Nat.zero_le _) trivial (by cases h; exact ⟨rfl, rfl, rfl⟩)
    · refine nd_aload_n dX11_keepsTold_362 0 rfl ?_
      refine nd_get dX11_keepsTold_363 gf_X11_56 (sh_60 t) rfl ?_
      refine nd_iload_n dX11_keepsTold_366 1 rfl ?_
      refine nd_aload_n dX11_keepsTold_367 0 rfl ?_
      refine nd_aload_n dX11_keepsTold_368 0 rfl ?_
      refine nd_get dX11_keepsTold_369 gf_X11_56 (sh_60 t) rfl ?_
      refine nd_iload_n dX11_keepsTold_372 1 rfl ?_
      refine nd_ialoadN dX11_keepsTold_373 (sh_75 t) h (fun h => ?_)
      obtain ⟨r1, σ2, hc3, h⟩ := nd_bind_e h
      refine nd_cvi [.int (σ 75 (x1).toNatClampNeg)] [.int x1, .ref 75] dX11_keepsTold_374 cl_X11_482 (sh_60 t) ⟨Nat.le_of_ble_eq_true rfl, Nat.le_of_ble_eq_true rfl⟩ rfl (Nat.le_of_ble_eq_true rfl) hL (t_X11_keeps F t hL _ _ hc3) ?_
      refine nd_iastoreN dX11_keepsTold_377 (sh_75 t) h (fun σ4 h => ?_)
      refine nd_iinc (v := (x1 + (1 : Int32))) (ls' := [(1, .int (x1 + (1 : Int32))), (0, .ref 60)]) dX11_keepsTold_378 1 rfl (congrArg (HAdd.hAdd _) ic_1) (by decide) rfl ?_
      refine nd_goto dX11_keepsTold_381 356 (by decide) ?_
      refine nd_sub [1, 0] rfl ?_
      exact hrec356 _ _ h
set_option maxRecDepth 100000 in
set_option maxHeartbeats 4000000 in
theorem b_X11_keepsTold_294 (F : Nat) (t : List nd_S) (hL : (nd_SH ++ t).length < nd_ro) {z : Int32 × nd_Mem} (m9 : Nat) : ∀ (x1 : Int32) (σ : nd_Mem), f_X11_keepsTold_294 F m9 x1 σ = some z → nd_V M_X11_keepsTold (nd_rm 1) (nd_Pv (nd_SH ++ t) z) 0 0 294 [(0, .ref 60), (1, .int x1)] [] (nd_SH ++ t) σ := by
  induction m9 with
  | zero =>
    intro x1 σ h
    have h : none = some z := h
    cases h
  | succ m9 hrec294 =>
    intro x1 σ h
    have h : f_X11_keepsTold_294_b F (f_X11_keepsTold_294 F m9) x1 σ = some z := h
    unfold f_X11_keepsTold_294_b at h
    refine nd_iload_n dX11_keepsTold_294 1 rfl ?_
    refine nd_bipush dX11_keepsTold_295 ib_9 ?_
    refine nd_icmp_geN dX11_keepsTold_297 354 (by decide) h (fun h => ?_) (fun h => ?_)
    · refine nd_iconst dX11_keepsTold_354 ic_0 ?_
      refine nd_istore_n (ls' := [(1, .int (0 : Int32)), (0, .ref 60)]) dX11_keepsTold_355 (by decide) rfl ?_
      refine nd_sub [1, 0] rfl ?_
      exact b_X11_keepsTold_356 F t hL F _ _ h
    · refine nd_aload_n dX11_keepsTold_300 0 rfl ?_
      refine nd_get dX11_keepsTold_301 gf_X11_86 (sh_60 t) rfl ?_
      refine nd_iload_n dX11_keepsTold_304 1 rfl ?_
      refine nd_aload_n dX11_keepsTold_305 0 rfl ?_
      refine nd_aload_n dX11_keepsTold_306 0 rfl ?_
      refine nd_get dX11_keepsTold_307 gf_X11_86 (sh_60 t) rfl ?_
      refine nd_iload_n dX11_keepsTold_310 1 rfl ?_
      refine nd_ialoadN dX11_keepsTold_311 (sh_85 t) h (fun h => ?_)
      obtain ⟨r1, σ2, hc3, h⟩ := nd_bind_e h
      refine nd_cvi [.int (σ 85 (x1).toNatClampNeg)] [.int x1, .ref 85] dX11_keepsTold_312 cl_X11_482 (sh_60 t) ⟨Nat.le_of_ble_eq_true rfl, Nat.le_of_ble_eq_true rfl⟩ rfl (Nat.le_of_ble_eq_true rfl) hL (t_X11_keeps F t hL _ _ hc3) ?_
      refine nd_iastoreN dX11_keepsTold_315 (sh_85 t) h (fun σ4 h => ?_)
      refine nd_aload_n dX11_keepsTold_316 0 rfl ?_
      refine nd_get dX11_keepsTold_317 gf_X11_89 (sh_60 t) rfl ?_
      refine nd_iload_n dX11_keepsTold_320 1 rfl ?_
      refine nd_aload_n dX11_keepsTold_321 0 rfl ?_
      refine nd_aload_n dX11_keepsTold_322 0 rfl ?_
      refine nd_get dX11_keepsTold_323 gf_X11_89 (sh_60 t) rfl ?_
      refine nd_iload_n dX11_keepsTold_326 1 rfl ?_
      refine nd_ialoadN dX11_keepsTold_327 (sh_86 t) h (fun h => ?_)
      obtain ⟨r5, σ6, hc7, h⟩ := nd_bind_e h
      refine nd_cvi [.int (σ4 86 (x1).toNatClampNeg)] [.int x1, .ref 86] dX11_keepsTold_328 cl_X11_482 (sh_60 t) ⟨Nat.le_of_ble_eq_true rfl, Nat.le_of_ble_eq_true rfl⟩ rfl (Nat.le_of_ble_eq_true rfl) hL (t_X11_keeps F t hL _ _ hc7) ?_
      refine nd_iastoreN dX11_keepsTold_331 (sh_86 t) h (fun σ8 h => ?_)
      refine nd_aload_n dX11_keepsTold_332 0 rfl ?_
      refine nd_get dX11_keepsTold_333 gf_X11_92 (sh_60 t) rfl ?_
      refine nd_iload_n dX11_keepsTold_336 1 rfl ?_
      refine nd_aload_n dX11_keepsTold_337 0 rfl ?_
      refine nd_aload_n dX11_keepsTold_338 0 rfl ?_
      refine nd_get dX11_keepsTold_339 gf_X11_92 (sh_60 t) rfl ?_
      refine nd_iload_n dX11_keepsTold_342 1 rfl ?_
      refine nd_ialoadN dX11_keepsTold_343 (sh_87 t) h (fun h => ?_)
      obtain ⟨r9, σ10, hc11, h⟩ := nd_bind_e h
      refine nd_cvi [.int (σ8 87 (x1).toNatClampNeg)] [.int x1, .ref 87] dX11_keepsTold_344 cl_X11_482 (sh_60 t) ⟨Nat.le_of_ble_eq_true rfl, Nat.le_of_ble_eq_true rfl⟩ rfl (Nat.le_of_ble_eq_true rfl) hL (t_X11_keeps F t hL _ _ hc11) ?_
      refine nd_iastoreN dX11_keepsTold_347 (sh_87 t) h (fun σ12 h => ?_)
      refine nd_iinc (v := (x1 + (1 : Int32))) (ls' := [(1, .int (x1 + (1 : Int32))), (0, .ref 60)]) dX11_keepsTold_348 1 rfl (congrArg (HAdd.hAdd _) ic_1) (by decide) rfl ?_
      refine nd_goto dX11_keepsTold_351 294 (by decide) ?_
      refine nd_sub [1, 0] rfl ?_
      exact hrec294 _ _ h
set_option maxRecDepth 100000 in
set_option maxHeartbeats 4000000 in
theorem b_X11_keepsTold_232 (F : Nat) (t : List nd_S) (hL : (nd_SH ++ t).length < nd_ro) {z : Int32 × nd_Mem} (m9 : Nat) : ∀ (x1 : Int32) (σ : nd_Mem), f_X11_keepsTold_232 F m9 x1 σ = some z → nd_V M_X11_keepsTold (nd_rm 1) (nd_Pv (nd_SH ++ t) z) 0 0 232 [(0, .ref 60), (1, .int x1)] [] (nd_SH ++ t) σ := by
  induction m9 with
  | zero =>
    intro x1 σ h
    have h : none = some z := h
    cases h
  | succ m9 hrec232 =>
    intro x1 σ h
    have h : f_X11_keepsTold_232_b F (f_X11_keepsTold_232 F m9) x1 σ = some z := h
    unfold f_X11_keepsTold_232_b at h
    refine nd_iload_n dX11_keepsTold_232 1 rfl ?_
    refine nd_bipush dX11_keepsTold_233 ib_10 ?_
    refine nd_icmp_geN dX11_keepsTold_235 292 (by decide) h (fun h => ?_) (fun h => ?_)
    · refine nd_iconst dX11_keepsTold_292 ic_0 ?_
      refine nd_istore_n (ls' := [(1, .int (0 : Int32)), (0, .ref 60)]) dX11_keepsTold_293 (by decide) rfl ?_
      refine nd_sub [1, 0] rfl ?_
      exact b_X11_keepsTold_294 F t hL F _ _ h
    · refine nd_aload_n dX11_keepsTold_238 0 rfl ?_
      refine nd_get dX11_keepsTold_239 gf_X11_98 (sh_60 t) rfl ?_
      refine nd_iload_n dX11_keepsTold_242 1 rfl ?_
      refine nd_aload_n dX11_keepsTold_243 0 rfl ?_
      refine nd_aload_n dX11_keepsTold_244 0 rfl ?_
      refine nd_get dX11_keepsTold_245 gf_X11_98 (sh_60 t) rfl ?_
      refine nd_iload_n dX11_keepsTold_248 1 rfl ?_
      refine nd_ialoadN dX11_keepsTold_249 (sh_89 t) h (fun h => ?_)
      obtain ⟨r1, σ2, hc3, h⟩ := nd_bind_e h
      refine nd_cvi [.int (σ 89 (x1).toNatClampNeg)] [.int x1, .ref 89] dX11_keepsTold_250 cl_X11_482 (sh_60 t) ⟨Nat.le_of_ble_eq_true rfl, Nat.le_of_ble_eq_true rfl⟩ rfl (Nat.le_of_ble_eq_true rfl) hL (t_X11_keeps F t hL _ _ hc3) ?_
      refine nd_iastoreN dX11_keepsTold_253 (sh_89 t) h (fun σ4 h => ?_)
      refine nd_aload_n dX11_keepsTold_254 0 rfl ?_
      refine nd_get dX11_keepsTold_255 gf_X11_116 (sh_60 t) rfl ?_
      refine nd_iload_n dX11_keepsTold_258 1 rfl ?_
      refine nd_aload_n dX11_keepsTold_259 0 rfl ?_
      refine nd_aload_n dX11_keepsTold_260 0 rfl ?_
      refine nd_get dX11_keepsTold_261 gf_X11_116 (sh_60 t) rfl ?_
      refine nd_iload_n dX11_keepsTold_264 1 rfl ?_
      refine nd_ialoadN dX11_keepsTold_265 (sh_95 t) h (fun h => ?_)
      obtain ⟨r5, σ6, hc7, h⟩ := nd_bind_e h
      refine nd_cvi [.int (σ4 95 (x1).toNatClampNeg)] [.int x1, .ref 95] dX11_keepsTold_266 cl_X11_482 (sh_60 t) ⟨Nat.le_of_ble_eq_true rfl, Nat.le_of_ble_eq_true rfl⟩ rfl (Nat.le_of_ble_eq_true rfl) hL (t_X11_keeps F t hL _ _ hc7) ?_
      refine nd_iastoreN dX11_keepsTold_269 (sh_95 t) h (fun σ8 h => ?_)
      refine nd_aload_n dX11_keepsTold_270 0 rfl ?_
      refine nd_get dX11_keepsTold_271 gf_X11_119 (sh_60 t) rfl ?_
      refine nd_iload_n dX11_keepsTold_274 1 rfl ?_
      refine nd_aload_n dX11_keepsTold_275 0 rfl ?_
      refine nd_aload_n dX11_keepsTold_276 0 rfl ?_
      refine nd_get dX11_keepsTold_277 gf_X11_119 (sh_60 t) rfl ?_
      refine nd_iload_n dX11_keepsTold_280 1 rfl ?_
      refine nd_ialoadN dX11_keepsTold_281 (sh_96 t) h (fun h => ?_)
      obtain ⟨r9, σ10, hc11, h⟩ := nd_bind_e h
      refine nd_cvi [.int (σ8 96 (x1).toNatClampNeg)] [.int x1, .ref 96] dX11_keepsTold_282 cl_X11_482 (sh_60 t) ⟨Nat.le_of_ble_eq_true rfl, Nat.le_of_ble_eq_true rfl⟩ rfl (Nat.le_of_ble_eq_true rfl) hL (t_X11_keeps F t hL _ _ hc11) ?_
      refine nd_iastoreN dX11_keepsTold_285 (sh_96 t) h (fun σ12 h => ?_)
      refine nd_iinc (v := (x1 + (1 : Int32))) (ls' := [(1, .int (x1 + (1 : Int32))), (0, .ref 60)]) dX11_keepsTold_286 1 rfl (congrArg (HAdd.hAdd _) ic_1) (by decide) rfl ?_
      refine nd_goto dX11_keepsTold_289 232 (by decide) ?_
      refine nd_sub [1, 0] rfl ?_
      exact hrec232 _ _ h
set_option maxRecDepth 100000 in
set_option maxHeartbeats 4000000 in
theorem b_X11_keepsTold_202 (F : Nat) (t : List nd_S) (hL : (nd_SH ++ t).length < nd_ro) {z : Int32 × nd_Mem} (m9 : Nat) : ∀ (x1 : Int32) (σ : nd_Mem), f_X11_keepsTold_202 F m9 x1 σ = some z → nd_V M_X11_keepsTold (nd_rm 1) (nd_Pv (nd_SH ++ t) z) 0 0 202 [(0, .ref 60), (1, .int x1)] [] (nd_SH ++ t) σ := by
  induction m9 with
  | zero =>
    intro x1 σ h
    have h : none = some z := h
    cases h
  | succ m9 hrec202 =>
    intro x1 σ h
    have h : f_X11_keepsTold_202_b F (f_X11_keepsTold_202 F m9) x1 σ = some z := h
    unfold f_X11_keepsTold_202_b at h
    refine nd_iload_n dX11_keepsTold_202 1 rfl ?_
    refine nd_bipush dX11_keepsTold_203 ib_12 ?_
    refine nd_icmp_geN dX11_keepsTold_205 230 (by decide) h (fun h => ?_) (fun h => ?_)
    · refine nd_iconst dX11_keepsTold_230 ic_0 ?_
      refine nd_istore_n (ls' := [(1, .int (0 : Int32)), (0, .ref 60)]) dX11_keepsTold_231 (by decide) rfl ?_
      refine nd_sub [1, 0] rfl ?_
      exact b_X11_keepsTold_232 F t hL F _ _ h
    · refine nd_aload_n dX11_keepsTold_208 0 rfl ?_
      refine nd_get dX11_keepsTold_209 gf_X11_74 (sh_60 t) rfl ?_
      refine nd_iload_n dX11_keepsTold_212 1 rfl ?_
      refine nd_aload_n dX11_keepsTold_213 0 rfl ?_
      refine nd_aload_n dX11_keepsTold_214 0 rfl ?_
      refine nd_get dX11_keepsTold_215 gf_X11_74 (sh_60 t) rfl ?_
      refine nd_iload_n dX11_keepsTold_218 1 rfl ?_
      refine nd_ialoadN dX11_keepsTold_219 (sh_81 t) h (fun h => ?_)
      obtain ⟨r1, σ2, hc3, h⟩ := nd_bind_e h
      refine nd_cvi [.int (σ 81 (x1).toNatClampNeg)] [.int x1, .ref 81] dX11_keepsTold_220 cl_X11_482 (sh_60 t) ⟨Nat.le_of_ble_eq_true rfl, Nat.le_of_ble_eq_true rfl⟩ rfl (Nat.le_of_ble_eq_true rfl) hL (t_X11_keeps F t hL _ _ hc3) ?_
      refine nd_iastoreN dX11_keepsTold_223 (sh_81 t) h (fun σ4 h => ?_)
      refine nd_iinc (v := (x1 + (1 : Int32))) (ls' := [(1, .int (x1 + (1 : Int32))), (0, .ref 60)]) dX11_keepsTold_224 1 rfl (congrArg (HAdd.hAdd _) ic_1) (by decide) rfl ?_
      refine nd_goto dX11_keepsTold_227 202 (by decide) ?_
      refine nd_sub [1, 0] rfl ?_
      exact hrec202 _ _ h
set_option maxRecDepth 100000 in
set_option maxHeartbeats 4000000 in
theorem b_X11_keepsTold_156 (F : Nat) (t : List nd_S) (hL : (nd_SH ++ t).length < nd_ro) {z : Int32 × nd_Mem} (m9 : Nat) : ∀ (x1 : Int32) (σ : nd_Mem), f_X11_keepsTold_156 F m9 x1 σ = some z → nd_V M_X11_keepsTold (nd_rm 1) (nd_Pv (nd_SH ++ t) z) 0 0 156 [(0, .ref 60), (1, .int x1)] [] (nd_SH ++ t) σ := by
  induction m9 with
  | zero =>
    intro x1 σ h
    have h : none = some z := h
    cases h
  | succ m9 hrec156 =>
    intro x1 σ h
    have h : f_X11_keepsTold_156_b F (f_X11_keepsTold_156 F m9) x1 σ = some z := h
    unfold f_X11_keepsTold_156_b at h
    refine nd_iload_n dX11_keepsTold_156 1 rfl ?_
    refine nd_bipush dX11_keepsTold_157 ib_14 ?_
    refine nd_icmp_geN dX11_keepsTold_159 200 (by decide) h (fun h => ?_) (fun h => ?_)
    · refine nd_iconst dX11_keepsTold_200 ic_0 ?_
      refine nd_istore_n (ls' := [(1, .int (0 : Int32)), (0, .ref 60)]) dX11_keepsTold_201 (by decide) rfl ?_
      refine nd_sub [1, 0] rfl ?_
      exact b_X11_keepsTold_202 F t hL F _ _ h
    · refine nd_aload_n dX11_keepsTold_162 0 rfl ?_
      refine nd_get dX11_keepsTold_163 gf_X11_107 (sh_60 t) rfl ?_
      refine nd_iload_n dX11_keepsTold_166 1 rfl ?_
      refine nd_aload_n dX11_keepsTold_167 0 rfl ?_
      refine nd_aload_n dX11_keepsTold_168 0 rfl ?_
      refine nd_get dX11_keepsTold_169 gf_X11_107 (sh_60 t) rfl ?_
      refine nd_iload_n dX11_keepsTold_172 1 rfl ?_
      refine nd_ialoadN dX11_keepsTold_173 (sh_92 t) h (fun h => ?_)
      obtain ⟨r1, σ2, hc3, h⟩ := nd_bind_e h
      refine nd_cvi [.int (σ 92 (x1).toNatClampNeg)] [.int x1, .ref 92] dX11_keepsTold_174 cl_X11_482 (sh_60 t) ⟨Nat.le_of_ble_eq_true rfl, Nat.le_of_ble_eq_true rfl⟩ rfl (Nat.le_of_ble_eq_true rfl) hL (t_X11_keeps F t hL _ _ hc3) ?_
      refine nd_iastoreN dX11_keepsTold_177 (sh_92 t) h (fun σ4 h => ?_)
      refine nd_aload_n dX11_keepsTold_178 0 rfl ?_
      refine nd_get dX11_keepsTold_179 gf_X11_110 (sh_60 t) rfl ?_
      refine nd_iload_n dX11_keepsTold_182 1 rfl ?_
      refine nd_aload_n dX11_keepsTold_183 0 rfl ?_
      refine nd_aload_n dX11_keepsTold_184 0 rfl ?_
      refine nd_get dX11_keepsTold_185 gf_X11_110 (sh_60 t) rfl ?_
      refine nd_iload_n dX11_keepsTold_188 1 rfl ?_
      refine nd_ialoadN dX11_keepsTold_189 (sh_93 t) h (fun h => ?_)
      obtain ⟨r5, σ6, hc7, h⟩ := nd_bind_e h
      refine nd_cvi [.int (σ4 93 (x1).toNatClampNeg)] [.int x1, .ref 93] dX11_keepsTold_190 cl_X11_482 (sh_60 t) ⟨Nat.le_of_ble_eq_true rfl, Nat.le_of_ble_eq_true rfl⟩ rfl (Nat.le_of_ble_eq_true rfl) hL (t_X11_keeps F t hL _ _ hc7) ?_
      refine nd_iastoreN dX11_keepsTold_193 (sh_93 t) h (fun σ8 h => ?_)
      refine nd_iinc (v := (x1 + (1 : Int32))) (ls' := [(1, .int (x1 + (1 : Int32))), (0, .ref 60)]) dX11_keepsTold_194 1 rfl (congrArg (HAdd.hAdd _) ic_1) (by decide) rfl ?_
      refine nd_goto dX11_keepsTold_197 156 (by decide) ?_
      refine nd_sub [1, 0] rfl ?_
      exact hrec156 _ _ h
set_option maxRecDepth 100000 in
set_option maxHeartbeats 4000000 in
theorem b_X11_keepsTold_110 (F : Nat) (t : List nd_S) (hL : (nd_SH ++ t).length < nd_ro) {z : Int32 × nd_Mem} (m9 : Nat) : ∀ (x1 : Int32) (σ : nd_Mem), f_X11_keepsTold_110 F m9 x1 σ = some z → nd_V M_X11_keepsTold (nd_rm 1) (nd_Pv (nd_SH ++ t) z) 0 0 110 [(0, .ref 60), (1, .int x1)] [] (nd_SH ++ t) σ := by
  induction m9 with
  | zero =>
    intro x1 σ h
    have h : none = some z := h
    cases h
  | succ m9 hrec110 =>
    intro x1 σ h
    have h : f_X11_keepsTold_110_b F (f_X11_keepsTold_110 F m9) x1 σ = some z := h
    unfold f_X11_keepsTold_110_b at h
    refine nd_iload_n dX11_keepsTold_110 1 rfl ?_
    refine nd_bipush dX11_keepsTold_111 ib_16 ?_
    refine nd_icmp_geN dX11_keepsTold_113 154 (by decide) h (fun h => ?_) (fun h => ?_)
    · refine nd_iconst dX11_keepsTold_154 ic_0 ?_
      refine nd_istore_n (ls' := [(1, .int (0 : Int32)), (0, .ref 60)]) dX11_keepsTold_155 (by decide) rfl ?_
      refine nd_sub [1, 0] rfl ?_
      exact b_X11_keepsTold_156 F t hL F _ _ h
    · refine nd_aload_n dX11_keepsTold_116 0 rfl ?_
      refine nd_get dX11_keepsTold_117 gf_X11_59 (sh_60 t) rfl ?_
      refine nd_iload_n dX11_keepsTold_120 1 rfl ?_
      refine nd_aload_n dX11_keepsTold_121 0 rfl ?_
      refine nd_aload_n dX11_keepsTold_122 0 rfl ?_
      refine nd_get dX11_keepsTold_123 gf_X11_59 (sh_60 t) rfl ?_
      refine nd_iload_n dX11_keepsTold_126 1 rfl ?_
      refine nd_ialoadN dX11_keepsTold_127 (sh_76 t) h (fun h => ?_)
      obtain ⟨r1, σ2, hc3, h⟩ := nd_bind_e h
      refine nd_cvi [.int (σ 76 (x1).toNatClampNeg)] [.int x1, .ref 76] dX11_keepsTold_128 cl_X11_482 (sh_60 t) ⟨Nat.le_of_ble_eq_true rfl, Nat.le_of_ble_eq_true rfl⟩ rfl (Nat.le_of_ble_eq_true rfl) hL (t_X11_keeps F t hL _ _ hc3) ?_
      refine nd_iastoreN dX11_keepsTold_131 (sh_76 t) h (fun σ4 h => ?_)
      refine nd_aload_n dX11_keepsTold_132 0 rfl ?_
      refine nd_get dX11_keepsTold_133 gf_X11_62 (sh_60 t) rfl ?_
      refine nd_iload_n dX11_keepsTold_136 1 rfl ?_
      refine nd_aload_n dX11_keepsTold_137 0 rfl ?_
      refine nd_aload_n dX11_keepsTold_138 0 rfl ?_
      refine nd_get dX11_keepsTold_139 gf_X11_62 (sh_60 t) rfl ?_
      refine nd_iload_n dX11_keepsTold_142 1 rfl ?_
      refine nd_ialoadN dX11_keepsTold_143 (sh_77 t) h (fun h => ?_)
      obtain ⟨r5, σ6, hc7, h⟩ := nd_bind_e h
      refine nd_cvi [.int (σ4 77 (x1).toNatClampNeg)] [.int x1, .ref 77] dX11_keepsTold_144 cl_X11_482 (sh_60 t) ⟨Nat.le_of_ble_eq_true rfl, Nat.le_of_ble_eq_true rfl⟩ rfl (Nat.le_of_ble_eq_true rfl) hL (t_X11_keeps F t hL _ _ hc7) ?_
      refine nd_iastoreN dX11_keepsTold_147 (sh_77 t) h (fun σ8 h => ?_)
      refine nd_iinc (v := (x1 + (1 : Int32))) (ls' := [(1, .int (x1 + (1 : Int32))), (0, .ref 60)]) dX11_keepsTold_148 1 rfl (congrArg (HAdd.hAdd _) ic_1) (by decide) rfl ?_
      refine nd_goto dX11_keepsTold_151 110 (by decide) ?_
      refine nd_sub [1, 0] rfl ?_
      exact hrec110 _ _ h
set_option maxRecDepth 100000 in
set_option maxHeartbeats 4000000 in
theorem t_X11_keepsTold (F : Nat) (t : List nd_S) (hL : (nd_SH ++ t).length < nd_ro) {z : Int32 × nd_Mem} (σ : nd_Mem) (h : f_X11_keepsTold F σ = some z) : nd_Fn M_X11_keepsTold (nd_rm 1) [.ref 60] (nd_SH ++ t) σ (nd_Pv (nd_SH ++ t) z) := by
  refine nd_Fn.ofV (ls := [(0, .ref 60)]) pl_X11_keepsTold rfl (fun _ => Nat.le_of_ble_eq_true rfl) (fun _ => rfl) ?_
  unfold f_X11_keepsTold at h
  refine nd_aload_n dX11_keepsTold_0 0 rfl ?_
  refine nd_aload_n dX11_keepsTold_1 0 rfl ?_
  refine nd_aload_n dX11_keepsTold_2 0 rfl ?_
  refine nd_get dX11_keepsTold_3 gf_X11_144 (sh_60 t) rfl ?_
  obtain ⟨r1, σ2, hc3, h⟩ := nd_bind_e h
  refine nd_cvi [.int (σ 60 6)] [.ref 60] dX11_keepsTold_6 cl_X11_482 (sh_60 t) ⟨Nat.le_of_ble_eq_true rfl, Nat.le_of_ble_eq_true rfl⟩ rfl (Nat.le_of_ble_eq_true rfl) hL (t_X11_keeps F t hL _ _ hc3) ?_
  refine nd_putiN dX11_keepsTold_9 pf_X11_144 (sh_60 t) rfl h (fun σ4 h => ?_)
  refine nd_aload_n dX11_keepsTold_12 0 rfl ?_
  refine nd_aload_n dX11_keepsTold_13 0 rfl ?_
  refine nd_aload_n dX11_keepsTold_14 0 rfl ?_
  refine nd_get dX11_keepsTold_15 gf_X11_286 (sh_60 t) rfl ?_
  obtain ⟨r5, σ6, hc7, h⟩ := nd_bind_e h
  refine nd_cvi [.int (σ4 60 31)] [.ref 60] dX11_keepsTold_18 cl_X11_482 (sh_60 t) ⟨Nat.le_of_ble_eq_true rfl, Nat.le_of_ble_eq_true rfl⟩ rfl (Nat.le_of_ble_eq_true rfl) hL (t_X11_keeps F t hL _ _ hc7) ?_
  refine nd_putiN dX11_keepsTold_21 pf_X11_286 (sh_60 t) rfl h (fun σ8 h => ?_)
  refine nd_aload_n dX11_keepsTold_24 0 rfl ?_
  refine nd_aload_n dX11_keepsTold_25 0 rfl ?_
  refine nd_aload_n dX11_keepsTold_26 0 rfl ?_
  refine nd_get dX11_keepsTold_27 gf_X11_289 (sh_60 t) rfl ?_
  obtain ⟨r9, σ10, hc11, h⟩ := nd_bind_e h
  refine nd_cvi [.int (σ8 60 33)] [.ref 60] dX11_keepsTold_30 cl_X11_482 (sh_60 t) ⟨Nat.le_of_ble_eq_true rfl, Nat.le_of_ble_eq_true rfl⟩ rfl (Nat.le_of_ble_eq_true rfl) hL (t_X11_keeps F t hL _ _ hc11) ?_
  refine nd_putiN dX11_keepsTold_33 pf_X11_289 (sh_60 t) rfl h (fun σ12 h => ?_)
  refine nd_aload_n dX11_keepsTold_36 0 rfl ?_
  refine nd_aload_n dX11_keepsTold_37 0 rfl ?_
  refine nd_aload_n dX11_keepsTold_38 0 rfl ?_
  refine nd_get dX11_keepsTold_39 gf_X11_292 (sh_60 t) rfl ?_
  obtain ⟨r13, σ14, hc15, h⟩ := nd_bind_e h
  refine nd_cvi [.int (σ12 60 35)] [.ref 60] dX11_keepsTold_42 cl_X11_482 (sh_60 t) ⟨Nat.le_of_ble_eq_true rfl, Nat.le_of_ble_eq_true rfl⟩ rfl (Nat.le_of_ble_eq_true rfl) hL (t_X11_keeps F t hL _ _ hc15) ?_
  refine nd_putiN dX11_keepsTold_45 pf_X11_292 (sh_60 t) rfl h (fun σ16 h => ?_)
  refine nd_aload_n dX11_keepsTold_48 0 rfl ?_
  refine nd_aload_n dX11_keepsTold_49 0 rfl ?_
  refine nd_aload_n dX11_keepsTold_50 0 rfl ?_
  refine nd_get dX11_keepsTold_51 gf_X11_388 (sh_60 t) rfl ?_
  obtain ⟨r17, σ18, hc19, h⟩ := nd_bind_e h
  refine nd_cvi [.int (σ16 60 40)] [.ref 60] dX11_keepsTold_54 cl_X11_482 (sh_60 t) ⟨Nat.le_of_ble_eq_true rfl, Nat.le_of_ble_eq_true rfl⟩ rfl (Nat.le_of_ble_eq_true rfl) hL (t_X11_keeps F t hL _ _ hc19) ?_
  refine nd_putiN dX11_keepsTold_57 pf_X11_388 (sh_60 t) rfl h (fun σ20 h => ?_)
  refine nd_aload_n dX11_keepsTold_60 0 rfl ?_
  refine nd_aload_n dX11_keepsTold_61 0 rfl ?_
  refine nd_aload_n dX11_keepsTold_62 0 rfl ?_
  refine nd_get dX11_keepsTold_63 gf_X11_407 (sh_60 t) rfl ?_
  obtain ⟨r21, σ22, hc23, h⟩ := nd_bind_e h
  refine nd_cvi [.int (σ20 60 45)] [.ref 60] dX11_keepsTold_66 cl_X11_482 (sh_60 t) ⟨Nat.le_of_ble_eq_true rfl, Nat.le_of_ble_eq_true rfl⟩ rfl (Nat.le_of_ble_eq_true rfl) hL (t_X11_keeps F t hL _ _ hc23) ?_
  refine nd_putiN dX11_keepsTold_69 pf_X11_407 (sh_60 t) rfl h (fun σ24 h => ?_)
  refine nd_aload_n dX11_keepsTold_72 0 rfl ?_
  refine nd_aload_n dX11_keepsTold_73 0 rfl ?_
  refine nd_aload_n dX11_keepsTold_74 0 rfl ?_
  refine nd_get dX11_keepsTold_75 gf_X11_414 (sh_60 t) rfl ?_
  obtain ⟨r25, σ26, hc27, h⟩ := nd_bind_e h
  refine nd_cvi [.int (σ24 60 50)] [.ref 60] dX11_keepsTold_78 cl_X11_482 (sh_60 t) ⟨Nat.le_of_ble_eq_true rfl, Nat.le_of_ble_eq_true rfl⟩ rfl (Nat.le_of_ble_eq_true rfl) hL (t_X11_keeps F t hL _ _ hc27) ?_
  refine nd_putiN dX11_keepsTold_81 pf_X11_414 (sh_60 t) rfl h (fun σ28 h => ?_)
  refine nd_aload_n dX11_keepsTold_84 0 rfl ?_
  refine nd_aload_n dX11_keepsTold_85 0 rfl ?_
  refine nd_aload_n dX11_keepsTold_86 0 rfl ?_
  refine nd_get dX11_keepsTold_87 gf_X11_438 (sh_60 t) rfl ?_
  obtain ⟨r29, σ30, hc31, h⟩ := nd_bind_e h
  refine nd_cvi [.int (σ28 60 54)] [.ref 60] dX11_keepsTold_90 cl_X11_482 (sh_60 t) ⟨Nat.le_of_ble_eq_true rfl, Nat.le_of_ble_eq_true rfl⟩ rfl (Nat.le_of_ble_eq_true rfl) hL (t_X11_keeps F t hL _ _ hc31) ?_
  refine nd_putiN dX11_keepsTold_93 pf_X11_438 (sh_60 t) rfl h (fun σ32 h => ?_)
  refine nd_aload_n dX11_keepsTold_96 0 rfl ?_
  refine nd_aload_n dX11_keepsTold_97 0 rfl ?_
  refine nd_aload_n dX11_keepsTold_98 0 rfl ?_
  refine nd_get dX11_keepsTold_99 gf_X11_461 (sh_60 t) rfl ?_
  obtain ⟨r33, σ34, hc35, h⟩ := nd_bind_e h
  refine nd_cvi [.int (σ32 60 61)] [.ref 60] dX11_keepsTold_102 cl_X11_482 (sh_60 t) ⟨Nat.le_of_ble_eq_true rfl, Nat.le_of_ble_eq_true rfl⟩ rfl (Nat.le_of_ble_eq_true rfl) hL (t_X11_keeps F t hL _ _ hc35) ?_
  refine nd_putiN dX11_keepsTold_105 pf_X11_461 (sh_60 t) rfl h (fun σ36 h => ?_)
  refine nd_iconst dX11_keepsTold_108 ic_0 ?_
  refine nd_istore_n (ls' := [(1, .int (0 : Int32)), (0, .ref 60)]) dX11_keepsTold_109 (by decide) rfl ?_
  refine nd_sub [1, 0] rfl ?_
  exact b_X11_keepsTold_110 F t hL F _ _ h
def f_X11_kindOfDeed (F : Nat) (σ : nd_Mem) : nd_Res := (nd_bind (f_X11_isWord F (18 : Int32) σ) fun r1 σ2 => (if r1 = 0 then (nd_bind (f_X11_isWord F (19 : Int32) σ2) fun r4 σ5 => (if r4 = 0 then (nd_bind (f_X11_isWord F (11 : Int32) σ5) fun r7 σ8 => (if r7 = 0 then (nd_bind (f_X11_isWord F (21 : Int32) σ8) fun r10 σ11 => (if r10 = 0 then (nd_bind (f_X11_isWord F (22 : Int32) σ11) fun r13 σ14 => (if r13 = 0 then (nd_bind (f_X11_isWord F (14 : Int32) σ14) fun r16 σ17 => (if r16 = 0 then (some ((-1 : Int32), σ17)) else (some ((5 : Int32), σ17)))) else (some ((4 : Int32), σ14)))) else (some ((3 : Int32), σ11)))) else (some ((2 : Int32), σ8)))) else (some ((1 : Int32), σ5)))) else (some ((0 : Int32), σ2))))
set_option maxRecDepth 100000 in
set_option maxHeartbeats 4000000 in
theorem t_X11_kindOfDeed (F : Nat) (t : List nd_S) (hL : (nd_SH ++ t).length < nd_ro) {z : Int32 × nd_Mem} (σ : nd_Mem) (h : f_X11_kindOfDeed F σ = some z) : nd_Fn M_X11_kindOfDeed (nd_rm 1) [.ref 60] (nd_SH ++ t) σ (nd_Pi (nd_SH ++ t) z) := by
  refine nd_Fn.ofV (ls := [(0, .ref 60)]) pl_X11_kindOfDeed rfl (fun _ => Nat.le_of_ble_eq_true rfl) (fun _ => rfl) ?_
  unfold f_X11_kindOfDeed at h
  refine nd_aload_n dX11_kindOfDeed_0 0 rfl ?_
  refine nd_bipush dX11_kindOfDeed_1 ib_18 ?_
  obtain ⟨r1, σ2, hc3, h⟩ := nd_bind_e h
  refine nd_cvi [.int (18 : Int32)] [] dX11_kindOfDeed_3 cl_X11_232 (sh_60 t) ⟨Nat.le_of_ble_eq_true rfl, Nat.le_of_ble_eq_true rfl⟩ rfl (Nat.le_of_ble_eq_true rfl) hL (t_X11_isWord F t hL _ _ hc3) ?_
  refine nd_if_eqN dX11_kindOfDeed_6 11 (by decide) h (fun h => ?_) (fun h => ?_)
  · refine nd_aload_n dX11_kindOfDeed_11 0 rfl ?_
    refine nd_bipush dX11_kindOfDeed_12 ib_19 ?_
    obtain ⟨r4, σ5, hc6, h⟩ := nd_bind_e h
    refine nd_cvi [.int (19 : Int32)] [] dX11_kindOfDeed_14 cl_X11_232 (sh_60 t) ⟨Nat.le_of_ble_eq_true rfl, Nat.le_of_ble_eq_true rfl⟩ rfl (Nat.le_of_ble_eq_true rfl) hL (t_X11_isWord F t hL _ _ hc6) ?_
    refine nd_if_eqN dX11_kindOfDeed_17 22 (by decide) h (fun h => ?_) (fun h => ?_)
    · refine nd_aload_n dX11_kindOfDeed_22 0 rfl ?_
      refine nd_bipush dX11_kindOfDeed_23 ib_11 ?_
      obtain ⟨r7, σ8, hc9, h⟩ := nd_bind_e h
      refine nd_cvi [.int (11 : Int32)] [] dX11_kindOfDeed_25 cl_X11_232 (sh_60 t) ⟨Nat.le_of_ble_eq_true rfl, Nat.le_of_ble_eq_true rfl⟩ rfl (Nat.le_of_ble_eq_true rfl) hL (t_X11_isWord F t hL _ _ hc9) ?_
      refine nd_if_eqN dX11_kindOfDeed_28 33 (by decide) h (fun h => ?_) (fun h => ?_)
      · refine nd_aload_n dX11_kindOfDeed_33 0 rfl ?_
        refine nd_bipush dX11_kindOfDeed_34 ib_21 ?_
        obtain ⟨r10, σ11, hc12, h⟩ := nd_bind_e h
        refine nd_cvi [.int (21 : Int32)] [] dX11_kindOfDeed_36 cl_X11_232 (sh_60 t) ⟨Nat.le_of_ble_eq_true rfl, Nat.le_of_ble_eq_true rfl⟩ rfl (Nat.le_of_ble_eq_true rfl) hL (t_X11_isWord F t hL _ _ hc12) ?_
        refine nd_if_eqN dX11_kindOfDeed_39 44 (by decide) h (fun h => ?_) (fun h => ?_)
        · refine nd_aload_n dX11_kindOfDeed_44 0 rfl ?_
          refine nd_bipush dX11_kindOfDeed_45 ib_22 ?_
          obtain ⟨r13, σ14, hc15, h⟩ := nd_bind_e h
          refine nd_cvi [.int (22 : Int32)] [] dX11_kindOfDeed_47 cl_X11_232 (sh_60 t) ⟨Nat.le_of_ble_eq_true rfl, Nat.le_of_ble_eq_true rfl⟩ rfl (Nat.le_of_ble_eq_true rfl) hL (t_X11_isWord F t hL _ _ hc15) ?_
          refine nd_if_eqN dX11_kindOfDeed_50 57 (by decide) h (fun h => ?_) (fun h => ?_)
          · refine nd_aload_n dX11_kindOfDeed_57 0 rfl ?_
            refine nd_bipush dX11_kindOfDeed_58 ib_14 ?_
            obtain ⟨r16, σ17, hc18, h⟩ := nd_bind_e h
            refine nd_cvi [.int (14 : Int32)] [] dX11_kindOfDeed_60 cl_X11_232 (sh_60 t) ⟨Nat.le_of_ble_eq_true rfl, Nat.le_of_ble_eq_true rfl⟩ rfl (Nat.le_of_ble_eq_true rfl) hL (t_X11_isWord F t hL _ _ hc18) ?_
            refine nd_if_eqN dX11_kindOfDeed_63 70 (by decide) h (fun h => ?_) (fun h => ?_)
            · refine nd_iconst dX11_kindOfDeed_70 ic_m1 ?_
              exact nd_iret dX11_kindOfDeed_71 (Nat.zero_le _) (Nat.zero_le _) (vp_nar_int _) (by cases h; exact ⟨rfl, rfl, rfl⟩)
            · refine nd_iconst dX11_kindOfDeed_66 ic_5 ?_
              refine nd_goto dX11_kindOfDeed_67 71 (by decide) ?_
              exact nd_iret dX11_kindOfDeed_71 (Nat.zero_le _) (Nat.zero_le _) (vp_nar_int _) (by cases h; exact ⟨rfl, rfl, rfl⟩)
          · refine nd_iconst dX11_kindOfDeed_53 ic_4 ?_
            refine nd_goto dX11_kindOfDeed_54 71 (by decide) ?_
            exact nd_iret dX11_kindOfDeed_71 (Nat.zero_le _) (Nat.zero_le _) (vp_nar_int _) (by cases h; exact ⟨rfl, rfl, rfl⟩)
        · refine nd_iconst dX11_kindOfDeed_42 ic_3 ?_
          exact nd_iret dX11_kindOfDeed_43 (Nat.zero_le _) (Nat.zero_le _) (vp_nar_int _) (by cases h; exact ⟨rfl, rfl, rfl⟩)
      · refine nd_iconst dX11_kindOfDeed_31 ic_2 ?_
        exact nd_iret dX11_kindOfDeed_32 (Nat.zero_le _) (Nat.zero_le _) (vp_nar_int _) (by cases h; exact ⟨rfl, rfl, rfl⟩)
    · refine nd_iconst dX11_kindOfDeed_20 ic_1 ?_
      exact nd_iret dX11_kindOfDeed_21 (Nat.zero_le _) (Nat.zero_le _) (vp_nar_int _) (by cases h; exact ⟨rfl, rfl, rfl⟩)
  · refine nd_iconst dX11_kindOfDeed_9 ic_0 ?_
    exact nd_iret dX11_kindOfDeed_10 (Nat.zero_le _) (Nat.zero_le _) (vp_nar_int _) (by cases h; exact ⟨rfl, rfl, rfl⟩)
def f_X11_meets_77 (F : Nat) (σ : nd_Mem) : nd_Res := (some ((-1 : Int32), σ))
def f_X11_meets_131 (F : Nat) (rec96 : Int32 → Int32 → Int32 → Int32 → Int32 → Int32 → nd_Mem → nd_Res) (x1 : Int32) (x2 : Int32) (x4 : Int32) (x7 : Int32) (x8 : Int32) (x9 : Int32) (σ : nd_Mem) : nd_Res := (if x1 = 0 then none else (if x1 = 0 then none else (rec96 x1 x2 x4 x7 (q_rem ((x8 - (q_rem (x2 + (1 : Int32)) x1)) + x1) x1) (x9 + (1 : Int32)) σ)))
def f_X11_meets_96_b (F : Nat) (rec96 : Int32 → Int32 → Int32 → Int32 → Int32 → Int32 → nd_Mem → nd_Res) (x1 : Int32) (x2 : Int32) (x4 : Int32) (x7 : Int32) (x8 : Int32) (x9 : Int32) (σ : nd_Mem) : nd_Res := (if x1 ≤ x9 then (if x4 = 0 then (some ((-1 : Int32), σ)) else (some (x7, σ))) else (if x8 = 0 then (if x4 = 0 then (some (x9, σ)) else (some (x7, σ))) else (if (x2 + (1 : Int32)) ≤ x8 then (f_X11_meets_131 F rec96 x1 x2 x4 x7 x8 x9 σ) else (f_X11_meets_131 F rec96 x1 x2 x4 (1 : Int32) x8 x9 σ))))
def f_X11_meets_96 (F : Nat) : Nat → Int32 → Int32 → Int32 → Int32 → Int32 → Int32 → nd_Mem → nd_Res
  | 0, _, _, _, _, _, _, _ => none
  | m9 + 1, x1, x2, x4, x7, x8, x9, σ => f_X11_meets_96_b F (f_X11_meets_96 F m9) x1 x2 x4 x7 x8 x9 σ
def f_X11_meets (F : Nat) (x1 : Int32) (x2 : Int32) (x3 : Int32) (x4 : Int32) (σ : nd_Mem) : nd_Res := (nd_let (nd_up σ 60 0 (0 : Int32)) fun σ1 => (nd_bind (f_X11_isIn F x1 (2 : Int32) (500 : Int32) σ1) fun r2 σ3 => (if r2 = 0 then (f_X11_meets_77 F σ3) else (nd_bind (f_X11_isIn F x2 (1 : Int32) (9 : Int32) σ3) fun r5 σ6 => (if r5 = 0 then (f_X11_meets_77 F σ6) else (nd_bind (f_X11_isIn F x3 (0 : Int32) (499499 : Int32) σ6) fun r8 σ9 => (if r8 = 0 then (f_X11_meets_77 F σ9) else (if x1 ≤ (x3 / (1000 : Int32)) then (f_X11_meets_77 F σ9) else (if x1 ≤ (q_rem x3 (1000 : Int32)) then (f_X11_meets_77 F σ9) else (nd_bind (f_X11_isIn F x4 (0 : Int32) (1 : Int32) σ9) fun r11 σ12 => (if r11 = 0 then (f_X11_meets_77 F σ12) else (if x1 = 0 then none else (f_X11_meets_96 F F x1 x2 x4 (0 : Int32) (q_rem (((q_rem x3 (1000 : Int32)) - (x3 / (1000 : Int32))) + x1) x1) (0 : Int32) σ12)))))))))))))
set_option maxRecDepth 100000 in
set_option maxHeartbeats 4000000 in
theorem b_X11_meets_77 (F : Nat) (t : List nd_S) (hL : (nd_SH ++ t).length < nd_ro) {z : Int32 × nd_Mem} (σ : nd_Mem) (h : f_X11_meets_77 F σ = some z) : nd_V M_X11_meets (nd_rm 1) (nd_Pi (nd_SH ++ t) z) 0 0 77 [(0, .ref 60)] [] (nd_SH ++ t) σ := by
  unfold f_X11_meets_77 at h
  refine nd_iconst dX11_meets_77 ic_m1 ?_
  exact nd_iret dX11_meets_78 (Nat.zero_le _) (Nat.zero_le _) (vp_nar_int _) (by cases h; exact ⟨rfl, rfl, rfl⟩)
set_option maxRecDepth 100000 in
set_option maxHeartbeats 4000000 in
theorem b_X11_meets_131 (F : Nat) (rec96 : Int32 → Int32 → Int32 → Int32 → Int32 → Int32 → nd_Mem → nd_Res) (t : List nd_S) (hL : (nd_SH ++ t).length < nd_ro) {z : Int32 × nd_Mem} (hrec96 : ∀ (x1 : Int32) (x2 : Int32) (x4 : Int32) (x7 : Int32) (x8 : Int32) (x9 : Int32) (σ : nd_Mem), rec96 x1 x2 x4 x7 x8 x9 σ = some z → nd_V M_X11_meets (nd_rm 1) (nd_Pi (nd_SH ++ t) z) 0 0 96 [(0, .ref 60), (1, .int x1), (2, .int x2), (4, .int x4), (7, .int x7), (8, .int x8), (9, .int x9)] [] (nd_SH ++ t) σ) (x1 : Int32) (x2 : Int32) (x4 : Int32) (x7 : Int32) (x8 : Int32) (x9 : Int32) (σ : nd_Mem) (h : f_X11_meets_131 F rec96 x1 x2 x4 x7 x8 x9 σ = some z) : nd_V M_X11_meets (nd_rm 1) (nd_Pi (nd_SH ++ t) z) 0 0 131 [(0, .ref 60), (1, .int x1), (2, .int x2), (4, .int x4), (7, .int x7), (8, .int x8), (9, .int x9)] [] (nd_SH ++ t) σ := by
  unfold f_X11_meets_131 at h
  refine nd_iload dX11_meets_131 5 rfl ?_
  refine nd_iload_n dX11_meets_133 2 rfl ?_
  refine nd_iconst dX11_meets_134 ic_1 ?_
  refine nd_iadd dX11_meets_135 ?_
  refine nd_iload_n dX11_meets_136 1 rfl ?_
  refine nd_iremN dX11_meets_137 h (fun h => ?_)
  refine nd_isub dX11_meets_138 ?_
  refine nd_iload_n dX11_meets_139 1 rfl ?_
  refine nd_iadd dX11_meets_140 ?_
  refine nd_iload_n dX11_meets_141 1 rfl ?_
  refine nd_iremN dX11_meets_142 h (fun h => ?_)
  refine nd_istore (ls' := [(8, .int (q_rem ((x8 - (q_rem (x2 + (1 : Int32)) x1)) + x1) x1)), (0, .ref 60), (1, .int x1), (2, .int x2), (4, .int x4), (7, .int x7), (9, .int x9)]) dX11_meets_143 (by decide) rfl ?_
  refine nd_iinc (v := (x9 + (1 : Int32))) (ls' := [(9, .int (x9 + (1 : Int32))), (8, .int (q_rem ((x8 - (q_rem (x2 + (1 : Int32)) x1)) + x1) x1)), (0, .ref 60), (1, .int x1), (2, .int x2), (4, .int x4), (7, .int x7)]) dX11_meets_145 6 rfl (congrArg (HAdd.hAdd _) ic_1) (by decide) rfl ?_
  refine nd_goto dX11_meets_148 96 (by decide) ?_
  refine nd_sub [2, 3, 4, 5, 6, 1, 0] rfl ?_
  exact hrec96 _ _ _ _ _ _ _ h
set_option maxRecDepth 100000 in
set_option maxHeartbeats 4000000 in
theorem b_X11_meets_96 (F : Nat) (t : List nd_S) (hL : (nd_SH ++ t).length < nd_ro) {z : Int32 × nd_Mem} (m9 : Nat) : ∀ (x1 : Int32) (x2 : Int32) (x4 : Int32) (x7 : Int32) (x8 : Int32) (x9 : Int32) (σ : nd_Mem), f_X11_meets_96 F m9 x1 x2 x4 x7 x8 x9 σ = some z → nd_V M_X11_meets (nd_rm 1) (nd_Pi (nd_SH ++ t) z) 0 0 96 [(0, .ref 60), (1, .int x1), (2, .int x2), (4, .int x4), (7, .int x7), (8, .int x8), (9, .int x9)] [] (nd_SH ++ t) σ := by
  induction m9 with
  | zero =>
    intro x1 x2 x4 x7 x8 x9 σ h
    have h : none = some z := h
    cases h
  | succ m9 hrec96 =>
    intro x1 x2 x4 x7 x8 x9 σ h
    have h : f_X11_meets_96_b F (f_X11_meets_96 F m9) x1 x2 x4 x7 x8 x9 σ = some z := h
    unfold f_X11_meets_96_b at h
    refine nd_iload dX11_meets_96 6 rfl ?_
    refine nd_iload_n dX11_meets_98 1 rfl ?_
    refine nd_icmp_geN dX11_meets_99 151 (by decide) h (fun h => ?_) (fun h => ?_)
    · refine nd_iload dX11_meets_151 3 rfl ?_
      refine nd_if_neN dX11_meets_153 160 (by decide) h (fun h => ?_) (fun h => ?_)
      · refine nd_iload dX11_meets_160 4 rfl ?_
        exact nd_iret dX11_meets_162 (Nat.zero_le _) (Nat.zero_le _) (vp_nar_int _) (by cases h; exact ⟨rfl, rfl, rfl⟩)
      · refine nd_iconst dX11_meets_156 ic_m1 ?_
        refine nd_goto dX11_meets_157 162 (by decide) ?_
        exact nd_iret dX11_meets_162 (Nat.zero_le _) (Nat.zero_le _) (vp_nar_int _) (by cases h; exact ⟨rfl, rfl, rfl⟩)
    · refine nd_iload dX11_meets_102 5 rfl ?_
      refine nd_if_neN dX11_meets_104 120 (by decide) h (fun h => ?_) (fun h => ?_)
      · refine nd_iload dX11_meets_120 5 rfl ?_
        refine nd_iload_n dX11_meets_122 2 rfl ?_
        refine nd_iconst dX11_meets_123 ic_1 ?_
        refine nd_iadd dX11_meets_124 ?_
        refine nd_icmp_geN dX11_meets_125 131 (by decide) h (fun h => ?_) (fun h => ?_)
        · exact b_X11_meets_131 F _ t hL hrec96 _ _ _ _ _ _ _ h
        · refine nd_iconst dX11_meets_128 ic_1 ?_
          refine nd_istore (ls' := [(7, .int (1 : Int32)), (0, .ref 60), (1, .int x1), (2, .int x2), (4, .int x4), (8, .int x8), (9, .int x9)]) dX11_meets_129 (by decide) rfl ?_
          refine nd_sub [1, 2, 3, 4, 0, 5, 6] rfl ?_
          exact b_X11_meets_131 F _ t hL hrec96 _ _ _ _ _ _ _ h
      · refine nd_iload dX11_meets_107 3 rfl ?_
        refine nd_if_neN dX11_meets_109 117 (by decide) h (fun h => ?_) (fun h => ?_)
        · refine nd_iload dX11_meets_117 4 rfl ?_
          exact nd_iret dX11_meets_119 (Nat.zero_le _) (Nat.zero_le _) (vp_nar_int _) (by cases h; exact ⟨rfl, rfl, rfl⟩)
        · refine nd_iload dX11_meets_112 6 rfl ?_
          refine nd_goto dX11_meets_114 119 (by decide) ?_
          exact nd_iret dX11_meets_119 (Nat.zero_le _) (Nat.zero_le _) (vp_nar_int _) (by cases h; exact ⟨rfl, rfl, rfl⟩)
set_option maxRecDepth 100000 in
set_option maxHeartbeats 4000000 in
theorem t_X11_meets (F : Nat) (t : List nd_S) (hL : (nd_SH ++ t).length < nd_ro) {z : Int32 × nd_Mem} (x1 : Int32) (x2 : Int32) (x3 : Int32) (x4 : Int32) (σ : nd_Mem) (h : f_X11_meets F x1 x2 x3 x4 σ = some z) : nd_Fn M_X11_meets (nd_rm 1) [.ref 60, .int x1, .int x2, .int x3, .int x4] (nd_SH ++ t) σ (nd_Pi (nd_SH ++ t) z) := by
  refine nd_Fn.ofV (ls := [(0, .ref 60), (1, .int x1), (2, .int x2), (3, .int x3), (4, .int x4)]) pl_X11_meets rfl (fun _ => Nat.le_of_ble_eq_true rfl) (fun _ => rfl) ?_
  unfold f_X11_meets at h
  refine nd_aload_n dX11_meets_0 0 rfl ?_
  refine nd_iconst dX11_meets_1 ic_0 ?_
  refine nd_putiN dX11_meets_2 pf_X11_132 (sh_60 t) rfl h (fun σ1 h => ?_)
  refine nd_iload_n dX11_meets_5 3 rfl ?_
  refine nd_sipush dX11_meets_6 is_1000 ?_
  refine nd_idiv dX11_meets_9 (by decide) ?_
  refine nd_istore (ls' := [(5, .int (x3 / (1000 : Int32))), (0, .ref 60), (1, .int x1), (2, .int x2), (3, .int x3), (4, .int x4)]) dX11_meets_10 (by decide) rfl ?_
  refine nd_iload_n dX11_meets_12 4 rfl ?_
  refine nd_sipush dX11_meets_13 is_1000 ?_
  refine nd_irem dX11_meets_16 (by decide) ?_
  refine nd_istore (ls' := [(6, .int (q_rem x3 (1000 : Int32))), (5, .int (x3 / (1000 : Int32))), (0, .ref 60), (1, .int x1), (2, .int x2), (3, .int x3), (4, .int x4)]) dX11_meets_17 (by decide) rfl ?_
  refine nd_aload_n dX11_meets_19 2 rfl ?_
  refine nd_iload_n dX11_meets_20 3 rfl ?_
  refine nd_iconst dX11_meets_21 ic_2 ?_
  refine nd_sipush dX11_meets_22 is_500 ?_
  obtain ⟨r2, σ3, hc4, h⟩ := nd_bind_e h
  refine nd_cvi [.int x1, .int (2 : Int32), .int (500 : Int32)] [] dX11_meets_25 cl_X11_147 (sh_60 t) ⟨Nat.le_of_ble_eq_true rfl, Nat.le_of_ble_eq_true rfl⟩ rfl (Nat.le_of_ble_eq_true rfl) hL (t_X11_isIn F t hL _ _ _ _ hc4) ?_
  refine nd_if_eqN dX11_meets_28 77 (by decide) h (fun h => ?_) (fun h => ?_)
  · refine nd_sub [2] rfl ?_
    exact b_X11_meets_77 F t hL _ h
  · refine nd_aload_n dX11_meets_31 2 rfl ?_
    refine nd_iload_n dX11_meets_32 4 rfl ?_
    refine nd_iconst dX11_meets_33 ic_1 ?_
    refine nd_bipush dX11_meets_34 ib_9 ?_
    obtain ⟨r5, σ6, hc7, h⟩ := nd_bind_e h
    refine nd_cvi [.int x2, .int (1 : Int32), .int (9 : Int32)] [] dX11_meets_36 cl_X11_147 (sh_60 t) ⟨Nat.le_of_ble_eq_true rfl, Nat.le_of_ble_eq_true rfl⟩ rfl (Nat.le_of_ble_eq_true rfl) hL (t_X11_isIn F t hL _ _ _ _ hc7) ?_
    refine nd_if_eqN dX11_meets_39 77 (by decide) h (fun h => ?_) (fun h => ?_)
    · refine nd_sub [2] rfl ?_
      exact b_X11_meets_77 F t hL _ h
    · refine nd_aload_n dX11_meets_42 2 rfl ?_
      refine nd_iload_n dX11_meets_43 5 rfl ?_
      refine nd_iconst dX11_meets_44 ic_0 ?_
      refine nd_ldcw dX11_meets_45 kc_X11_387 ?_
      obtain ⟨r8, σ9, hc10, h⟩ := nd_bind_e h
      refine nd_cvi [.int x3, .int (0 : Int32), .int (499499 : Int32)] [] dX11_meets_48 cl_X11_147 (sh_60 t) ⟨Nat.le_of_ble_eq_true rfl, Nat.le_of_ble_eq_true rfl⟩ rfl (Nat.le_of_ble_eq_true rfl) hL (t_X11_isIn F t hL _ _ _ _ hc10) ?_
      refine nd_if_eqN dX11_meets_51 77 (by decide) h (fun h => ?_) (fun h => ?_)
      · refine nd_sub [2] rfl ?_
        exact b_X11_meets_77 F t hL _ h
      · refine nd_iload dX11_meets_54 1 rfl ?_
        refine nd_iload_n dX11_meets_56 3 rfl ?_
        refine nd_icmp_geN dX11_meets_57 77 (by decide) h (fun h => ?_) (fun h => ?_)
        · refine nd_sub [2] rfl ?_
          exact b_X11_meets_77 F t hL _ h
        · refine nd_iload dX11_meets_60 0 rfl ?_
          refine nd_iload_n dX11_meets_62 3 rfl ?_
          refine nd_icmp_geN dX11_meets_63 77 (by decide) h (fun h => ?_) (fun h => ?_)
          · refine nd_sub [2] rfl ?_
            exact b_X11_meets_77 F t hL _ h
          · refine nd_aload_n dX11_meets_66 2 rfl ?_
            refine nd_iload dX11_meets_67 6 rfl ?_
            refine nd_iconst dX11_meets_69 ic_0 ?_
            refine nd_iconst dX11_meets_70 ic_1 ?_
            obtain ⟨r11, σ12, hc13, h⟩ := nd_bind_e h
            refine nd_cvi [.int x4, .int (0 : Int32), .int (1 : Int32)] [] dX11_meets_71 cl_X11_147 (sh_60 t) ⟨Nat.le_of_ble_eq_true rfl, Nat.le_of_ble_eq_true rfl⟩ rfl (Nat.le_of_ble_eq_true rfl) hL (t_X11_isIn F t hL _ _ _ _ hc13) ?_
            refine nd_if_neN dX11_meets_74 79 (by decide) h (fun h => ?_) (fun h => ?_)
            · refine nd_iconst dX11_meets_79 ic_0 ?_
              refine nd_istore (ls' := [(7, .int (0 : Int32)), (6, .int (q_rem x3 (1000 : Int32))), (5, .int (x3 / (1000 : Int32))), (0, .ref 60), (1, .int x1), (2, .int x2), (3, .int x3), (4, .int x4)]) dX11_meets_80 (by decide) rfl ?_
              refine nd_iload dX11_meets_82 1 rfl ?_
              refine nd_iload dX11_meets_84 2 rfl ?_
              refine nd_isub dX11_meets_86 ?_
              refine nd_iload_n dX11_meets_87 4 rfl ?_
              refine nd_iadd dX11_meets_88 ?_
              refine nd_iload_n dX11_meets_89 4 rfl ?_
              refine nd_iremN dX11_meets_90 h (fun h => ?_)
              refine nd_istore (ls' := [(8, .int (q_rem (((q_rem x3 (1000 : Int32)) - (x3 / (1000 : Int32))) + x1) x1)), (7, .int (0 : Int32)), (6, .int (q_rem x3 (1000 : Int32))), (5, .int (x3 / (1000 : Int32))), (0, .ref 60), (1, .int x1), (2, .int x2), (3, .int x3), (4, .int x4)]) dX11_meets_91 (by decide) rfl ?_
              refine nd_iconst dX11_meets_93 ic_0 ?_
              refine nd_istore (ls' := [(9, .int (0 : Int32)), (8, .int (q_rem (((q_rem x3 (1000 : Int32)) - (x3 / (1000 : Int32))) + x1) x1)), (7, .int (0 : Int32)), (6, .int (q_rem x3 (1000 : Int32))), (5, .int (x3 / (1000 : Int32))), (0, .ref 60), (1, .int x1), (2, .int x2), (3, .int x3), (4, .int x4)]) dX11_meets_94 (by decide) rfl ?_
              refine nd_sub [5, 6, 7, 9, 2, 1, 0] rfl ?_
              exact b_X11_meets_96 F t hL F _ _ _ _ _ _ _ h
            · refine nd_sub [2] rfl ?_
              exact b_X11_meets_77 F t hL _ h
def f_X11_moved_33 (F : Nat) (σ : nd_Mem) : nd_Res := (some ((0 : Int32), σ))
def f_X11_moved_62 (F : Nat) (s0 : Int32) (s1 : Int32) (σ : nd_Mem) : nd_Res := (if s1 < 0 ∨ 10 ≤ (s1).toNatClampNeg then none else (nd_let (nd_up σ 95 (s1).toNatClampNeg s0) fun σ1 => (some ((1 : Int32), σ1))))
def f_X11_moved (F : Nat) (x1 : Int32) (x2 : Int32) (σ : nd_Mem) : nd_Res := (nd_let (nd_up σ 60 0 (0 : Int32)) fun σ1 => (nd_bind (f_X11_isIn F x1 (0 : Int32) (9 : Int32) σ1) fun r2 σ3 => (if r2 = 0 then (f_X11_moved_33 F σ3) else (nd_bind (f_X11_isIn F x2 (-2 : Int32) (9 : Int32) σ3) fun r5 σ6 => (if r5 = 0 then (f_X11_moved_33 F σ6) else (if x1 = x2 then (f_X11_moved_33 F σ6) else (if x2 = (-1 : Int32) then (f_X11_moved_62 F (0 : Int32) x1 σ6) else (if x2 = (-2 : Int32) then (f_X11_moved_62 F (1 : Int32) x1 σ6) else (f_X11_moved_62 F (x2 + (2 : Int32)) x1 σ6)))))))))
set_option maxRecDepth 100000 in
set_option maxHeartbeats 4000000 in
theorem b_X11_moved_33 (F : Nat) (t : List nd_S) (hL : (nd_SH ++ t).length < nd_ro) {z : Int32 × nd_Mem} (σ : nd_Mem) (h : f_X11_moved_33 F σ = some z) : nd_V M_X11_moved (nd_rm 1) (nd_Pi (nd_SH ++ t) z) 0 0 33 [(0, .ref 60)] [] (nd_SH ++ t) σ := by
  unfold f_X11_moved_33 at h
  refine nd_iconst dX11_moved_33 ic_0 ?_
  exact nd_iret dX11_moved_34 (Nat.zero_le _) (Nat.zero_le _) rfl (by cases h; exact ⟨rfl, rfl, rfl⟩)
set_option maxRecDepth 100000 in
set_option maxHeartbeats 4000000 in
theorem b_X11_moved_62 (F : Nat) (t : List nd_S) (hL : (nd_SH ++ t).length < nd_ro) {z : Int32 × nd_Mem} (s0 : Int32) (s1 : Int32) (σ : nd_Mem) (h : f_X11_moved_62 F s0 s1 σ = some z) : nd_V M_X11_moved (nd_rm 1) (nd_Pi (nd_SH ++ t) z) 0 0 62 [(0, .ref 60)] [.int s0, .int s1, .ref 95] (nd_SH ++ t) σ := by
  unfold f_X11_moved_62 at h
  refine nd_iastoreN dX11_moved_62 (sh_95 t) h (fun σ1 h => ?_)
  refine nd_iconst dX11_moved_63 ic_1 ?_
  exact nd_iret dX11_moved_64 (Nat.zero_le _) (Nat.zero_le _) rfl (by cases h; exact ⟨rfl, rfl, rfl⟩)
set_option maxRecDepth 100000 in
set_option maxHeartbeats 4000000 in
theorem t_X11_moved (F : Nat) (t : List nd_S) (hL : (nd_SH ++ t).length < nd_ro) {z : Int32 × nd_Mem} (x1 : Int32) (x2 : Int32) (σ : nd_Mem) (h : f_X11_moved F x1 x2 σ = some z) : nd_Fn M_X11_moved (nd_rm 1) [.ref 60, .int x1, .int x2] (nd_SH ++ t) σ (nd_Pi (nd_SH ++ t) z) := by
  refine nd_Fn.ofV (ls := [(0, .ref 60), (1, .int x1), (2, .int x2)]) pl_X11_moved rfl (fun _ => Nat.le_of_ble_eq_true rfl) (fun _ => rfl) ?_
  unfold f_X11_moved at h
  refine nd_aload_n dX11_moved_0 0 rfl ?_
  refine nd_iconst dX11_moved_1 ic_0 ?_
  refine nd_putiN dX11_moved_2 pf_X11_132 (sh_60 t) rfl h (fun σ1 h => ?_)
  refine nd_aload_n dX11_moved_5 0 rfl ?_
  refine nd_iload_n dX11_moved_6 1 rfl ?_
  refine nd_iconst dX11_moved_7 ic_0 ?_
  refine nd_bipush dX11_moved_8 ib_9 ?_
  obtain ⟨r2, σ3, hc4, h⟩ := nd_bind_e h
  refine nd_cvi [.int x1, .int (0 : Int32), .int (9 : Int32)] [] dX11_moved_10 cl_X11_147 (sh_60 t) ⟨Nat.le_of_ble_eq_true rfl, Nat.le_of_ble_eq_true rfl⟩ rfl (Nat.le_of_ble_eq_true rfl) hL (t_X11_isIn F t hL _ _ _ _ hc4) ?_
  refine nd_if_eqN dX11_moved_13 33 (by decide) h (fun h => ?_) (fun h => ?_)
  · refine nd_sub [0] rfl ?_
    exact b_X11_moved_33 F t hL _ h
  · refine nd_aload_n dX11_moved_16 0 rfl ?_
    refine nd_iload_n dX11_moved_17 2 rfl ?_
    refine nd_bipush dX11_moved_18 ib_m2 ?_
    refine nd_bipush dX11_moved_20 ib_9 ?_
    obtain ⟨r5, σ6, hc7, h⟩ := nd_bind_e h
    refine nd_cvi [.int x2, .int (-2 : Int32), .int (9 : Int32)] [] dX11_moved_22 cl_X11_147 (sh_60 t) ⟨Nat.le_of_ble_eq_true rfl, Nat.le_of_ble_eq_true rfl⟩ rfl (Nat.le_of_ble_eq_true rfl) hL (t_X11_isIn F t hL _ _ _ _ hc7) ?_
    refine nd_if_eqN dX11_moved_25 33 (by decide) h (fun h => ?_) (fun h => ?_)
    · refine nd_sub [0] rfl ?_
      exact b_X11_moved_33 F t hL _ h
    · refine nd_iload_n dX11_moved_28 1 rfl ?_
      refine nd_iload_n dX11_moved_29 2 rfl ?_
      refine nd_icmp_neN dX11_moved_30 35 (by decide) h (fun h => ?_) (fun h => ?_)
      · refine nd_aload_n dX11_moved_35 0 rfl ?_
        refine nd_get dX11_moved_36 gf_X11_116 (sh_60 t) rfl ?_
        refine nd_iload_n dX11_moved_39 1 rfl ?_
        refine nd_iload_n dX11_moved_40 2 rfl ?_
        refine nd_iconst dX11_moved_41 ic_m1 ?_
        refine nd_icmp_neN dX11_moved_42 49 (by decide) h (fun h => ?_) (fun h => ?_)
        · refine nd_iload_n dX11_moved_49 2 rfl ?_
          refine nd_bipush dX11_moved_50 ib_m2 ?_
          refine nd_icmp_neN dX11_moved_52 59 (by decide) h (fun h => ?_) (fun h => ?_)
          · refine nd_iload_n dX11_moved_59 2 rfl ?_
            refine nd_iconst dX11_moved_60 ic_2 ?_
            refine nd_iadd dX11_moved_61 ?_
            refine nd_sub [0] rfl ?_
            exact b_X11_moved_62 F t hL _ _ _ h
          · refine nd_iconst dX11_moved_55 ic_1 ?_
            refine nd_goto dX11_moved_56 62 (by decide) ?_
            refine nd_sub [0] rfl ?_
            exact b_X11_moved_62 F t hL _ _ _ h
        · refine nd_iconst dX11_moved_45 ic_0 ?_
          refine nd_goto dX11_moved_46 62 (by decide) ?_
          refine nd_sub [0] rfl ?_
          exact b_X11_moved_62 F t hL _ _ _ h
      · refine nd_sub [0] rfl ?_
        exact b_X11_moved_33 F t hL _ h
def f_X11_nextOf_49 (F : Nat) (x3 : Int32) (σ : nd_Mem) : nd_Res := (nd_bind (f_X11_isHouse F x3 σ) fun r1 σ2 => (if r1 = 0 then (some ((-1 : Int32), σ2)) else (some (x3, σ2))))
def f_X11_nextOf_19_b (F : Nat) (rec19 : Int32 → Int32 → Int32 → nd_Mem → nd_Res) (x1 : Int32) (x2 : Int32) (x3 : Int32) (σ : nd_Mem) : nd_Res := (nd_bind (f_X11_isHouse F x3 σ) fun r1 σ2 => (if r1 = 0 then (f_X11_nextOf_49 F x3 σ2) else (if x3 < 0 ∨ 32 ≤ (x3).toNatClampNeg then none else (if x1 < 0 ∨ 32 ≤ (x1).toNatClampNeg then none else (if (σ2 77 (x3).toNatClampNeg) = (σ2 77 (x1).toNatClampNeg) then (f_X11_nextOf_49 F x3 σ2) else (rec19 x1 x2 (x3 + x2) σ2))))))
def f_X11_nextOf_19 (F : Nat) : Nat → Int32 → Int32 → Int32 → nd_Mem → nd_Res
  | 0, _, _, _, _ => none
  | m9 + 1, x1, x2, x3, σ => f_X11_nextOf_19_b F (f_X11_nextOf_19 F m9) x1 x2 x3 σ
def f_X11_nextOf_14 (F : Nat) (x1 : Int32) (s0 : Int32) (σ : nd_Mem) : nd_Res := (f_X11_nextOf_19 F F x1 s0 (x1 + s0) σ)
def f_X11_nextOf (F : Nat) (x1 : Int32) (σ : nd_Mem) : nd_Res := (if x1 < 0 ∨ 32 ≤ (x1).toNatClampNeg then none else (if (σ 77 (x1).toNatClampNeg) = 0 then (f_X11_nextOf_14 F x1 (1 : Int32) σ) else (f_X11_nextOf_14 F x1 (-1 : Int32) σ)))
set_option maxRecDepth 100000 in
set_option maxHeartbeats 4000000 in
theorem b_X11_nextOf_49 (F : Nat) (t : List nd_S) (hL : (nd_SH ++ t).length < nd_ro) {z : Int32 × nd_Mem} (x3 : Int32) (σ : nd_Mem) (h : f_X11_nextOf_49 F x3 σ = some z) : nd_V M_X11_nextOf (nd_rm 1) (nd_Pi (nd_SH ++ t) z) 0 0 49 [(0, .ref 60), (3, .int x3)] [] (nd_SH ++ t) σ := by
  unfold f_X11_nextOf_49 at h
  refine nd_aload_n dX11_nextOf_49 0 rfl ?_
  refine nd_iload_n dX11_nextOf_50 1 rfl ?_
  obtain ⟨r1, σ2, hc3, h⟩ := nd_bind_e h
  refine nd_cvi [.int x3] [] dX11_nextOf_51 cl_X11_151 (sh_60 t) ⟨Nat.le_of_ble_eq_true rfl, Nat.le_of_ble_eq_true rfl⟩ rfl (Nat.le_of_ble_eq_true rfl) hL (t_X11_isHouse F t hL _ _ hc3) ?_
  refine nd_if_eqN dX11_nextOf_54 61 (by decide) h (fun h => ?_) (fun h => ?_)
  · refine nd_iconst dX11_nextOf_61 ic_m1 ?_
    exact nd_iret dX11_nextOf_62 (Nat.zero_le _) (Nat.zero_le _) (vp_nar_int _) (by cases h; exact ⟨rfl, rfl, rfl⟩)
  · refine nd_iload_n dX11_nextOf_57 1 rfl ?_
    refine nd_goto dX11_nextOf_58 62 (by decide) ?_
    exact nd_iret dX11_nextOf_62 (Nat.zero_le _) (Nat.zero_le _) (vp_nar_int _) (by cases h; exact ⟨rfl, rfl, rfl⟩)
set_option maxRecDepth 100000 in
set_option maxHeartbeats 4000000 in
theorem b_X11_nextOf_19 (F : Nat) (t : List nd_S) (hL : (nd_SH ++ t).length < nd_ro) {z : Int32 × nd_Mem} (m9 : Nat) : ∀ (x1 : Int32) (x2 : Int32) (x3 : Int32) (σ : nd_Mem), f_X11_nextOf_19 F m9 x1 x2 x3 σ = some z → nd_V M_X11_nextOf (nd_rm 1) (nd_Pi (nd_SH ++ t) z) 0 0 19 [(0, .ref 60), (1, .int x1), (2, .int x2), (3, .int x3)] [] (nd_SH ++ t) σ := by
  induction m9 with
  | zero =>
    intro x1 x2 x3 σ h
    have h : none = some z := h
    cases h
  | succ m9 hrec19 =>
    intro x1 x2 x3 σ h
    have h : f_X11_nextOf_19_b F (f_X11_nextOf_19 F m9) x1 x2 x3 σ = some z := h
    unfold f_X11_nextOf_19_b at h
    refine nd_aload_n dX11_nextOf_19 0 rfl ?_
    refine nd_iload_n dX11_nextOf_20 3 rfl ?_
    obtain ⟨r1, σ2, hc3, h⟩ := nd_bind_e h
    refine nd_cvi [.int x3] [] dX11_nextOf_21 cl_X11_151 (sh_60 t) ⟨Nat.le_of_ble_eq_true rfl, Nat.le_of_ble_eq_true rfl⟩ rfl (Nat.le_of_ble_eq_true rfl) hL (t_X11_isHouse F t hL _ _ hc3) ?_
    refine nd_if_eqN dX11_nextOf_24 49 (by decide) h (fun h => ?_) (fun h => ?_)
    · refine nd_sub [0, 3] rfl ?_
      exact b_X11_nextOf_49 F t hL _ _ h
    · refine nd_aload_n dX11_nextOf_27 0 rfl ?_
      refine nd_get dX11_nextOf_28 gf_X11_62 (sh_60 t) rfl ?_
      refine nd_iload_n dX11_nextOf_31 3 rfl ?_
      refine nd_ialoadN dX11_nextOf_32 (sh_77 t) h (fun h => ?_)
      refine nd_aload_n dX11_nextOf_33 0 rfl ?_
      refine nd_get dX11_nextOf_34 gf_X11_62 (sh_60 t) rfl ?_
      refine nd_iload_n dX11_nextOf_37 1 rfl ?_
      refine nd_ialoadN dX11_nextOf_38 (sh_77 t) h (fun h => ?_)
      refine nd_icmp_eqN dX11_nextOf_39 49 (by decide) h (fun h => ?_) (fun h => ?_)
      · refine nd_sub [0, 3] rfl ?_
        exact b_X11_nextOf_49 F t hL _ _ h
      · refine nd_iload_n dX11_nextOf_42 3 rfl ?_
        refine nd_iload_n dX11_nextOf_43 2 rfl ?_
        refine nd_iadd dX11_nextOf_44 ?_
        refine nd_istore_n (ls' := [(3, .int (x3 + x2)), (0, .ref 60), (1, .int x1), (2, .int x2)]) dX11_nextOf_45 (by decide) rfl ?_
        refine nd_goto dX11_nextOf_46 19 (by decide) ?_
        refine nd_sub [1, 2, 3, 0] rfl ?_
        exact hrec19 _ _ _ _ h
set_option maxRecDepth 100000 in
set_option maxHeartbeats 4000000 in
theorem b_X11_nextOf_14 (F : Nat) (t : List nd_S) (hL : (nd_SH ++ t).length < nd_ro) {z : Int32 × nd_Mem} (x1 : Int32) (s0 : Int32) (σ : nd_Mem) (h : f_X11_nextOf_14 F x1 s0 σ = some z) : nd_V M_X11_nextOf (nd_rm 1) (nd_Pi (nd_SH ++ t) z) 0 0 14 [(0, .ref 60), (1, .int x1)] [.int s0] (nd_SH ++ t) σ := by
  unfold f_X11_nextOf_14 at h
  refine nd_istore_n (ls' := [(2, .int s0), (0, .ref 60), (1, .int x1)]) dX11_nextOf_14 (by decide) rfl ?_
  refine nd_iload_n dX11_nextOf_15 2 rfl ?_
  refine nd_iload_n dX11_nextOf_16 0 rfl ?_
  refine nd_iadd dX11_nextOf_17 ?_
  refine nd_istore_n (ls' := [(3, .int (x1 + s0)), (2, .int s0), (0, .ref 60), (1, .int x1)]) dX11_nextOf_18 (by decide) rfl ?_
  refine nd_sub [2, 3, 1, 0] rfl ?_
  exact b_X11_nextOf_19 F t hL F _ _ _ _ h
set_option maxRecDepth 100000 in
set_option maxHeartbeats 4000000 in
theorem t_X11_nextOf (F : Nat) (t : List nd_S) (hL : (nd_SH ++ t).length < nd_ro) {z : Int32 × nd_Mem} (x1 : Int32) (σ : nd_Mem) (h : f_X11_nextOf F x1 σ = some z) : nd_Fn M_X11_nextOf (nd_rm 1) [.ref 60, .int x1] (nd_SH ++ t) σ (nd_Pi (nd_SH ++ t) z) := by
  refine nd_Fn.ofV (ls := [(0, .ref 60), (1, .int x1)]) pl_X11_nextOf rfl (fun _ => Nat.le_of_ble_eq_true rfl) (fun _ => rfl) ?_
  unfold f_X11_nextOf at h
  refine nd_aload_n dX11_nextOf_0 0 rfl ?_
  refine nd_get dX11_nextOf_1 gf_X11_62 (sh_60 t) rfl ?_
  refine nd_iload_n dX11_nextOf_4 1 rfl ?_
  refine nd_ialoadN dX11_nextOf_5 (sh_77 t) h (fun h => ?_)
  refine nd_if_neN dX11_nextOf_6 13 (by decide) h (fun h => ?_) (fun h => ?_)
  · refine nd_iconst dX11_nextOf_13 ic_m1 ?_
    exact b_X11_nextOf_14 F t hL _ _ _ h
  · refine nd_iconst dX11_nextOf_9 ic_1 ?_
    refine nd_goto dX11_nextOf_10 14 (by decide) ?_
    exact b_X11_nextOf_14 F t hL _ _ _ h
def f_X11_person_82 (F : Nat) (σ : nd_Mem) : nd_Res := (some ((-1 : Int32), σ))
def f_X11_person_73 (F : Nat) (x1 : Int32) (x2 : Int32) (σ : nd_Mem) : nd_Res := (if (σ 60 54) = (14 : Int32) then (f_X11_person_82 F σ) else (if (σ 60 54) < 0 ∨ 14 ≤ ((σ 60 54)).toNatClampNeg then none else (nd_let (nd_up σ 92 ((σ 60 54)).toNatClampNeg (x1 + (1 : Int32))) fun σ1 => (if (σ1 60 54) < 0 ∨ 14 ≤ ((σ1 60 54)).toNatClampNeg then none else (nd_let (nd_up σ1 93 ((σ1 60 54)).toNatClampNeg (x2 + (1 : Int32))) fun σ2 => (nd_let (nd_up σ2 60 54 ((σ2 60 54) + (1 : Int32))) fun σ3 => (some (((σ3 60 54) - (1 : Int32)), σ3))))))))
def f_X11_person_33 (F : Nat) (x1 : Int32) (x2 : Int32) (s0 : Int32) (σ : nd_Mem) : nd_Res := (if s0 = 0 then (nd_bind (f_X11_isIn F x1 (0 : Int32) ((σ 60 54) - (1 : Int32)) σ) fun r1 σ2 => (if r1 = 0 then (f_X11_person_82 F σ2) else (nd_bind (f_X11_isIn F x2 (0 : Int32) ((σ2 60 54) - (1 : Int32)) σ2) fun r4 σ5 => (if r4 = 0 then (f_X11_person_82 F σ5) else (if x1 = x2 then (f_X11_person_82 F σ5) else (f_X11_person_73 F x1 x2 σ5)))))) else (f_X11_person_73 F x1 x2 σ))
def f_X11_person_32 (F : Nat) (x1 : Int32) (x2 : Int32) (σ : nd_Mem) : nd_Res := (f_X11_person_33 F x1 x2 (0 : Int32) σ)
def f_X11_person (F : Nat) (x1 : Int32) (x2 : Int32) (σ : nd_Mem) : nd_Res := (nd_let (nd_up σ 60 0 (0 : Int32)) fun σ1 => (if x1 = (-10 : Int32) then (nd_let (nd_up σ1 60 54 (0 : Int32)) fun σ2 => (some ((0 : Int32), σ2))) else (if x1 = (-1 : Int32) then (if x2 = (-1 : Int32) then (f_X11_person_33 F x1 x2 (1 : Int32) σ1) else (f_X11_person_32 F x1 x2 σ1)) else (f_X11_person_32 F x1 x2 σ1))))
set_option maxRecDepth 100000 in
set_option maxHeartbeats 4000000 in
theorem b_X11_person_82 (F : Nat) (t : List nd_S) (hL : (nd_SH ++ t).length < nd_ro) {z : Int32 × nd_Mem} (σ : nd_Mem) (h : f_X11_person_82 F σ = some z) : nd_V M_X11_person (nd_rm 1) (nd_Pi (nd_SH ++ t) z) 0 0 82 [(0, .ref 60)] [] (nd_SH ++ t) σ := by
  unfold f_X11_person_82 at h
  refine nd_iconst dX11_person_82 ic_m1 ?_
  exact nd_iret dX11_person_83 (Nat.zero_le _) (Nat.zero_le _) (vp_nar_int _) (by cases h; exact ⟨rfl, rfl, rfl⟩)
set_option maxRecDepth 100000 in
set_option maxHeartbeats 4000000 in
theorem b_X11_person_73 (F : Nat) (t : List nd_S) (hL : (nd_SH ++ t).length < nd_ro) {z : Int32 × nd_Mem} (x1 : Int32) (x2 : Int32) (σ : nd_Mem) (h : f_X11_person_73 F x1 x2 σ = some z) : nd_V M_X11_person (nd_rm 1) (nd_Pi (nd_SH ++ t) z) 0 0 73 [(0, .ref 60), (1, .int x1), (2, .int x2)] [] (nd_SH ++ t) σ := by
  unfold f_X11_person_73 at h
  refine nd_aload_n dX11_person_73 0 rfl ?_
  refine nd_get dX11_person_74 gf_X11_438 (sh_60 t) rfl ?_
  refine nd_bipush dX11_person_77 ib_14 ?_
  refine nd_icmp_neN dX11_person_79 84 (by decide) h (fun h => ?_) (fun h => ?_)
  · refine nd_aload_n dX11_person_84 0 rfl ?_
    refine nd_get dX11_person_85 gf_X11_107 (sh_60 t) rfl ?_
    refine nd_aload_n dX11_person_88 0 rfl ?_
    refine nd_get dX11_person_89 gf_X11_438 (sh_60 t) rfl ?_
    refine nd_iload_n dX11_person_92 1 rfl ?_
    refine nd_iconst dX11_person_93 ic_1 ?_
    refine nd_iadd dX11_person_94 ?_
    refine nd_iastoreN dX11_person_95 (sh_92 t) h (fun σ1 h => ?_)
    refine nd_aload_n dX11_person_96 0 rfl ?_
    refine nd_get dX11_person_97 gf_X11_110 (sh_60 t) rfl ?_
    refine nd_aload_n dX11_person_100 0 rfl ?_
    refine nd_get dX11_person_101 gf_X11_438 (sh_60 t) rfl ?_
    refine nd_iload_n dX11_person_104 2 rfl ?_
    refine nd_iconst dX11_person_105 ic_1 ?_
    refine nd_iadd dX11_person_106 ?_
    refine nd_iastoreN dX11_person_107 (sh_93 t) h (fun σ2 h => ?_)
    refine nd_aload_n dX11_person_108 0 rfl ?_
    refine nd_aload_n dX11_person_109 0 rfl ?_
    refine nd_get dX11_person_110 gf_X11_438 (sh_60 t) rfl ?_
    refine nd_iconst dX11_person_113 ic_1 ?_
    refine nd_iadd dX11_person_114 ?_
    refine nd_putiN dX11_person_115 pf_X11_438 (sh_60 t) rfl h (fun σ3 h => ?_)
    refine nd_aload_n dX11_person_118 0 rfl ?_
    refine nd_get dX11_person_119 gf_X11_438 (sh_60 t) rfl ?_
    refine nd_iconst dX11_person_122 ic_1 ?_
    refine nd_isub dX11_person_123 ?_
    exact nd_iret dX11_person_124 (Nat.zero_le _) (Nat.zero_le _) (vp_nar_int _) (by cases h; exact ⟨rfl, rfl, rfl⟩)
  · refine nd_sub [0] rfl ?_
    exact b_X11_person_82 F t hL _ h
set_option maxRecDepth 100000 in
set_option maxHeartbeats 4000000 in
theorem b_X11_person_33 (F : Nat) (t : List nd_S) (hL : (nd_SH ++ t).length < nd_ro) {z : Int32 × nd_Mem} (x1 : Int32) (x2 : Int32) (s0 : Int32) (σ : nd_Mem) (h : f_X11_person_33 F x1 x2 s0 σ = some z) : nd_V M_X11_person (nd_rm 1) (nd_Pi (nd_SH ++ t) z) 0 0 33 [(0, .ref 60), (1, .int x1), (2, .int x2)] [.int s0] (nd_SH ++ t) σ := by
  unfold f_X11_person_33 at h
  refine nd_istore_n (ls' := [(3, .int s0), (0, .ref 60), (1, .int x1), (2, .int x2)]) dX11_person_33 (by decide) rfl ?_
  refine nd_iload_n dX11_person_34 0 rfl ?_
  refine nd_if_neN dX11_person_35 73 (by decide) h (fun h => ?_) (fun h => ?_)
  · refine nd_sub [1, 2, 3] rfl ?_
    exact b_X11_person_73 F t hL _ _ _ h
  · refine nd_aload_n dX11_person_38 1 rfl ?_
    refine nd_iload_n dX11_person_39 2 rfl ?_
    refine nd_iconst dX11_person_40 ic_0 ?_
    refine nd_aload_n dX11_person_41 1 rfl ?_
    refine nd_get dX11_person_42 gf_X11_438 (sh_60 t) rfl ?_
    refine nd_iconst dX11_person_45 ic_1 ?_
    refine nd_isub dX11_person_46 ?_
    obtain ⟨r1, σ2, hc3, h⟩ := nd_bind_e h
    refine nd_cvi [.int x1, .int (0 : Int32), .int ((σ 60 54) - (1 : Int32))] [] dX11_person_47 cl_X11_147 (sh_60 t) ⟨Nat.le_of_ble_eq_true rfl, Nat.le_of_ble_eq_true rfl⟩ rfl (Nat.le_of_ble_eq_true rfl) hL (t_X11_isIn F t hL _ _ _ _ hc3) ?_
    refine nd_if_eqN dX11_person_50 82 (by decide) h (fun h => ?_) (fun h => ?_)
    · refine nd_sub [1] rfl ?_
      exact b_X11_person_82 F t hL _ h
    · refine nd_aload_n dX11_person_53 1 rfl ?_
      refine nd_iload_n dX11_person_54 3 rfl ?_
      refine nd_iconst dX11_person_55 ic_0 ?_
      refine nd_aload_n dX11_person_56 1 rfl ?_
      refine nd_get dX11_person_57 gf_X11_438 (sh_60 t) rfl ?_
      refine nd_iconst dX11_person_60 ic_1 ?_
      refine nd_isub dX11_person_61 ?_
      obtain ⟨r4, σ5, hc6, h⟩ := nd_bind_e h
      refine nd_cvi [.int x2, .int (0 : Int32), .int ((σ2 60 54) - (1 : Int32))] [] dX11_person_62 cl_X11_147 (sh_60 t) ⟨Nat.le_of_ble_eq_true rfl, Nat.le_of_ble_eq_true rfl⟩ rfl (Nat.le_of_ble_eq_true rfl) hL (t_X11_isIn F t hL _ _ _ _ hc6) ?_
      refine nd_if_eqN dX11_person_65 82 (by decide) h (fun h => ?_) (fun h => ?_)
      · refine nd_sub [1] rfl ?_
        exact b_X11_person_82 F t hL _ h
      · refine nd_iload_n dX11_person_68 2 rfl ?_
        refine nd_iload_n dX11_person_69 3 rfl ?_
        refine nd_icmp_eqN dX11_person_70 82 (by decide) h (fun h => ?_) (fun h => ?_)
        · refine nd_sub [1] rfl ?_
          exact b_X11_person_82 F t hL _ h
        · refine nd_sub [1, 2, 3] rfl ?_
          exact b_X11_person_73 F t hL _ _ _ h
set_option maxRecDepth 100000 in
set_option maxHeartbeats 4000000 in
theorem b_X11_person_32 (F : Nat) (t : List nd_S) (hL : (nd_SH ++ t).length < nd_ro) {z : Int32 × nd_Mem} (x1 : Int32) (x2 : Int32) (σ : nd_Mem) (h : f_X11_person_32 F x1 x2 σ = some z) : nd_V M_X11_person (nd_rm 1) (nd_Pi (nd_SH ++ t) z) 0 0 32 [(0, .ref 60), (1, .int x1), (2, .int x2)] [] (nd_SH ++ t) σ := by
  unfold f_X11_person_32 at h
  refine nd_iconst dX11_person_32 ic_0 ?_
  exact b_X11_person_33 F t hL _ _ _ _ h
set_option maxRecDepth 100000 in
set_option maxHeartbeats 4000000 in
theorem t_X11_person (F : Nat) (t : List nd_S) (hL : (nd_SH ++ t).length < nd_ro) {z : Int32 × nd_Mem} (x1 : Int32) (x2 : Int32) (σ : nd_Mem) (h : f_X11_person F x1 x2 σ = some z) : nd_Fn M_X11_person (nd_rm 1) [.ref 60, .int x1, .int x2] (nd_SH ++ t) σ (nd_Pi (nd_SH ++ t) z) := by
  refine nd_Fn.ofV (ls := [(0, .ref 60), (1, .int x1), (2, .int x2)]) pl_X11_person rfl (fun _ => Nat.le_of_ble_eq_true rfl) (fun _ => rfl) ?_
  unfold f_X11_person at h
  refine nd_aload_n dX11_person_0 0 rfl ?_
  refine nd_iconst dX11_person_1 ic_0 ?_
  refine nd_putiN dX11_person_2 pf_X11_132 (sh_60 t) rfl h (fun σ1 h => ?_)
  refine nd_iload_n dX11_person_5 1 rfl ?_
  refine nd_bipush dX11_person_6 ib_m10 ?_
  refine nd_icmp_neN dX11_person_8 18 (by decide) h (fun h => ?_) (fun h => ?_)
  · refine nd_iload_n dX11_person_18 1 rfl ?_
    refine nd_iconst dX11_person_19 ic_m1 ?_
    refine nd_icmp_neN dX11_person_20 32 (by decide) h (fun h => ?_) (fun h => ?_)
    · exact b_X11_person_32 F t hL _ _ _ h
    · refine nd_iload_n dX11_person_23 2 rfl ?_
      refine nd_iconst dX11_person_24 ic_m1 ?_
      refine nd_icmp_neN dX11_person_25 32 (by decide) h (fun h => ?_) (fun h => ?_)
      · exact b_X11_person_32 F t hL _ _ _ h
      · refine nd_iconst dX11_person_28 ic_1 ?_
        refine nd_goto dX11_person_29 33 (by decide) ?_
        exact b_X11_person_33 F t hL _ _ _ _ h
  · refine nd_aload_n dX11_person_11 0 rfl ?_
    refine nd_iconst dX11_person_12 ic_0 ?_
    refine nd_putiN dX11_person_13 pf_X11_438 (sh_60 t) rfl h (fun σ2 h => ?_)
    refine nd_iconst dX11_person_16 ic_0 ?_
    exact nd_iret dX11_person_17 (Nat.zero_le _) (Nat.zero_le _) (vp_nar_int _) (by cases h; exact ⟨rfl, rfl, rfl⟩)
def f_X11_planned_88 (F : Nat) (rec53 : Int32 → Int32 → Int32 → Int32 → nd_Mem → nd_Res) (x1 : Int32) (x2 : Int32) (x3 : Int32) (x4 : Int32) (σ : nd_Mem) : nd_Res := (rec53 x1 x2 x3 (x4 + (1 : Int32)) σ)
def f_X11_planned_53_b (F : Nat) (rec53 : Int32 → Int32 → Int32 → Int32 → nd_Mem → nd_Res) (x1 : Int32) (x2 : Int32) (x3 : Int32) (x4 : Int32) (σ : nd_Mem) : nd_Res := (if ((1 : Int32) <<< ((σ 60 40) &&& 31)) ≤ x4 then (some (x3, σ)) else (nd_bind (f_X11_isPlan F x4 x1 σ) fun r1 σ2 => (if r1 = 0 then (f_X11_planned_88 F rec53 x1 x2 x3 x4 σ2) else (nd_bind (f_X11_onesOf F (x4 ^^^ x2) σ2) fun r4 σ5 => (nd_bind (f_X11_lesser F x3 r4 σ5) fun r7 σ8 => (f_X11_planned_88 F rec53 x1 x2 r7 x4 σ8))))))
def f_X11_planned_53 (F : Nat) : Nat → Int32 → Int32 → Int32 → Int32 → nd_Mem → nd_Res
  | 0, _, _, _, _, _ => none
  | m9 + 1, x1, x2, x3, x4, σ => f_X11_planned_53_b F (f_X11_planned_53 F m9) x1 x2 x3 x4 σ
def f_X11_planned_21_b (F : Nat) (rec21 : Int32 → Int32 → Int32 → nd_Mem → nd_Res) (x1 : Int32) (x2 : Int32) (x3 : Int32) (σ : nd_Mem) : nd_Res := (if (σ 60 40) ≤ x3 then (f_X11_planned_53 F F x1 x2 (100000000 : Int32) (0 : Int32) σ) else (if x3 < 0 ∨ 12 ≤ (x3).toNatClampNeg then none else (rec21 x1 (x2 ||| ((σ 81 (x3).toNatClampNeg) <<< (x3 &&& 31))) (x3 + (1 : Int32)) σ)))
def f_X11_planned_21 (F : Nat) : Nat → Int32 → Int32 → Int32 → nd_Mem → nd_Res
  | 0, _, _, _, _ => none
  | m9 + 1, x1, x2, x3, σ => f_X11_planned_21_b F (f_X11_planned_21 F m9) x1 x2 x3 σ
def f_X11_planned (F : Nat) (x1 : Int32) (σ : nd_Mem) : nd_Res := (nd_let (nd_up σ 60 0 (0 : Int32)) fun σ1 => (nd_bind (f_X11_isIn F x1 (0 : Int32) (1 : Int32) σ1) fun r2 σ3 => (if r2 = 0 then (some ((-1 : Int32), σ3)) else (f_X11_planned_21 F F x1 (0 : Int32) (0 : Int32) σ3))))
set_option maxRecDepth 100000 in
set_option maxHeartbeats 4000000 in
theorem b_X11_planned_88 (F : Nat) (rec53 : Int32 → Int32 → Int32 → Int32 → nd_Mem → nd_Res) (t : List nd_S) (hL : (nd_SH ++ t).length < nd_ro) {z : Int32 × nd_Mem} (hrec53 : ∀ (x1 : Int32) (x2 : Int32) (x3 : Int32) (x4 : Int32) (σ : nd_Mem), rec53 x1 x2 x3 x4 σ = some z → nd_V M_X11_planned (nd_rm 1) (nd_Pi (nd_SH ++ t) z) 0 0 53 [(0, .ref 60), (1, .int x1), (2, .int x2), (3, .int x3), (4, .int x4)] [] (nd_SH ++ t) σ) (x1 : Int32) (x2 : Int32) (x3 : Int32) (x4 : Int32) (σ : nd_Mem) (h : f_X11_planned_88 F rec53 x1 x2 x3 x4 σ = some z) : nd_V M_X11_planned (nd_rm 1) (nd_Pi (nd_SH ++ t) z) 0 0 88 [(0, .ref 60), (1, .int x1), (2, .int x2), (3, .int x3), (4, .int x4)] [] (nd_SH ++ t) σ := by
  unfold f_X11_planned_88 at h
  refine nd_iinc (v := (x4 + (1 : Int32))) (ls' := [(4, .int (x4 + (1 : Int32))), (0, .ref 60), (1, .int x1), (2, .int x2), (3, .int x3)]) dX11_planned_88 4 rfl (congrArg (HAdd.hAdd _) ic_1) (by decide) rfl ?_
  refine nd_goto dX11_planned_91 53 (by decide) ?_
  refine nd_sub [1, 2, 3, 4, 0] rfl ?_
  exact hrec53 _ _ _ _ _ h
set_option maxRecDepth 100000 in
set_option maxHeartbeats 4000000 in
theorem b_X11_planned_53 (F : Nat) (t : List nd_S) (hL : (nd_SH ++ t).length < nd_ro) {z : Int32 × nd_Mem} (m9 : Nat) : ∀ (x1 : Int32) (x2 : Int32) (x3 : Int32) (x4 : Int32) (σ : nd_Mem), f_X11_planned_53 F m9 x1 x2 x3 x4 σ = some z → nd_V M_X11_planned (nd_rm 1) (nd_Pi (nd_SH ++ t) z) 0 0 53 [(0, .ref 60), (1, .int x1), (2, .int x2), (3, .int x3), (4, .int x4)] [] (nd_SH ++ t) σ := by
  induction m9 with
  | zero =>
    intro x1 x2 x3 x4 σ h
    have h : none = some z := h
    cases h
  | succ m9 hrec53 =>
    intro x1 x2 x3 x4 σ h
    have h : f_X11_planned_53_b F (f_X11_planned_53 F m9) x1 x2 x3 x4 σ = some z := h
    unfold f_X11_planned_53_b at h
    refine nd_iload dX11_planned_53 4 rfl ?_
    refine nd_iconst dX11_planned_55 ic_1 ?_
    refine nd_aload_n dX11_planned_56 0 rfl ?_
    refine nd_get dX11_planned_57 gf_X11_388 (sh_60 t) rfl ?_
    refine nd_ishl dX11_planned_60 ?_
    refine nd_icmp_geN dX11_planned_61 94 (by decide) h (fun h => ?_) (fun h => ?_)
    · refine nd_iload_n dX11_planned_94 3 rfl ?_
      exact nd_iret dX11_planned_95 (Nat.zero_le _) (Nat.zero_le _) (vp_nar_int _) (by cases h; exact ⟨rfl, rfl, rfl⟩)
    · refine nd_aload_n dX11_planned_64 0 rfl ?_
      refine nd_iload dX11_planned_65 4 rfl ?_
      refine nd_iload_n dX11_planned_67 1 rfl ?_
      obtain ⟨r1, σ2, hc3, h⟩ := nd_bind_e h
      refine nd_cvi [.int x4, .int x1] [] dX11_planned_68 cl_X11_392 (sh_60 t) ⟨Nat.le_of_ble_eq_true rfl, Nat.le_of_ble_eq_true rfl⟩ rfl (Nat.le_of_ble_eq_true rfl) hL (t_X11_isPlan F t hL _ _ _ hc3) ?_
      refine nd_if_eqN dX11_planned_71 88 (by decide) h (fun h => ?_) (fun h => ?_)
      · exact b_X11_planned_88 F _ t hL hrec53 _ _ _ _ _ h
      · refine nd_aload_n dX11_planned_74 0 rfl ?_
        refine nd_iload_n dX11_planned_75 3 rfl ?_
        refine nd_aload_n dX11_planned_76 0 rfl ?_
        refine nd_iload dX11_planned_77 4 rfl ?_
        refine nd_iload_n dX11_planned_79 2 rfl ?_
        refine nd_ixor dX11_planned_80 ?_
        obtain ⟨r4, σ5, hc6, h⟩ := nd_bind_e h
        refine nd_cvi [.int (x4 ^^^ x2)] [.int x3, .ref 60] dX11_planned_81 cl_X11_395 (sh_60 t) ⟨Nat.le_of_ble_eq_true rfl, Nat.le_of_ble_eq_true rfl⟩ rfl (Nat.le_of_ble_eq_true rfl) hL (t_X11_onesOf F t hL _ _ hc6) ?_
        obtain ⟨r7, σ8, hc9, h⟩ := nd_bind_e h
        refine nd_cvi [.int x3, .int r4] [] dX11_planned_84 cl_X11_332 (sh_60 t) ⟨Nat.le_of_ble_eq_true rfl, Nat.le_of_ble_eq_true rfl⟩ rfl (Nat.le_of_ble_eq_true rfl) hL (t_X11_lesser F t hL _ _ _ hc9) ?_
        refine nd_istore_n (ls' := [(3, .int r7), (0, .ref 60), (1, .int x1), (2, .int x2), (4, .int x4)]) dX11_planned_87 (by decide) rfl ?_
        refine nd_sub [1, 2, 3, 0, 4] rfl ?_
        exact b_X11_planned_88 F _ t hL hrec53 _ _ _ _ _ h
set_option maxRecDepth 100000 in
set_option maxHeartbeats 4000000 in
theorem b_X11_planned_21 (F : Nat) (t : List nd_S) (hL : (nd_SH ++ t).length < nd_ro) {z : Int32 × nd_Mem} (m9 : Nat) : ∀ (x1 : Int32) (x2 : Int32) (x3 : Int32) (σ : nd_Mem), f_X11_planned_21 F m9 x1 x2 x3 σ = some z → nd_V M_X11_planned (nd_rm 1) (nd_Pi (nd_SH ++ t) z) 0 0 21 [(0, .ref 60), (1, .int x1), (2, .int x2), (3, .int x3)] [] (nd_SH ++ t) σ := by
  induction m9 with
  | zero =>
    intro x1 x2 x3 σ h
    have h : none = some z := h
    cases h
  | succ m9 hrec21 =>
    intro x1 x2 x3 σ h
    have h : f_X11_planned_21_b F (f_X11_planned_21 F m9) x1 x2 x3 σ = some z := h
    unfold f_X11_planned_21_b at h
    refine nd_iload_n dX11_planned_21 3 rfl ?_
    refine nd_aload_n dX11_planned_22 0 rfl ?_
    refine nd_get dX11_planned_23 gf_X11_388 (sh_60 t) rfl ?_
    refine nd_icmp_geN dX11_planned_26 46 (by decide) h (fun h => ?_) (fun h => ?_)
    · refine nd_ldcw dX11_planned_46 kc_X11_391 ?_
      refine nd_istore_n (ls' := [(3, .int (100000000 : Int32)), (0, .ref 60), (1, .int x1), (2, .int x2)]) dX11_planned_49 (by decide) rfl ?_
      refine nd_iconst dX11_planned_50 ic_0 ?_
      refine nd_istore (ls' := [(4, .int (0 : Int32)), (3, .int (100000000 : Int32)), (0, .ref 60), (1, .int x1), (2, .int x2)]) dX11_planned_51 (by decide) rfl ?_
      refine nd_sub [2, 3, 4, 1, 0] rfl ?_
      exact b_X11_planned_53 F t hL F _ _ _ _ _ h
    · refine nd_iload_n dX11_planned_29 2 rfl ?_
      refine nd_aload_n dX11_planned_30 0 rfl ?_
      refine nd_get dX11_planned_31 gf_X11_74 (sh_60 t) rfl ?_
      refine nd_iload_n dX11_planned_34 3 rfl ?_
      refine nd_ialoadN dX11_planned_35 (sh_81 t) h (fun h => ?_)
      refine nd_iload_n dX11_planned_36 3 rfl ?_
      refine nd_ishl dX11_planned_37 ?_
      refine nd_ior dX11_planned_38 ?_
      refine nd_istore_n (ls' := [(2, .int (x2 ||| ((σ 81 (x3).toNatClampNeg) <<< (x3 &&& 31)))), (0, .ref 60), (1, .int x1), (3, .int x3)]) dX11_planned_39 (by decide) rfl ?_
      refine nd_iinc (v := (x3 + (1 : Int32))) (ls' := [(3, .int (x3 + (1 : Int32))), (2, .int (x2 ||| ((σ 81 (x3).toNatClampNeg) <<< (x3 &&& 31)))), (0, .ref 60), (1, .int x1)]) dX11_planned_40 3 rfl (congrArg (HAdd.hAdd _) ic_1) (by decide) rfl ?_
      refine nd_goto dX11_planned_43 21 (by decide) ?_
      refine nd_sub [2, 3, 1, 0] rfl ?_
      exact hrec21 _ _ _ _ h
set_option maxRecDepth 100000 in
set_option maxHeartbeats 4000000 in
theorem t_X11_planned (F : Nat) (t : List nd_S) (hL : (nd_SH ++ t).length < nd_ro) {z : Int32 × nd_Mem} (x1 : Int32) (σ : nd_Mem) (h : f_X11_planned F x1 σ = some z) : nd_Fn M_X11_planned (nd_rm 1) [.ref 60, .int x1] (nd_SH ++ t) σ (nd_Pi (nd_SH ++ t) z) := by
  refine nd_Fn.ofV (ls := [(0, .ref 60), (1, .int x1)]) pl_X11_planned rfl (fun _ => Nat.le_of_ble_eq_true rfl) (fun _ => rfl) ?_
  unfold f_X11_planned at h
  refine nd_aload_n dX11_planned_0 0 rfl ?_
  refine nd_iconst dX11_planned_1 ic_0 ?_
  refine nd_putiN dX11_planned_2 pf_X11_132 (sh_60 t) rfl h (fun σ1 h => ?_)
  refine nd_aload_n dX11_planned_5 0 rfl ?_
  refine nd_iload_n dX11_planned_6 1 rfl ?_
  refine nd_iconst dX11_planned_7 ic_0 ?_
  refine nd_iconst dX11_planned_8 ic_1 ?_
  obtain ⟨r2, σ3, hc4, h⟩ := nd_bind_e h
  refine nd_cvi [.int x1, .int (0 : Int32), .int (1 : Int32)] [] dX11_planned_9 cl_X11_147 (sh_60 t) ⟨Nat.le_of_ble_eq_true rfl, Nat.le_of_ble_eq_true rfl⟩ rfl (Nat.le_of_ble_eq_true rfl) hL (t_X11_isIn F t hL _ _ _ _ hc4) ?_
  refine nd_if_neN dX11_planned_12 17 (by decide) h (fun h => ?_) (fun h => ?_)
  · refine nd_iconst dX11_planned_17 ic_0 ?_
    refine nd_istore_n (ls' := [(2, .int (0 : Int32)), (0, .ref 60), (1, .int x1)]) dX11_planned_18 (by decide) rfl ?_
    refine nd_iconst dX11_planned_19 ic_0 ?_
    refine nd_istore_n (ls' := [(3, .int (0 : Int32)), (2, .int (0 : Int32)), (0, .ref 60), (1, .int x1)]) dX11_planned_20 (by decide) rfl ?_
    refine nd_sub [2, 3, 1, 0] rfl ?_
    exact b_X11_planned_21 F t hL F _ _ _ _ h
  · refine nd_iconst dX11_planned_15 ic_m1 ?_
    exact nd_iret dX11_planned_16 (Nat.zero_le _) (Nat.zero_le _) (vp_nar_int _) (by cases h; exact ⟨rfl, rfl, rfl⟩)
def f_X11_pushed (F : Nat) (x1 : Int32) (σ : nd_Mem) : nd_Res := (nd_let (nd_up σ 60 0 (0 : Int32)) fun σ1 => (nd_bind (f_X11_isIn F x1 (0 : Int32) (σ1 60 50) σ1) fun r2 σ3 => (if r2 = 0 then (some ((-1 : Int32), σ3)) else (nd_bind (f_X11_pushesAll F σ3) fun r5 σ6 => (if x1 = 0 then (some (r5, σ6)) else (if (x1 - (1 : Int32)) < 0 ∨ 10 ≤ ((x1 - (1 : Int32))).toNatClampNeg then none else (some ((σ6 90 ((x1 - (1 : Int32))).toNatClampNeg), σ6))))))))
set_option maxRecDepth 100000 in
set_option maxHeartbeats 4000000 in
theorem t_X11_pushed (F : Nat) (t : List nd_S) (hL : (nd_SH ++ t).length < nd_ro) {z : Int32 × nd_Mem} (x1 : Int32) (σ : nd_Mem) (h : f_X11_pushed F x1 σ = some z) : nd_Fn M_X11_pushed (nd_rm 1) [.ref 60, .int x1] (nd_SH ++ t) σ (nd_Pi (nd_SH ++ t) z) := by
  refine nd_Fn.ofV (ls := [(0, .ref 60), (1, .int x1)]) pl_X11_pushed rfl (fun _ => Nat.le_of_ble_eq_true rfl) (fun _ => rfl) ?_
  unfold f_X11_pushed at h
  refine nd_aload_n dX11_pushed_0 0 rfl ?_
  refine nd_iconst dX11_pushed_1 ic_0 ?_
  refine nd_putiN dX11_pushed_2 pf_X11_132 (sh_60 t) rfl h (fun σ1 h => ?_)
  refine nd_aload_n dX11_pushed_5 0 rfl ?_
  refine nd_iload_n dX11_pushed_6 1 rfl ?_
  refine nd_iconst dX11_pushed_7 ic_0 ?_
  refine nd_aload_n dX11_pushed_8 0 rfl ?_
  refine nd_get dX11_pushed_9 gf_X11_414 (sh_60 t) rfl ?_
  obtain ⟨r2, σ3, hc4, h⟩ := nd_bind_e h
  refine nd_cvi [.int x1, .int (0 : Int32), .int (σ1 60 50)] [] dX11_pushed_12 cl_X11_147 (sh_60 t) ⟨Nat.le_of_ble_eq_true rfl, Nat.le_of_ble_eq_true rfl⟩ rfl (Nat.le_of_ble_eq_true rfl) hL (t_X11_isIn F t hL _ _ _ _ hc4) ?_
  refine nd_if_neN dX11_pushed_15 20 (by decide) h (fun h => ?_) (fun h => ?_)
  · refine nd_aload_n dX11_pushed_20 0 rfl ?_
    obtain ⟨r5, σ6, hc7, h⟩ := nd_bind_e h
    refine nd_cvi [] [] dX11_pushed_21 cl_X11_417 (sh_60 t) ⟨Nat.le_of_ble_eq_true rfl, Nat.le_of_ble_eq_true rfl⟩ rfl (Nat.le_of_ble_eq_true rfl) hL (t_X11_pushesAll F t hL _ hc7) ?_
    refine nd_istore_n (ls' := [(2, .int r5), (0, .ref 60), (1, .int x1)]) dX11_pushed_24 (by decide) rfl ?_
    refine nd_iload_n dX11_pushed_25 2 rfl ?_
    refine nd_if_neN dX11_pushed_26 33 (by decide) h (fun h => ?_) (fun h => ?_)
    · refine nd_aload_n dX11_pushed_33 1 rfl ?_
      refine nd_get dX11_pushed_34 gf_X11_101 (sh_60 t) rfl ?_
      refine nd_iload_n dX11_pushed_37 2 rfl ?_
      refine nd_iconst dX11_pushed_38 ic_1 ?_
      refine nd_isub dX11_pushed_39 ?_
      refine nd_ialoadN dX11_pushed_40 (sh_90 t) h (fun h => ?_)
      exact nd_iret dX11_pushed_41 (Nat.zero_le _) (Nat.zero_le _) (vp_nar_int _) (by cases h; exact ⟨rfl, rfl, rfl⟩)
    · refine nd_iload_n dX11_pushed_29 0 rfl ?_
      refine nd_goto dX11_pushed_30 41 (by decide) ?_
      exact nd_iret dX11_pushed_41 (Nat.zero_le _) (Nat.zero_le _) (vp_nar_int _) (by cases h; exact ⟨rfl, rfl, rfl⟩)
  · refine nd_iconst dX11_pushed_18 ic_m1 ?_
    exact nd_iret dX11_pushed_19 (Nat.zero_le _) (Nat.zero_le _) (vp_nar_int _) (by cases h; exact ⟨rfl, rfl, rfl⟩)
def f_X11_roundOf_10_b (F : Nat) (rec10 : Int32 → Int32 → Int32 → Int32 → nd_Mem → nd_Res) (x1 : Int32) (x2 : Int32) (x3 : Int32) (x4 : Int32) (σ : nd_Mem) : nd_Res := (if x4 = x2 then (some (x3, σ)) else (nd_bind (f_X11_goesTo F x1 x4 σ) fun r1 σ2 => (rec10 x1 x2 (x3 + (1 : Int32)) r1 σ2)))
def f_X11_roundOf_10 (F : Nat) : Nat → Int32 → Int32 → Int32 → Int32 → nd_Mem → nd_Res
  | 0, _, _, _, _, _ => none
  | m9 + 1, x1, x2, x3, x4, σ => f_X11_roundOf_10_b F (f_X11_roundOf_10 F m9) x1 x2 x3 x4 σ
def f_X11_roundOf (F : Nat) (x1 : Int32) (x2 : Int32) (σ : nd_Mem) : nd_Res := (nd_bind (f_X11_goesTo F x1 x2 σ) fun r1 σ2 => (f_X11_roundOf_10 F F x1 x2 (1 : Int32) r1 σ2))
set_option maxRecDepth 100000 in
set_option maxHeartbeats 4000000 in
theorem b_X11_roundOf_10 (F : Nat) (t : List nd_S) (hL : (nd_SH ++ t).length < nd_ro) {z : Int32 × nd_Mem} (m9 : Nat) : ∀ (x1 : Int32) (x2 : Int32) (x3 : Int32) (x4 : Int32) (σ : nd_Mem), f_X11_roundOf_10 F m9 x1 x2 x3 x4 σ = some z → nd_V M_X11_roundOf (nd_rm 1) (nd_Pi (nd_SH ++ t) z) 0 0 10 [(0, .ref 60), (1, .int x1), (2, .int x2), (3, .int x3), (4, .int x4)] [] (nd_SH ++ t) σ := by
  induction m9 with
  | zero =>
    intro x1 x2 x3 x4 σ h
    have h : none = some z := h
    cases h
  | succ m9 hrec10 =>
    intro x1 x2 x3 x4 σ h
    have h : f_X11_roundOf_10_b F (f_X11_roundOf_10 F m9) x1 x2 x3 x4 σ = some z := h
    unfold f_X11_roundOf_10_b at h
    refine nd_iload dX11_roundOf_10 4 rfl ?_
    refine nd_iload_n dX11_roundOf_12 2 rfl ?_
    refine nd_icmp_eqN dX11_roundOf_13 32 (by decide) h (fun h => ?_) (fun h => ?_)
    · refine nd_iload_n dX11_roundOf_32 3 rfl ?_
      exact nd_iret dX11_roundOf_33 (Nat.zero_le _) (Nat.zero_le _) (vp_nar_int _) (by cases h; exact ⟨rfl, rfl, rfl⟩)
    · refine nd_iload_n dX11_roundOf_16 3 rfl ?_
      refine nd_iconst dX11_roundOf_17 ic_1 ?_
      refine nd_iadd dX11_roundOf_18 ?_
      refine nd_istore_n (ls' := [(3, .int (x3 + (1 : Int32))), (0, .ref 60), (1, .int x1), (2, .int x2), (4, .int x4)]) dX11_roundOf_19 (by decide) rfl ?_
      refine nd_aload_n dX11_roundOf_20 1 rfl ?_
      refine nd_iload_n dX11_roundOf_21 2 rfl ?_
      refine nd_iload dX11_roundOf_22 4 rfl ?_
      obtain ⟨r1, σ2, hc3, h⟩ := nd_bind_e h
      refine nd_cvi [.int x1, .int x4] [] dX11_roundOf_24 cl_X11_455 (sh_60 t) ⟨Nat.le_of_ble_eq_true rfl, Nat.le_of_ble_eq_true rfl⟩ rfl (Nat.le_of_ble_eq_true rfl) hL (t_X11_goesTo F t hL _ _ _ hc3) ?_
      refine nd_istore (ls' := [(4, .int r1), (3, .int (x3 + (1 : Int32))), (0, .ref 60), (1, .int x1), (2, .int x2)]) dX11_roundOf_27 (by decide) rfl ?_
      refine nd_goto dX11_roundOf_29 10 (by decide) ?_
      refine nd_sub [2, 3, 4, 1, 0] rfl ?_
      exact hrec10 _ _ _ _ _ h
set_option maxRecDepth 100000 in
set_option maxHeartbeats 4000000 in
theorem t_X11_roundOf (F : Nat) (t : List nd_S) (hL : (nd_SH ++ t).length < nd_ro) {z : Int32 × nd_Mem} (x1 : Int32) (x2 : Int32) (σ : nd_Mem) (h : f_X11_roundOf F x1 x2 σ = some z) : nd_Fn M_X11_roundOf (nd_rm 1) [.ref 60, .int x1, .int x2] (nd_SH ++ t) σ (nd_Pi (nd_SH ++ t) z) := by
  refine nd_Fn.ofV (ls := [(0, .ref 60), (1, .int x1), (2, .int x2)]) pl_X11_roundOf rfl (fun _ => Nat.le_of_ble_eq_true rfl) (fun _ => rfl) ?_
  unfold f_X11_roundOf at h
  refine nd_iconst dX11_roundOf_0 ic_1 ?_
  refine nd_istore_n (ls' := [(3, .int (1 : Int32)), (0, .ref 60), (1, .int x1), (2, .int x2)]) dX11_roundOf_1 (by decide) rfl ?_
  refine nd_aload_n dX11_roundOf_2 1 rfl ?_
  refine nd_iload_n dX11_roundOf_3 2 rfl ?_
  refine nd_iload_n dX11_roundOf_4 3 rfl ?_
  obtain ⟨r1, σ2, hc3, h⟩ := nd_bind_e h
  refine nd_cvi [.int x1, .int x2] [] dX11_roundOf_5 cl_X11_455 (sh_60 t) ⟨Nat.le_of_ble_eq_true rfl, Nat.le_of_ble_eq_true rfl⟩ rfl (Nat.le_of_ble_eq_true rfl) hL (t_X11_goesTo F t hL _ _ _ hc3) ?_
  refine nd_istore (ls' := [(4, .int r1), (3, .int (1 : Int32)), (0, .ref 60), (1, .int x1), (2, .int x2)]) dX11_roundOf_8 (by decide) rfl ?_
  refine nd_sub [2, 3, 4, 1, 0] rfl ?_
  exact b_X11_roundOf_10 F t hL F _ _ _ _ _ h
def f_X11_rows_26 (F : Nat) (σ : nd_Mem) : nd_Res := (some ((-1 : Int32), σ))
def f_X11_rows_101 (F : Nat) (rec63 : Int32 → Int32 → Int32 → Int32 → nd_Mem → nd_Res) (x1 : Int32) (x2 : Int32) (x3 : Int32) (x4 : Int32) (σ : nd_Mem) : nd_Res := (rec63 x1 x2 x3 (x4 + (1 : Int32)) σ)
def f_X11_rows_85 (F : Nat) (rec63 : Int32 → Int32 → Int32 → Int32 → nd_Mem → nd_Res) (x1 : Int32) (x2 : Int32) (x3 : Int32) (x4 : Int32) (σ : nd_Mem) : nd_Res := (if (((9 : Int32) * ((1 : Int32) <<< (x4 &&& 31))) + x4) < 0 ∨ 4608 ≤ ((((9 : Int32) * ((1 : Int32) <<< (x4 &&& 31))) + x4)).toNatClampNeg then none else (nd_let (nd_up σ 88 ((((9 : Int32) * ((1 : Int32) <<< (x4 &&& 31))) + x4)).toNatClampNeg (1 : Int32)) fun σ1 => (f_X11_rows_101 F rec63 x1 x2 x3 x4 σ1)))
def f_X11_rows_219 (F : Nat) (rec110 : Int32 → Int32 → Int32 → Int32 → nd_Mem → nd_Res) (rec119 : Int32 → Int32 → Int32 → Int32 → Int32 → nd_Mem → nd_Res) (rec143 : Int32 → Int32 → Int32 → Int32 → Int32 → Int32 → Int32 → nd_Mem → nd_Res) (x1 : Int32) (x2 : Int32) (x3 : Int32) (x4 : Int32) (x5 : Int32) (x6 : Int32) (x7 : Int32) (σ : nd_Mem) : nd_Res := (rec143 x1 x2 x3 x4 x5 x6 (x7 + (1 : Int32)) σ)
def f_X11_rows_225 (F : Nat) (rec110 : Int32 → Int32 → Int32 → Int32 → nd_Mem → nd_Res) (rec119 : Int32 → Int32 → Int32 → Int32 → Int32 → nd_Mem → nd_Res) (x1 : Int32) (x2 : Int32) (x3 : Int32) (x4 : Int32) (x5 : Int32) (σ : nd_Mem) : nd_Res := (rec119 x1 x2 x3 x4 (x5 + (1 : Int32)) σ)
def f_X11_rows_143_b (F : Nat) (rec110 : Int32 → Int32 → Int32 → Int32 → nd_Mem → nd_Res) (rec119 : Int32 → Int32 → Int32 → Int32 → Int32 → nd_Mem → nd_Res) (rec143 : Int32 → Int32 → Int32 → Int32 → Int32 → Int32 → Int32 → nd_Mem → nd_Res) (x1 : Int32) (x2 : Int32) (x3 : Int32) (x4 : Int32) (x5 : Int32) (x6 : Int32) (x7 : Int32) (σ : nd_Mem) : nd_Res := (if x1 ≤ x7 then (f_X11_rows_225 F rec110 rec119 x1 x2 x3 x4 x5 σ) else (if x6 ≤ 0 then (f_X11_rows_225 F rec110 rec119 x1 x2 x3 x4 x5 σ) else (nd_bind (f_X11_has F x4 x7 σ) fun r1 σ2 => (if r1 = 0 then (nd_bind (f_X11_canStand F x7 x4 x5 x3 x2 σ2) fun r4 σ5 => (if r4 = 0 then (f_X11_rows_219 F rec110 rec119 rec143 x1 x2 x3 x4 x5 x6 x7 σ5) else (if (((9 : Int32) * (x4 ||| ((1 : Int32) <<< (x7 &&& 31)))) + x7) < 0 ∨ 4608 ≤ ((((9 : Int32) * (x4 ||| ((1 : Int32) <<< (x7 &&& 31)))) + x7)).toNatClampNeg then none else (if (((9 : Int32) * (x4 ||| ((1 : Int32) <<< (x7 &&& 31)))) + x7) < 0 ∨ 4608 ≤ ((((9 : Int32) * (x4 ||| ((1 : Int32) <<< (x7 &&& 31)))) + x7)).toNatClampNeg then none else (nd_let (nd_up σ5 88 ((((9 : Int32) * (x4 ||| ((1 : Int32) <<< (x7 &&& 31)))) + x7)).toNatClampNeg ((σ5 88 ((((9 : Int32) * (x4 ||| ((1 : Int32) <<< (x7 &&& 31)))) + x7)).toNatClampNeg) + x6)) fun σ7 => (f_X11_rows_219 F rec110 rec119 rec143 x1 x2 x3 x4 x5 x6 x7 σ7)))))) else (f_X11_rows_219 F rec110 rec119 rec143 x1 x2 x3 x4 x5 x6 x7 σ2)))))
def f_X11_rows_143 (F : Nat) (rec110 : Int32 → Int32 → Int32 → Int32 → nd_Mem → nd_Res) (rec119 : Int32 → Int32 → Int32 → Int32 → Int32 → nd_Mem → nd_Res) : Nat → Int32 → Int32 → Int32 → Int32 → Int32 → Int32 → Int32 → nd_Mem → nd_Res
  | 0, _, _, _, _, _, _, _, _ => none
  | m9 + 1, x1, x2, x3, x4, x5, x6, x7, σ => f_X11_rows_143_b F rec110 rec119 (f_X11_rows_143 F rec110 rec119 m9) x1 x2 x3 x4 x5 x6 x7 σ
def f_X11_rows_119_b (F : Nat) (rec110 : Int32 → Int32 → Int32 → Int32 → nd_Mem → nd_Res) (rec119 : Int32 → Int32 → Int32 → Int32 → Int32 → nd_Mem → nd_Res) (x1 : Int32) (x2 : Int32) (x3 : Int32) (x4 : Int32) (x5 : Int32) (σ : nd_Mem) : nd_Res := (if x1 ≤ x5 then (rec110 x1 x2 x3 (x4 + (1 : Int32)) σ) else (if (((9 : Int32) * x4) + x5) < 0 ∨ 4608 ≤ ((((9 : Int32) * x4) + x5)).toNatClampNeg then none else (f_X11_rows_143 F rec110 rec119 F x1 x2 x3 x4 x5 (σ 88 ((((9 : Int32) * x4) + x5)).toNatClampNeg) (0 : Int32) σ)))
def f_X11_rows_119 (F : Nat) (rec110 : Int32 → Int32 → Int32 → Int32 → nd_Mem → nd_Res) : Nat → Int32 → Int32 → Int32 → Int32 → Int32 → nd_Mem → nd_Res
  | 0, _, _, _, _, _, _ => none
  | m9 + 1, x1, x2, x3, x4, x5, σ => f_X11_rows_119_b F rec110 (f_X11_rows_119 F rec110 m9) x1 x2 x3 x4 x5 σ
def f_X11_rows_243_b (F : Nat) (rec243 : Int32 → Int32 → Int32 → Int32 → nd_Mem → nd_Res) (x1 : Int32) (x3 : Int32) (x4 : Int32) (x5 : Int32) (σ : nd_Mem) : nd_Res := (if x1 ≤ x5 then (some (x4, σ)) else (if (((9 : Int32) * x3) + x5) < 0 ∨ 4608 ≤ ((((9 : Int32) * x3) + x5)).toNatClampNeg then none else (rec243 x1 x3 (x4 + (σ 88 ((((9 : Int32) * x3) + x5)).toNatClampNeg)) (x5 + (1 : Int32)) σ)))
def f_X11_rows_243 (F : Nat) : Nat → Int32 → Int32 → Int32 → Int32 → nd_Mem → nd_Res
  | 0, _, _, _, _, _ => none
  | m9 + 1, x1, x3, x4, x5, σ => f_X11_rows_243_b F (f_X11_rows_243 F m9) x1 x3 x4 x5 σ
def f_X11_rows_110_b (F : Nat) (rec110 : Int32 → Int32 → Int32 → Int32 → nd_Mem → nd_Res) (x1 : Int32) (x2 : Int32) (x3 : Int32) (x4 : Int32) (σ : nd_Mem) : nd_Res := (if x3 ≤ x4 then (f_X11_rows_243 F F x1 x3 (0 : Int32) (0 : Int32) σ) else (f_X11_rows_119 F rec110 F x1 x2 x3 x4 (0 : Int32) σ))
def f_X11_rows_110 (F : Nat) : Nat → Int32 → Int32 → Int32 → Int32 → nd_Mem → nd_Res
  | 0, _, _, _, _, _ => none
  | m9 + 1, x1, x2, x3, x4, σ => f_X11_rows_110_b F (f_X11_rows_110 F m9) x1 x2 x3 x4 σ
def f_X11_rows_63_b (F : Nat) (rec63 : Int32 → Int32 → Int32 → Int32 → nd_Mem → nd_Res) (x1 : Int32) (x2 : Int32) (x3 : Int32) (x4 : Int32) (σ : nd_Mem) : nd_Res := (if x1 ≤ x4 then (f_X11_rows_110 F F x1 x2 x3 (1 : Int32) σ) else (if x2 = 0 then (f_X11_rows_85 F rec63 x1 x2 x3 x4 σ) else (if x4 < 0 ∨ 9 ≤ (x4).toNatClampNeg then none else (if ((σ 86 (x4).toNatClampNeg) &&& x3) = 0 then (f_X11_rows_85 F rec63 x1 x2 x3 x4 σ) else (f_X11_rows_101 F rec63 x1 x2 x3 x4 σ)))))
def f_X11_rows_63 (F : Nat) : Nat → Int32 → Int32 → Int32 → Int32 → nd_Mem → nd_Res
  | 0, _, _, _, _, _ => none
  | m9 + 1, x1, x2, x3, x4, σ => f_X11_rows_63_b F (f_X11_rows_63 F m9) x1 x2 x3 x4 σ
def f_X11_rows_37_b (F : Nat) (rec37 : Int32 → Int32 → Int32 → Int32 → nd_Mem → nd_Res) (x1 : Int32) (x2 : Int32) (x3 : Int32) (x4 : Int32) (σ : nd_Mem) : nd_Res := (if ((9 : Int32) <<< (x1 &&& 31)) ≤ x4 then (f_X11_rows_63 F F x1 x2 x3 (0 : Int32) σ) else (if x4 < 0 ∨ 4608 ≤ (x4).toNatClampNeg then none else (nd_let (nd_up σ 88 (x4).toNatClampNeg (0 : Int32)) fun σ1 => (rec37 x1 x2 x3 (x4 + (1 : Int32)) σ1))))
def f_X11_rows_37 (F : Nat) : Nat → Int32 → Int32 → Int32 → Int32 → nd_Mem → nd_Res
  | 0, _, _, _, _, _ => none
  | m9 + 1, x1, x2, x3, x4, σ => f_X11_rows_37_b F (f_X11_rows_37 F m9) x1 x2 x3 x4 σ
def f_X11_rows (F : Nat) (x1 : Int32) (x2 : Int32) (σ : nd_Mem) : nd_Res := (nd_let (nd_up σ 60 0 (0 : Int32)) fun σ1 => (nd_bind (f_X11_isIn F x1 (2 : Int32) (9 : Int32) σ1) fun r2 σ3 => (if r2 = 0 then (f_X11_rows_26 F σ3) else (nd_bind (f_X11_isIn F x2 (0 : Int32) (1 : Int32) σ3) fun r5 σ6 => (if r5 = 0 then (f_X11_rows_26 F σ6) else (f_X11_rows_37 F F x1 x2 (((1 : Int32) <<< (x1 &&& 31)) - (1 : Int32)) (0 : Int32) σ6))))))
set_option maxRecDepth 100000 in
set_option maxHeartbeats 4000000 in
theorem b_X11_rows_26 (F : Nat) (t : List nd_S) (hL : (nd_SH ++ t).length < nd_ro) {z : Int32 × nd_Mem} (σ : nd_Mem) (h : f_X11_rows_26 F σ = some z) : nd_V M_X11_rows (nd_rm 1) (nd_Pi (nd_SH ++ t) z) 0 0 26 [(0, .ref 60)] [] (nd_SH ++ t) σ := by
  unfold f_X11_rows_26 at h
  refine nd_iconst dX11_rows_26 ic_m1 ?_
  exact nd_iret dX11_rows_27 (Nat.zero_le _) (Nat.zero_le _) (vp_nar_int _) (by cases h; exact ⟨rfl, rfl, rfl⟩)
set_option maxRecDepth 100000 in
set_option maxHeartbeats 4000000 in
theorem b_X11_rows_101 (F : Nat) (rec63 : Int32 → Int32 → Int32 → Int32 → nd_Mem → nd_Res) (t : List nd_S) (hL : (nd_SH ++ t).length < nd_ro) {z : Int32 × nd_Mem} (hrec63 : ∀ (x1 : Int32) (x2 : Int32) (x3 : Int32) (x4 : Int32) (σ : nd_Mem), rec63 x1 x2 x3 x4 σ = some z → nd_V M_X11_rows (nd_rm 1) (nd_Pi (nd_SH ++ t) z) 0 0 63 [(0, .ref 60), (1, .int x1), (2, .int x2), (3, .int x3), (4, .int x4)] [] (nd_SH ++ t) σ) (x1 : Int32) (x2 : Int32) (x3 : Int32) (x4 : Int32) (σ : nd_Mem) (h : f_X11_rows_101 F rec63 x1 x2 x3 x4 σ = some z) : nd_V M_X11_rows (nd_rm 1) (nd_Pi (nd_SH ++ t) z) 0 0 101 [(0, .ref 60), (1, .int x1), (2, .int x2), (3, .int x3), (4, .int x4)] [] (nd_SH ++ t) σ := by
  unfold f_X11_rows_101 at h
  refine nd_iinc (v := (x4 + (1 : Int32))) (ls' := [(4, .int (x4 + (1 : Int32))), (0, .ref 60), (1, .int x1), (2, .int x2), (3, .int x3)]) dX11_rows_101 4 rfl (congrArg (HAdd.hAdd _) ic_1) (by decide) rfl ?_
  refine nd_goto dX11_rows_104 63 (by decide) ?_
  refine nd_sub [1, 2, 3, 4, 0] rfl ?_
  exact hrec63 _ _ _ _ _ h
set_option maxRecDepth 100000 in
set_option maxHeartbeats 4000000 in
theorem b_X11_rows_85 (F : Nat) (rec63 : Int32 → Int32 → Int32 → Int32 → nd_Mem → nd_Res) (t : List nd_S) (hL : (nd_SH ++ t).length < nd_ro) {z : Int32 × nd_Mem} (hrec63 : ∀ (x1 : Int32) (x2 : Int32) (x3 : Int32) (x4 : Int32) (σ : nd_Mem), rec63 x1 x2 x3 x4 σ = some z → nd_V M_X11_rows (nd_rm 1) (nd_Pi (nd_SH ++ t) z) 0 0 63 [(0, .ref 60), (1, .int x1), (2, .int x2), (3, .int x3), (4, .int x4)] [] (nd_SH ++ t) σ) (x1 : Int32) (x2 : Int32) (x3 : Int32) (x4 : Int32) (σ : nd_Mem) (h : f_X11_rows_85 F rec63 x1 x2 x3 x4 σ = some z) : nd_V M_X11_rows (nd_rm 1) (nd_Pi (nd_SH ++ t) z) 0 0 85 [(0, .ref 60), (1, .int x1), (2, .int x2), (3, .int x3), (4, .int x4)] [] (nd_SH ++ t) σ := by
  unfold f_X11_rows_85 at h
  refine nd_aload_n dX11_rows_85 0 rfl ?_
  refine nd_get dX11_rows_86 gf_X11_95 (sh_60 t) rfl ?_
  refine nd_bipush dX11_rows_89 ib_9 ?_
  refine nd_iconst dX11_rows_91 ic_1 ?_
  refine nd_iload dX11_rows_92 4 rfl ?_
  refine nd_ishl dX11_rows_94 ?_
  refine nd_imul dX11_rows_95 ?_
  refine nd_iload dX11_rows_96 4 rfl ?_
  refine nd_iadd dX11_rows_98 ?_
  refine nd_iconst dX11_rows_99 ic_1 ?_
  refine nd_iastoreN dX11_rows_100 (sh_88 t) h (fun σ1 h => ?_)
  exact b_X11_rows_101 F _ t hL hrec63 _ _ _ _ _ h
set_option maxRecDepth 100000 in
set_option maxHeartbeats 4000000 in
theorem b_X11_rows_219 (F : Nat) (rec110 : Int32 → Int32 → Int32 → Int32 → nd_Mem → nd_Res) (rec119 : Int32 → Int32 → Int32 → Int32 → Int32 → nd_Mem → nd_Res) (rec143 : Int32 → Int32 → Int32 → Int32 → Int32 → Int32 → Int32 → nd_Mem → nd_Res) (t : List nd_S) (hL : (nd_SH ++ t).length < nd_ro) {z : Int32 × nd_Mem} (hrec110 : ∀ (x1 : Int32) (x2 : Int32) (x3 : Int32) (x4 : Int32) (σ : nd_Mem), rec110 x1 x2 x3 x4 σ = some z → nd_V M_X11_rows (nd_rm 1) (nd_Pi (nd_SH ++ t) z) 0 0 110 [(0, .ref 60), (1, .int x1), (2, .int x2), (3, .int x3), (4, .int x4)] [] (nd_SH ++ t) σ) (hrec119 : ∀ (x1 : Int32) (x2 : Int32) (x3 : Int32) (x4 : Int32) (x5 : Int32) (σ : nd_Mem), rec119 x1 x2 x3 x4 x5 σ = some z → nd_V M_X11_rows (nd_rm 1) (nd_Pi (nd_SH ++ t) z) 0 0 119 [(0, .ref 60), (1, .int x1), (2, .int x2), (3, .int x3), (4, .int x4), (5, .int x5)] [] (nd_SH ++ t) σ) (hrec143 : ∀ (x1 : Int32) (x2 : Int32) (x3 : Int32) (x4 : Int32) (x5 : Int32) (x6 : Int32) (x7 : Int32) (σ : nd_Mem), rec143 x1 x2 x3 x4 x5 x6 x7 σ = some z → nd_V M_X11_rows (nd_rm 1) (nd_Pi (nd_SH ++ t) z) 0 0 143 [(0, .ref 60), (1, .int x1), (2, .int x2), (3, .int x3), (4, .int x4), (5, .int x5), (6, .int x6), (7, .int x7)] [] (nd_SH ++ t) σ) (x1 : Int32) (x2 : Int32) (x3 : Int32) (x4 : Int32) (x5 : Int32) (x6 : Int32) (x7 : Int32) (σ : nd_Mem) (h : f_X11_rows_219 F rec110 rec119 rec143 x1 x2 x3 x4 x5 x6 x7 σ = some z) : nd_V M_X11_rows (nd_rm 1) (nd_Pi (nd_SH ++ t) z) 0 0 219 [(0, .ref 60), (1, .int x1), (2, .int x2), (3, .int x3), (4, .int x4), (5, .int x5), (6, .int x6), (7, .int x7)] [] (nd_SH ++ t) σ := by
  unfold f_X11_rows_219 at h
  refine nd_iinc (v := (x7 + (1 : Int32))) (ls' := [(7, .int (x7 + (1 : Int32))), (0, .ref 60), (1, .int x1), (2, .int x2), (3, .int x3), (4, .int x4), (5, .int x5), (6, .int x6)]) dX11_rows_219 7 rfl (congrArg (HAdd.hAdd _) ic_1) (by decide) rfl ?_
  refine nd_goto dX11_rows_222 143 (by decide) ?_
  refine nd_sub [1, 2, 3, 4, 5, 6, 7, 0] rfl ?_
  exact hrec143 _ _ _ _ _ _ _ _ h
set_option maxRecDepth 100000 in
set_option maxHeartbeats 4000000 in
theorem b_X11_rows_225 (F : Nat) (rec110 : Int32 → Int32 → Int32 → Int32 → nd_Mem → nd_Res) (rec119 : Int32 → Int32 → Int32 → Int32 → Int32 → nd_Mem → nd_Res) (t : List nd_S) (hL : (nd_SH ++ t).length < nd_ro) {z : Int32 × nd_Mem} (hrec110 : ∀ (x1 : Int32) (x2 : Int32) (x3 : Int32) (x4 : Int32) (σ : nd_Mem), rec110 x1 x2 x3 x4 σ = some z → nd_V M_X11_rows (nd_rm 1) (nd_Pi (nd_SH ++ t) z) 0 0 110 [(0, .ref 60), (1, .int x1), (2, .int x2), (3, .int x3), (4, .int x4)] [] (nd_SH ++ t) σ) (hrec119 : ∀ (x1 : Int32) (x2 : Int32) (x3 : Int32) (x4 : Int32) (x5 : Int32) (σ : nd_Mem), rec119 x1 x2 x3 x4 x5 σ = some z → nd_V M_X11_rows (nd_rm 1) (nd_Pi (nd_SH ++ t) z) 0 0 119 [(0, .ref 60), (1, .int x1), (2, .int x2), (3, .int x3), (4, .int x4), (5, .int x5)] [] (nd_SH ++ t) σ) (x1 : Int32) (x2 : Int32) (x3 : Int32) (x4 : Int32) (x5 : Int32) (σ : nd_Mem) (h : f_X11_rows_225 F rec110 rec119 x1 x2 x3 x4 x5 σ = some z) : nd_V M_X11_rows (nd_rm 1) (nd_Pi (nd_SH ++ t) z) 0 0 225 [(0, .ref 60), (1, .int x1), (2, .int x2), (3, .int x3), (4, .int x4), (5, .int x5)] [] (nd_SH ++ t) σ := by
  unfold f_X11_rows_225 at h
  refine nd_iinc (v := (x5 + (1 : Int32))) (ls' := [(5, .int (x5 + (1 : Int32))), (0, .ref 60), (1, .int x1), (2, .int x2), (3, .int x3), (4, .int x4)]) dX11_rows_225 5 rfl (congrArg (HAdd.hAdd _) ic_1) (by decide) rfl ?_
  refine nd_goto dX11_rows_228 119 (by decide) ?_
  refine nd_sub [1, 2, 3, 4, 5, 0] rfl ?_
  exact hrec119 _ _ _ _ _ _ h
set_option maxRecDepth 100000 in
set_option maxHeartbeats 4000000 in
theorem b_X11_rows_143 (F : Nat) (rec110 : Int32 → Int32 → Int32 → Int32 → nd_Mem → nd_Res) (rec119 : Int32 → Int32 → Int32 → Int32 → Int32 → nd_Mem → nd_Res) (t : List nd_S) (hL : (nd_SH ++ t).length < nd_ro) {z : Int32 × nd_Mem} (hrec110 : ∀ (x1 : Int32) (x2 : Int32) (x3 : Int32) (x4 : Int32) (σ : nd_Mem), rec110 x1 x2 x3 x4 σ = some z → nd_V M_X11_rows (nd_rm 1) (nd_Pi (nd_SH ++ t) z) 0 0 110 [(0, .ref 60), (1, .int x1), (2, .int x2), (3, .int x3), (4, .int x4)] [] (nd_SH ++ t) σ) (hrec119 : ∀ (x1 : Int32) (x2 : Int32) (x3 : Int32) (x4 : Int32) (x5 : Int32) (σ : nd_Mem), rec119 x1 x2 x3 x4 x5 σ = some z → nd_V M_X11_rows (nd_rm 1) (nd_Pi (nd_SH ++ t) z) 0 0 119 [(0, .ref 60), (1, .int x1), (2, .int x2), (3, .int x3), (4, .int x4), (5, .int x5)] [] (nd_SH ++ t) σ) (m9 : Nat) : ∀ (x1 : Int32) (x2 : Int32) (x3 : Int32) (x4 : Int32) (x5 : Int32) (x6 : Int32) (x7 : Int32) (σ : nd_Mem), f_X11_rows_143 F rec110 rec119 m9 x1 x2 x3 x4 x5 x6 x7 σ = some z → nd_V M_X11_rows (nd_rm 1) (nd_Pi (nd_SH ++ t) z) 0 0 143 [(0, .ref 60), (1, .int x1), (2, .int x2), (3, .int x3), (4, .int x4), (5, .int x5), (6, .int x6), (7, .int x7)] [] (nd_SH ++ t) σ := by
  induction m9 with
  | zero =>
    intro x1 x2 x3 x4 x5 x6 x7 σ h
    have h : none = some z := h
    cases h
  | succ m9 hrec143 =>
    intro x1 x2 x3 x4 x5 x6 x7 σ h
    have h : f_X11_rows_143_b F rec110 rec119 (f_X11_rows_143 F rec110 rec119 m9) x1 x2 x3 x4 x5 x6 x7 σ = some z := h
    unfold f_X11_rows_143_b at h
    refine nd_iload dX11_rows_143 7 rfl ?_
    refine nd_iload_n dX11_rows_145 1 rfl ?_
    refine nd_icmp_geN dX11_rows_146 225 (by decide) h (fun h => ?_) (fun h => ?_)
    · refine nd_sub [0, 1, 2, 3, 4, 5] rfl ?_
      exact b_X11_rows_225 F _ _ t hL hrec110 hrec119 _ _ _ _ _ _ h
    · refine nd_iload dX11_rows_149 6 rfl ?_
      refine nd_if_leN dX11_rows_151 225 (by decide) h (fun h => ?_) (fun h => ?_)
      · refine nd_sub [0, 1, 2, 3, 4, 5] rfl ?_
        exact b_X11_rows_225 F _ _ t hL hrec110 hrec119 _ _ _ _ _ _ h
      · refine nd_aload_n dX11_rows_154 0 rfl ?_
        refine nd_iload dX11_rows_155 4 rfl ?_
        refine nd_iload dX11_rows_157 7 rfl ?_
        obtain ⟨r1, σ2, hc3, h⟩ := nd_bind_e h
        refine nd_cvi [.int x4, .int x7] [] dX11_rows_159 cl_X11_328 (sh_60 t) ⟨Nat.le_of_ble_eq_true rfl, Nat.le_of_ble_eq_true rfl⟩ rfl (Nat.le_of_ble_eq_true rfl) hL (t_X11_has F t hL _ _ _ hc3) ?_
        refine nd_if_neN dX11_rows_162 219 (by decide) h (fun h => ?_) (fun h => ?_)
        · exact b_X11_rows_219 F _ _ _ t hL hrec110 hrec119 hrec143 _ _ _ _ _ _ _ _ h
        · refine nd_aload_n dX11_rows_165 0 rfl ?_
          refine nd_iload dX11_rows_166 7 rfl ?_
          refine nd_iload dX11_rows_168 4 rfl ?_
          refine nd_iload dX11_rows_170 5 rfl ?_
          refine nd_iload_n dX11_rows_172 3 rfl ?_
          refine nd_iload_n dX11_rows_173 2 rfl ?_
          obtain ⟨r4, σ5, hc6, h⟩ := nd_bind_e h
          refine nd_cvi [.int x7, .int x4, .int x5, .int x3, .int x2] [] dX11_rows_174 cl_X11_410 (sh_60 t) ⟨Nat.le_of_ble_eq_true rfl, Nat.le_of_ble_eq_true rfl⟩ rfl (Nat.le_of_ble_eq_true rfl) hL (t_X11_canStand F t hL _ _ _ _ _ _ hc6) ?_
          refine nd_if_eqN dX11_rows_177 219 (by decide) h (fun h => ?_) (fun h => ?_)
          · exact b_X11_rows_219 F _ _ _ t hL hrec110 hrec119 hrec143 _ _ _ _ _ _ _ _ h
          · refine nd_aload_n dX11_rows_180 0 rfl ?_
            refine nd_get dX11_rows_181 gf_X11_95 (sh_60 t) rfl ?_
            refine nd_bipush dX11_rows_184 ib_9 ?_
            refine nd_iload dX11_rows_186 4 rfl ?_
            refine nd_iconst dX11_rows_188 ic_1 ?_
            refine nd_iload dX11_rows_189 7 rfl ?_
            refine nd_ishl dX11_rows_191 ?_
            refine nd_ior dX11_rows_192 ?_
            refine nd_imul dX11_rows_193 ?_
            refine nd_iload dX11_rows_194 7 rfl ?_
            refine nd_iadd dX11_rows_196 ?_
            refine nd_aload_n dX11_rows_197 0 rfl ?_
            refine nd_get dX11_rows_198 gf_X11_95 (sh_60 t) rfl ?_
            refine nd_bipush dX11_rows_201 ib_9 ?_
            refine nd_iload dX11_rows_203 4 rfl ?_
            refine nd_iconst dX11_rows_205 ic_1 ?_
            refine nd_iload dX11_rows_206 7 rfl ?_
            refine nd_ishl dX11_rows_208 ?_
            refine nd_ior dX11_rows_209 ?_
            refine nd_imul dX11_rows_210 ?_
            refine nd_iload dX11_rows_211 7 rfl ?_
            refine nd_iadd dX11_rows_213 ?_
            refine nd_ialoadN dX11_rows_214 (sh_88 t) h (fun h => ?_)
            refine nd_iload dX11_rows_215 6 rfl ?_
            refine nd_iadd dX11_rows_217 ?_
            refine nd_iastoreN dX11_rows_218 (sh_88 t) h (fun σ7 h => ?_)
            exact b_X11_rows_219 F _ _ _ t hL hrec110 hrec119 hrec143 _ _ _ _ _ _ _ _ h
set_option maxRecDepth 100000 in
set_option maxHeartbeats 4000000 in
theorem b_X11_rows_119 (F : Nat) (rec110 : Int32 → Int32 → Int32 → Int32 → nd_Mem → nd_Res) (t : List nd_S) (hL : (nd_SH ++ t).length < nd_ro) {z : Int32 × nd_Mem} (hrec110 : ∀ (x1 : Int32) (x2 : Int32) (x3 : Int32) (x4 : Int32) (σ : nd_Mem), rec110 x1 x2 x3 x4 σ = some z → nd_V M_X11_rows (nd_rm 1) (nd_Pi (nd_SH ++ t) z) 0 0 110 [(0, .ref 60), (1, .int x1), (2, .int x2), (3, .int x3), (4, .int x4)] [] (nd_SH ++ t) σ) (m9 : Nat) : ∀ (x1 : Int32) (x2 : Int32) (x3 : Int32) (x4 : Int32) (x5 : Int32) (σ : nd_Mem), f_X11_rows_119 F rec110 m9 x1 x2 x3 x4 x5 σ = some z → nd_V M_X11_rows (nd_rm 1) (nd_Pi (nd_SH ++ t) z) 0 0 119 [(0, .ref 60), (1, .int x1), (2, .int x2), (3, .int x3), (4, .int x4), (5, .int x5)] [] (nd_SH ++ t) σ := by
  induction m9 with
  | zero =>
    intro x1 x2 x3 x4 x5 σ h
    have h : none = some z := h
    cases h
  | succ m9 hrec119 =>
    intro x1 x2 x3 x4 x5 σ h
    have h : f_X11_rows_119_b F rec110 (f_X11_rows_119 F rec110 m9) x1 x2 x3 x4 x5 σ = some z := h
    unfold f_X11_rows_119_b at h
    refine nd_iload dX11_rows_119 5 rfl ?_
    refine nd_iload_n dX11_rows_121 1 rfl ?_
    refine nd_icmp_geN dX11_rows_122 231 (by decide) h (fun h => ?_) (fun h => ?_)
    · refine nd_iinc (v := (x4 + (1 : Int32))) (ls' := [(4, .int (x4 + (1 : Int32))), (0, .ref 60), (1, .int x1), (2, .int x2), (3, .int x3), (5, .int x5)]) dX11_rows_231 4 rfl (congrArg (HAdd.hAdd _) ic_1) (by decide) rfl ?_
      refine nd_goto dX11_rows_234 110 (by decide) ?_
      refine nd_sub [1, 2, 3, 4, 0] rfl ?_
      exact hrec110 _ _ _ _ _ h
    · refine nd_aload_n dX11_rows_125 0 rfl ?_
      refine nd_get dX11_rows_126 gf_X11_95 (sh_60 t) rfl ?_
      refine nd_bipush dX11_rows_129 ib_9 ?_
      refine nd_iload dX11_rows_131 4 rfl ?_
      refine nd_imul dX11_rows_133 ?_
      refine nd_iload dX11_rows_134 5 rfl ?_
      refine nd_iadd dX11_rows_136 ?_
      refine nd_ialoadN dX11_rows_137 (sh_88 t) h (fun h => ?_)
      refine nd_istore (ls' := [(6, .int (σ 88 ((((9 : Int32) * x4) + x5)).toNatClampNeg)), (0, .ref 60), (1, .int x1), (2, .int x2), (3, .int x3), (4, .int x4), (5, .int x5)]) dX11_rows_138 (by decide) rfl ?_
      refine nd_iconst dX11_rows_140 ic_0 ?_
      refine nd_istore (ls' := [(7, .int (0 : Int32)), (6, .int (σ 88 ((((9 : Int32) * x4) + x5)).toNatClampNeg)), (0, .ref 60), (1, .int x1), (2, .int x2), (3, .int x3), (4, .int x4), (5, .int x5)]) dX11_rows_141 (by decide) rfl ?_
      refine nd_sub [2, 3, 4, 5, 6, 7, 1, 0] rfl ?_
      exact b_X11_rows_143 F _ _ t hL hrec110 hrec119 F _ _ _ _ _ _ _ _ h
set_option maxRecDepth 100000 in
set_option maxHeartbeats 4000000 in
theorem b_X11_rows_243 (F : Nat) (t : List nd_S) (hL : (nd_SH ++ t).length < nd_ro) {z : Int32 × nd_Mem} (m9 : Nat) : ∀ (x1 : Int32) (x3 : Int32) (x4 : Int32) (x5 : Int32) (σ : nd_Mem), f_X11_rows_243 F m9 x1 x3 x4 x5 σ = some z → nd_V M_X11_rows (nd_rm 1) (nd_Pi (nd_SH ++ t) z) 0 0 243 [(0, .ref 60), (1, .int x1), (3, .int x3), (4, .int x4), (5, .int x5)] [] (nd_SH ++ t) σ := by
  induction m9 with
  | zero =>
    intro x1 x3 x4 x5 σ h
    have h : none = some z := h
    cases h
  | succ m9 hrec243 =>
    intro x1 x3 x4 x5 σ h
    have h : f_X11_rows_243_b F (f_X11_rows_243 F m9) x1 x3 x4 x5 σ = some z := h
    unfold f_X11_rows_243_b at h
    refine nd_iload dX11_rows_243 4 rfl ?_
    refine nd_iload_n dX11_rows_245 1 rfl ?_
    refine nd_icmp_geN dX11_rows_246 272 (by decide) h (fun h => ?_) (fun h => ?_)
    · refine nd_iload dX11_rows_272 3 rfl ?_
      exact nd_iret dX11_rows_274 (Nat.zero_le _) (Nat.zero_le _) (vp_nar_int _) (by cases h; exact ⟨rfl, rfl, rfl⟩)
    · refine nd_iload dX11_rows_249 3 rfl ?_
      refine nd_aload_n dX11_rows_251 0 rfl ?_
      refine nd_get dX11_rows_252 gf_X11_95 (sh_60 t) rfl ?_
      refine nd_bipush dX11_rows_255 ib_9 ?_
      refine nd_iload_n dX11_rows_257 2 rfl ?_
      refine nd_imul dX11_rows_258 ?_
      refine nd_iload dX11_rows_259 4 rfl ?_
      refine nd_iadd dX11_rows_261 ?_
      refine nd_ialoadN dX11_rows_262 (sh_88 t) h (fun h => ?_)
      refine nd_iadd dX11_rows_263 ?_
      refine nd_istore (ls' := [(4, .int (x4 + (σ 88 ((((9 : Int32) * x3) + x5)).toNatClampNeg))), (0, .ref 60), (1, .int x1), (3, .int x3), (5, .int x5)]) dX11_rows_264 (by decide) rfl ?_
      refine nd_iinc (v := (x5 + (1 : Int32))) (ls' := [(5, .int (x5 + (1 : Int32))), (4, .int (x4 + (σ 88 ((((9 : Int32) * x3) + x5)).toNatClampNeg))), (0, .ref 60), (1, .int x1), (3, .int x3)]) dX11_rows_266 4 rfl (congrArg (HAdd.hAdd _) ic_1) (by decide) rfl ?_
      refine nd_goto dX11_rows_269 243 (by decide) ?_
      refine nd_sub [2, 3, 4, 1, 0] rfl ?_
      exact hrec243 _ _ _ _ _ h
set_option maxRecDepth 100000 in
set_option maxHeartbeats 4000000 in
theorem b_X11_rows_110 (F : Nat) (t : List nd_S) (hL : (nd_SH ++ t).length < nd_ro) {z : Int32 × nd_Mem} (m9 : Nat) : ∀ (x1 : Int32) (x2 : Int32) (x3 : Int32) (x4 : Int32) (σ : nd_Mem), f_X11_rows_110 F m9 x1 x2 x3 x4 σ = some z → nd_V M_X11_rows (nd_rm 1) (nd_Pi (nd_SH ++ t) z) 0 0 110 [(0, .ref 60), (1, .int x1), (2, .int x2), (3, .int x3), (4, .int x4)] [] (nd_SH ++ t) σ := by
  induction m9 with
  | zero =>
    intro x1 x2 x3 x4 σ h
    have h : none = some z := h
    cases h
  | succ m9 hrec110 =>
    intro x1 x2 x3 x4 σ h
    have h : f_X11_rows_110_b F (f_X11_rows_110 F m9) x1 x2 x3 x4 σ = some z := h
    unfold f_X11_rows_110_b at h
    refine nd_iload dX11_rows_110 4 rfl ?_
    refine nd_iload_n dX11_rows_112 3 rfl ?_
    refine nd_icmp_geN dX11_rows_113 237 (by decide) h (fun h => ?_) (fun h => ?_)
    · refine nd_iconst dX11_rows_237 ic_0 ?_
      refine nd_istore (ls' := [(4, .int (0 : Int32)), (0, .ref 60), (1, .int x1), (2, .int x2), (3, .int x3)]) dX11_rows_238 (by decide) rfl ?_
      refine nd_iconst dX11_rows_240 ic_0 ?_
      refine nd_istore (ls' := [(5, .int (0 : Int32)), (4, .int (0 : Int32)), (0, .ref 60), (1, .int x1), (2, .int x2), (3, .int x3)]) dX11_rows_241 (by decide) rfl ?_
      refine nd_sub [2, 3, 5, 1, 0] rfl ?_
      exact b_X11_rows_243 F t hL F _ _ _ _ _ h
    · refine nd_iconst dX11_rows_116 ic_0 ?_
      refine nd_istore (ls' := [(5, .int (0 : Int32)), (0, .ref 60), (1, .int x1), (2, .int x2), (3, .int x3), (4, .int x4)]) dX11_rows_117 (by decide) rfl ?_
      refine nd_sub [1, 2, 3, 4, 5, 0] rfl ?_
      exact b_X11_rows_119 F _ t hL hrec110 F _ _ _ _ _ _ h
set_option maxRecDepth 100000 in
set_option maxHeartbeats 4000000 in
theorem b_X11_rows_63 (F : Nat) (t : List nd_S) (hL : (nd_SH ++ t).length < nd_ro) {z : Int32 × nd_Mem} (m9 : Nat) : ∀ (x1 : Int32) (x2 : Int32) (x3 : Int32) (x4 : Int32) (σ : nd_Mem), f_X11_rows_63 F m9 x1 x2 x3 x4 σ = some z → nd_V M_X11_rows (nd_rm 1) (nd_Pi (nd_SH ++ t) z) 0 0 63 [(0, .ref 60), (1, .int x1), (2, .int x2), (3, .int x3), (4, .int x4)] [] (nd_SH ++ t) σ := by
  induction m9 with
  | zero =>
    intro x1 x2 x3 x4 σ h
    have h : none = some z := h
    cases h
  | succ m9 hrec63 =>
    intro x1 x2 x3 x4 σ h
    have h : f_X11_rows_63_b F (f_X11_rows_63 F m9) x1 x2 x3 x4 σ = some z := h
    unfold f_X11_rows_63_b at h
    refine nd_iload dX11_rows_63 4 rfl ?_
    refine nd_iload_n dX11_rows_65 1 rfl ?_
    refine nd_icmp_geN dX11_rows_66 107 (by decide) h (fun h => ?_) (fun h => ?_)
    · refine nd_iconst dX11_rows_107 ic_1 ?_
      refine nd_istore (ls' := [(4, .int (1 : Int32)), (0, .ref 60), (1, .int x1), (2, .int x2), (3, .int x3)]) dX11_rows_108 (by decide) rfl ?_
      refine nd_sub [1, 2, 3, 4, 0] rfl ?_
      exact b_X11_rows_110 F t hL F _ _ _ _ _ h
    · refine nd_iload_n dX11_rows_69 2 rfl ?_
      refine nd_if_eqN dX11_rows_70 85 (by decide) h (fun h => ?_) (fun h => ?_)
      · exact b_X11_rows_85 F _ t hL hrec63 _ _ _ _ _ h
      · refine nd_aload_n dX11_rows_73 0 rfl ?_
        refine nd_get dX11_rows_74 gf_X11_89 (sh_60 t) rfl ?_
        refine nd_iload dX11_rows_77 4 rfl ?_
        refine nd_ialoadN dX11_rows_79 (sh_86 t) h (fun h => ?_)
        refine nd_iload_n dX11_rows_80 3 rfl ?_
        refine nd_iand dX11_rows_81 ?_
        refine nd_if_neN dX11_rows_82 101 (by decide) h (fun h => ?_) (fun h => ?_)
        · exact b_X11_rows_101 F _ t hL hrec63 _ _ _ _ _ h
        · exact b_X11_rows_85 F _ t hL hrec63 _ _ _ _ _ h
set_option maxRecDepth 100000 in
set_option maxHeartbeats 4000000 in
theorem b_X11_rows_37 (F : Nat) (t : List nd_S) (hL : (nd_SH ++ t).length < nd_ro) {z : Int32 × nd_Mem} (m9 : Nat) : ∀ (x1 : Int32) (x2 : Int32) (x3 : Int32) (x4 : Int32) (σ : nd_Mem), f_X11_rows_37 F m9 x1 x2 x3 x4 σ = some z → nd_V M_X11_rows (nd_rm 1) (nd_Pi (nd_SH ++ t) z) 0 0 37 [(0, .ref 60), (1, .int x1), (2, .int x2), (3, .int x3), (4, .int x4)] [] (nd_SH ++ t) σ := by
  induction m9 with
  | zero =>
    intro x1 x2 x3 x4 σ h
    have h : none = some z := h
    cases h
  | succ m9 hrec37 =>
    intro x1 x2 x3 x4 σ h
    have h : f_X11_rows_37_b F (f_X11_rows_37 F m9) x1 x2 x3 x4 σ = some z := h
    unfold f_X11_rows_37_b at h
    refine nd_iload dX11_rows_37 4 rfl ?_
    refine nd_bipush dX11_rows_39 ib_9 ?_
    refine nd_iload_n dX11_rows_41 1 rfl ?_
    refine nd_ishl dX11_rows_42 ?_
    refine nd_icmp_geN dX11_rows_43 60 (by decide) h (fun h => ?_) (fun h => ?_)
    · refine nd_iconst dX11_rows_60 ic_0 ?_
      refine nd_istore (ls' := [(4, .int (0 : Int32)), (0, .ref 60), (1, .int x1), (2, .int x2), (3, .int x3)]) dX11_rows_61 (by decide) rfl ?_
      refine nd_sub [1, 2, 3, 4, 0] rfl ?_
      exact b_X11_rows_63 F t hL F _ _ _ _ _ h
    · refine nd_aload_n dX11_rows_46 0 rfl ?_
      refine nd_get dX11_rows_47 gf_X11_95 (sh_60 t) rfl ?_
      refine nd_iload dX11_rows_50 4 rfl ?_
      refine nd_iconst dX11_rows_52 ic_0 ?_
      refine nd_iastoreN dX11_rows_53 (sh_88 t) h (fun σ1 h => ?_)
      refine nd_iinc (v := (x4 + (1 : Int32))) (ls' := [(4, .int (x4 + (1 : Int32))), (0, .ref 60), (1, .int x1), (2, .int x2), (3, .int x3)]) dX11_rows_54 4 rfl (congrArg (HAdd.hAdd _) ic_1) (by decide) rfl ?_
      refine nd_goto dX11_rows_57 37 (by decide) ?_
      refine nd_sub [1, 2, 3, 4, 0] rfl ?_
      exact hrec37 _ _ _ _ _ h
set_option maxRecDepth 100000 in
set_option maxHeartbeats 4000000 in
theorem t_X11_rows (F : Nat) (t : List nd_S) (hL : (nd_SH ++ t).length < nd_ro) {z : Int32 × nd_Mem} (x1 : Int32) (x2 : Int32) (σ : nd_Mem) (h : f_X11_rows F x1 x2 σ = some z) : nd_Fn M_X11_rows (nd_rm 1) [.ref 60, .int x1, .int x2] (nd_SH ++ t) σ (nd_Pi (nd_SH ++ t) z) := by
  refine nd_Fn.ofV (ls := [(0, .ref 60), (1, .int x1), (2, .int x2)]) pl_X11_rows rfl (fun _ => Nat.le_of_ble_eq_true rfl) (fun _ => rfl) ?_
  unfold f_X11_rows at h
  refine nd_aload_n dX11_rows_0 0 rfl ?_
  refine nd_iconst dX11_rows_1 ic_0 ?_
  refine nd_putiN dX11_rows_2 pf_X11_132 (sh_60 t) rfl h (fun σ1 h => ?_)
  refine nd_aload_n dX11_rows_5 0 rfl ?_
  refine nd_iload_n dX11_rows_6 1 rfl ?_
  refine nd_iconst dX11_rows_7 ic_2 ?_
  refine nd_bipush dX11_rows_8 ib_9 ?_
  obtain ⟨r2, σ3, hc4, h⟩ := nd_bind_e h
  refine nd_cvi [.int x1, .int (2 : Int32), .int (9 : Int32)] [] dX11_rows_10 cl_X11_147 (sh_60 t) ⟨Nat.le_of_ble_eq_true rfl, Nat.le_of_ble_eq_true rfl⟩ rfl (Nat.le_of_ble_eq_true rfl) hL (t_X11_isIn F t hL _ _ _ _ hc4) ?_
  refine nd_if_eqN dX11_rows_13 26 (by decide) h (fun h => ?_) (fun h => ?_)
  · refine nd_sub [0] rfl ?_
    exact b_X11_rows_26 F t hL _ h
  · refine nd_aload_n dX11_rows_16 0 rfl ?_
    refine nd_iload_n dX11_rows_17 2 rfl ?_
    refine nd_iconst dX11_rows_18 ic_0 ?_
    refine nd_iconst dX11_rows_19 ic_1 ?_
    obtain ⟨r5, σ6, hc7, h⟩ := nd_bind_e h
    refine nd_cvi [.int x2, .int (0 : Int32), .int (1 : Int32)] [] dX11_rows_20 cl_X11_147 (sh_60 t) ⟨Nat.le_of_ble_eq_true rfl, Nat.le_of_ble_eq_true rfl⟩ rfl (Nat.le_of_ble_eq_true rfl) hL (t_X11_isIn F t hL _ _ _ _ hc7) ?_
    refine nd_if_neN dX11_rows_23 28 (by decide) h (fun h => ?_) (fun h => ?_)
    · refine nd_iconst dX11_rows_28 ic_1 ?_
      refine nd_iload_n dX11_rows_29 1 rfl ?_
      refine nd_ishl dX11_rows_30 ?_
      refine nd_iconst dX11_rows_31 ic_1 ?_
      refine nd_isub dX11_rows_32 ?_
      refine nd_istore_n (ls' := [(3, .int (((1 : Int32) <<< (x1 &&& 31)) - (1 : Int32))), (0, .ref 60), (1, .int x1), (2, .int x2)]) dX11_rows_33 (by decide) rfl ?_
      refine nd_iconst dX11_rows_34 ic_0 ?_
      refine nd_istore (ls' := [(4, .int (0 : Int32)), (3, .int (((1 : Int32) <<< (x1 &&& 31)) - (1 : Int32))), (0, .ref 60), (1, .int x1), (2, .int x2)]) dX11_rows_35 (by decide) rfl ?_
      refine nd_sub [2, 3, 4, 1, 0] rfl ?_
      exact b_X11_rows_37 F t hL F _ _ _ _ _ h
    · refine nd_sub [0] rfl ?_
      exact b_X11_rows_26 F t hL _ h
