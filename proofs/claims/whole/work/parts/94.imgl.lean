/-! the loops of the image, one by one -/
section LPS
variable {F : Nat}
theorem m_35 (hF : 300000 ≤ F) (x : Int32) (τ : nd_Mem) (h67 : τ 60 67 = nI 0) : ∃ τ' : nd_Mem, f_X11_image_35 F F x 0 τ = nd_bind (f_X11_keepsTold F τ') (fun r1 σ2 => f_X11_image_69 F F x 0 σ2) ∧ lo_ (τ 60 65) [61] 0 (0 + 1 * 103) τ τ' ∧ ∀ i : Nat, i < 103 → τ' 61 i = τ' 99 (0 + 1 * i + 0) := by
  refine lo1 (F := F) (L := fun f i τ => f_X11_image_35 F f x i τ) (z := fun τ' => nd_bind (f_X11_keepsTold F τ') (fun r1 σ2 => f_X11_image_69 F F x 0 σ2)) (b := 0) (N := 103) (c0 := 61) (by decide)  (by decide) (fun f i τ hi => ?_) (fun f τ => ?_) (by omega) τ h67
  · show f_X11_image_35_b F _ x (nI i) τ = _
    unfold f_X11_image_35_b
    rw [if_neg (show ¬ (103 : Int32) ≤ nI i from nI_ge (b := 103) hi (by decide))]
    have c1 : ¬ (nI i < 0 ∨ 103 ≤ (nI i).toNatClampNeg) := nI_in (by omega) (by decide)
    simp only [if_neg c1]
    simp only [nI_clamp (show i < 2 ^ 31 by omega), n_let, nI_1]
  · show f_X11_image_35_b F _ x (nI 103) τ = _
    unfold f_X11_image_35_b
    rw [if_pos (by decide)]
theorem m_110 (hF : 300000 ≤ F) (τ : nd_Mem) (h67 : τ 60 67 = nI 112) : ∃ τ' : nd_Mem, f_X11_keepsTold_110 F F 0 τ = f_X11_keepsTold_156 F F 0 τ' ∧ lo_ (τ 60 65) [76, 77] 112 (112 + 2 * 16) τ τ' ∧ ∀ i : Nat, i < 16 → τ' 76 i = τ' 99 (112 + 2 * i + 0) ∧ τ' 77 i = τ' 99 (112 + 2 * i + 1) := by
  refine lo2 (F := F) (L := f_X11_keepsTold_110 F) (z := fun τ' => f_X11_keepsTold_156 F F 0 τ') (b := 112) (N := 16) (c0 := 76) (c1 := 77) (by decide) (by decide) (by decide) (by decide) (fun f i τ hi => ?_) (fun f τ => ?_) (by omega) τ h67
  · show f_X11_keepsTold_110_b F _ (nI i) τ = _
    unfold f_X11_keepsTold_110_b
    rw [if_neg (show ¬ (16 : Int32) ≤ nI i from nI_ge (b := 16) hi (by decide))]
    have c1 : ¬ (nI i < 0 ∨ 32 ≤ (nI i).toNatClampNeg) := nI_in (by omega) (by decide)
    simp only [if_neg c1]
    simp only [nI_clamp (show i < 2 ^ 31 by omega), n_let, nI_1]
  · show f_X11_keepsTold_110_b F _ (nI 16) τ = _
    unfold f_X11_keepsTold_110_b
    rw [if_pos (by decide)]
theorem m_156 (hF : 300000 ≤ F) (τ : nd_Mem) (h67 : τ 60 67 = nI 144) : ∃ τ' : nd_Mem, f_X11_keepsTold_156 F F 0 τ = f_X11_keepsTold_202 F F 0 τ' ∧ lo_ (τ 60 65) [92, 93] 144 (144 + 2 * 14) τ τ' ∧ ∀ i : Nat, i < 14 → τ' 92 i = τ' 99 (144 + 2 * i + 0) ∧ τ' 93 i = τ' 99 (144 + 2 * i + 1) := by
  refine lo2 (F := F) (L := f_X11_keepsTold_156 F) (z := fun τ' => f_X11_keepsTold_202 F F 0 τ') (b := 144) (N := 14) (c0 := 92) (c1 := 93) (by decide) (by decide) (by decide) (by decide) (fun f i τ hi => ?_) (fun f τ => ?_) (by omega) τ h67
  · show f_X11_keepsTold_156_b F _ (nI i) τ = _
    unfold f_X11_keepsTold_156_b
    rw [if_neg (show ¬ (14 : Int32) ≤ nI i from nI_ge (b := 14) hi (by decide))]
    have c1 : ¬ (nI i < 0 ∨ 14 ≤ (nI i).toNatClampNeg) := nI_in (by omega) (by decide)
    simp only [if_neg c1]
    simp only [nI_clamp (show i < 2 ^ 31 by omega), n_let, nI_1]
  · show f_X11_keepsTold_156_b F _ (nI 14) τ = _
    unfold f_X11_keepsTold_156_b
    rw [if_pos (by decide)]
theorem m_202 (hF : 300000 ≤ F) (τ : nd_Mem) (h67 : τ 60 67 = nI 172) : ∃ τ' : nd_Mem, f_X11_keepsTold_202 F F 0 τ = f_X11_keepsTold_232 F F 0 τ' ∧ lo_ (τ 60 65) [81] 172 (172 + 1 * 12) τ τ' ∧ ∀ i : Nat, i < 12 → τ' 81 i = τ' 99 (172 + 1 * i + 0) := by
  refine lo1 (F := F) (L := f_X11_keepsTold_202 F) (z := fun τ' => f_X11_keepsTold_232 F F 0 τ') (b := 172) (N := 12) (c0 := 81) (by decide)  (by decide) (fun f i τ hi => ?_) (fun f τ => ?_) (by omega) τ h67
  · show f_X11_keepsTold_202_b F _ (nI i) τ = _
    unfold f_X11_keepsTold_202_b
    rw [if_neg (show ¬ (12 : Int32) ≤ nI i from nI_ge (b := 12) hi (by decide))]
    have c1 : ¬ (nI i < 0 ∨ 12 ≤ (nI i).toNatClampNeg) := nI_in (by omega) (by decide)
    simp only [if_neg c1]
    simp only [nI_clamp (show i < 2 ^ 31 by omega), n_let, nI_1]
  · show f_X11_keepsTold_202_b F _ (nI 12) τ = _
    unfold f_X11_keepsTold_202_b
    rw [if_pos (by decide)]
theorem m_232 (hF : 300000 ≤ F) (τ : nd_Mem) (h67 : τ 60 67 = nI 184) : ∃ τ' : nd_Mem, f_X11_keepsTold_232 F F 0 τ = f_X11_keepsTold_294 F F 0 τ' ∧ lo_ (τ 60 65) [89, 95, 96] 184 (184 + 3 * 10) τ τ' ∧ ∀ i : Nat, i < 10 → τ' 89 i = τ' 99 (184 + 3 * i + 0) ∧ τ' 95 i = τ' 99 (184 + 3 * i + 1) ∧ τ' 96 i = τ' 99 (184 + 3 * i + 2) := by
  refine lo3 (F := F) (L := f_X11_keepsTold_232 F) (z := fun τ' => f_X11_keepsTold_294 F F 0 τ') (b := 184) (N := 10) (c0 := 89) (c1 := 95) (c2 := 96) (by decide) (by decide) (by decide) (by decide) (by decide) (by decide) (by decide) (fun f i τ hi => ?_) (fun f τ => ?_) (by omega) τ h67
  · show f_X11_keepsTold_232_b F _ (nI i) τ = _
    unfold f_X11_keepsTold_232_b
    rw [if_neg (show ¬ (10 : Int32) ≤ nI i from nI_ge (b := 10) hi (by decide))]
    have c1 : ¬ (nI i < 0 ∨ 10 ≤ (nI i).toNatClampNeg) := nI_in (by omega) (by decide)
    simp only [if_neg c1]
    simp only [nI_clamp (show i < 2 ^ 31 by omega), n_let, nI_1]
  · show f_X11_keepsTold_232_b F _ (nI 10) τ = _
    unfold f_X11_keepsTold_232_b
    rw [if_pos (by decide)]
theorem m_294 (hF : 300000 ≤ F) (τ : nd_Mem) (h67 : τ 60 67 = nI 214) : ∃ τ' : nd_Mem, f_X11_keepsTold_294 F F 0 τ = f_X11_keepsTold_356 F F 0 τ' ∧ lo_ (τ 60 65) [85, 86, 87] 214 (214 + 3 * 9) τ τ' ∧ ∀ i : Nat, i < 9 → τ' 85 i = τ' 99 (214 + 3 * i + 0) ∧ τ' 86 i = τ' 99 (214 + 3 * i + 1) ∧ τ' 87 i = τ' 99 (214 + 3 * i + 2) := by
  refine lo3 (F := F) (L := f_X11_keepsTold_294 F) (z := fun τ' => f_X11_keepsTold_356 F F 0 τ') (b := 214) (N := 9) (c0 := 85) (c1 := 86) (c2 := 87) (by decide) (by decide) (by decide) (by decide) (by decide) (by decide) (by decide) (fun f i τ hi => ?_) (fun f τ => ?_) (by omega) τ h67
  · show f_X11_keepsTold_294_b F _ (nI i) τ = _
    unfold f_X11_keepsTold_294_b
    rw [if_neg (show ¬ (9 : Int32) ≤ nI i from nI_ge (b := 9) hi (by decide))]
    have c1 : ¬ (nI i < 0 ∨ 9 ≤ (nI i).toNatClampNeg) := nI_in (by omega) (by decide)
    simp only [if_neg c1]
    simp only [nI_clamp (show i < 2 ^ 31 by omega), n_let, nI_1]
  · show f_X11_keepsTold_294_b F _ (nI 9) τ = _
    unfold f_X11_keepsTold_294_b
    rw [if_pos (by decide)]
theorem m_356 (hF : 300000 ≤ F) (τ : nd_Mem) (h67 : τ 60 67 = nI 241) : ∃ τ' : nd_Mem, f_X11_keepsTold_356 F F 0 τ = some (0, τ') ∧ lo_ (τ 60 65) [75] 241 (241 + 1 * 64) τ τ' ∧ ∀ i : Nat, i < 64 → τ' 75 i = τ' 99 (241 + 1 * i + 0) := by
  refine lo1 (F := F) (L := f_X11_keepsTold_356 F) (z := fun τ' => some (0, τ')) (b := 241) (N := 64) (c0 := 75) (by decide)  (by decide) (fun f i τ hi => ?_) (fun f τ => ?_) (by omega) τ h67
  · show f_X11_keepsTold_356_b F _ (nI i) τ = _
    unfold f_X11_keepsTold_356_b
    rw [if_neg (show ¬ (64 : Int32) ≤ nI i from nI_ge (b := 64) hi (by decide))]
    have c1 : ¬ (nI i < 0 ∨ 128 ≤ (nI i).toNatClampNeg) := nI_in (by omega) (by decide)
    simp only [if_neg c1]
    simp only [nI_clamp (show i < 2 ^ 31 by omega), n_let, nI_1]
  · show f_X11_keepsTold_356_b F _ (nI 64) τ = _
    unfold f_X11_keepsTold_356_b
    rw [if_pos (by decide)]
theorem m_69 (hF : 300000 ≤ F) (x : Int32) (τ : nd_Mem) (h67 : τ 60 67 = nI 305) : ∃ τ' : nd_Mem, f_X11_image_69 F F x 0 τ = nd_bind (f_X11_keepsLaw F τ') (fun r1 σ2 => if x = 0 then nd_let (nd_up σ2 60 3 0) (fun σ4 => f_X11_image_111 F σ4) else f_X11_image_111 F σ2) ∧ lo_ (τ 60 65) [64] 305 (305 + 1 * 600) τ τ' ∧ ∀ i : Nat, i < 600 → τ' 64 i = τ' 99 (305 + 1 * i + 0) := by
  refine lo1 (F := F) (L := fun f i τ => f_X11_image_69 F f x i τ) (z := fun τ' => nd_bind (f_X11_keepsLaw F τ') (fun r1 σ2 => if x = 0 then nd_let (nd_up σ2 60 3 0) (fun σ4 => f_X11_image_111 F σ4) else f_X11_image_111 F σ2)) (b := 305) (N := 600) (c0 := 64) (by decide)  (by decide) (fun f i τ hi => ?_) (fun f τ => ?_) (by omega) τ h67
  · show f_X11_image_69_b F _ x (nI i) τ = _
    unfold f_X11_image_69_b
    rw [if_neg (show ¬ (600 : Int32) ≤ nI i from nI_ge (b := 600) hi (by decide))]
    have c1 : ¬ (nI i < 0 ∨ 600 ≤ (nI i).toNatClampNeg) := nI_in (by omega) (by decide)
    simp only [if_neg c1]
    simp only [nI_clamp (show i < 2 ^ 31 by omega), n_let, nI_1]
  · show f_X11_image_69_b F _ x (nI 600) τ = _
    unfold f_X11_image_69_b
    rw [if_pos (by decide)]
theorem m_18 (hF : 300000 ≤ F) (τ : nd_Mem) (h67 : τ 60 67 = nI 906) : ∃ τ' : nd_Mem, f_X11_keepsLaw_18 F F 0 τ = f_X11_keepsLaw_96 F F 0 τ' ∧ lo_ (τ 60 65) [68, 69, 70, 71] 906 (906 + 4 * 16) τ τ' ∧ ∀ i : Nat, i < 16 → τ' 68 i = τ' 99 (906 + 4 * i + 0) ∧ τ' 69 i = τ' 99 (906 + 4 * i + 1) ∧ τ' 70 i = τ' 99 (906 + 4 * i + 2) ∧ τ' 71 i = τ' 99 (906 + 4 * i + 3) := by
  refine lo4 (F := F) (L := f_X11_keepsLaw_18 F) (z := fun τ' => f_X11_keepsLaw_96 F F 0 τ') (b := 906) (N := 16) (c0 := 68) (c1 := 69) (c2 := 70) (c3 := 71) (by decide) (by decide) (by decide) (by decide) (by decide) (by decide) (by decide) (by decide) (by decide) (by decide) (by decide) (fun f i τ hi => ?_) (fun f τ => ?_) (by omega) τ h67
  · show f_X11_keepsLaw_18_b F _ (nI i) τ = _
    unfold f_X11_keepsLaw_18_b
    rw [if_neg (show ¬ (16 : Int32) ≤ nI i from nI_ge (b := 16) hi (by decide))]
    have c1 : ¬ (nI i < 0 ∨ 48 ≤ (nI i).toNatClampNeg) := nI_in (by omega) (by decide)
    simp only [if_neg c1]
    simp only [nI_clamp (show i < 2 ^ 31 by omega), n_let, nI_1]
  · show f_X11_keepsLaw_18_b F _ (nI 16) τ = _
    unfold f_X11_keepsLaw_18_b
    rw [if_pos (by decide)]
theorem m_96 (hF : 300000 ≤ F) (τ : nd_Mem) (h67 : τ 60 67 = nI 970) : ∃ τ' : nd_Mem, f_X11_keepsLaw_96 F F 0 τ = some (0, τ') ∧ lo_ (τ 60 65) [72, 73] 970 (970 + 2 * 400) τ τ' ∧ ∀ i : Nat, i < 400 → τ' 72 i = τ' 99 (970 + 2 * i + 0) ∧ τ' 73 i = τ' 99 (970 + 2 * i + 1) := by
  refine lo2 (F := F) (L := f_X11_keepsLaw_96 F) (z := fun τ' => some (0, τ')) (b := 970) (N := 400) (c0 := 72) (c1 := 73) (by decide) (by decide) (by decide) (by decide) (fun f i τ hi => ?_) (fun f τ => ?_) (by omega) τ h67
  · show f_X11_keepsLaw_96_b F _ (nI i) τ = _
    unfold f_X11_keepsLaw_96_b
    rw [if_neg (show ¬ (400 : Int32) ≤ nI i from nI_ge (b := 400) hi (by decide))]
    have c1 : ¬ (nI i < 0 ∨ 1200 ≤ (nI i).toNatClampNeg) := nI_in (by omega) (by decide)
    simp only [if_neg c1]
    simp only [nI_clamp (show i < 2 ^ 31 by omega), n_let, nI_1]
  · show f_X11_keepsLaw_96_b F _ (nI 400) τ = _
    unfold f_X11_keepsLaw_96_b
    rw [if_pos (by decide)]
end LPS
/-- all that an image holds, out of the row m -/
def dn_ (m : Nat → Int32) (r : nd_Mem) : Prop := ag_ r (iv_img m)
abbrev iA : List Nat := [61, 60, 76, 77, 92, 93, 81, 89, 95, 96, 85, 86, 87, 75, 64, 67, 68, 69, 70, 71, 72, 73]
theorem e_imgM {F : Nat} (hF : 300000 ≤ F) (x : Int32) (τ : nd_Mem) (h65 : τ 60 65 = x) (h67 : τ 60 67 = nI 0) : ∃ ρ : nd_Mem, f_X11_image_35 F F x 0 τ = (if x = 0 then some (1, nd_up ρ 60 3 0) else some (1, ρ)) ∧ lo_ x iA 0 1770 τ ρ ∧ (∀ j : Nat, j ∉ [6, 31, 33, 35, 40, 45, 50, 54, 61] → j ≠ 67 → ρ 60 j = τ 60 j) ∧ dn_ (ρ 99) ρ := by
  obtain ⟨t1, e1, l1, d1⟩ := m_35 (F := F) hF x τ h67
  rw [h65] at l1
  have x1 : t1 60 65 = x := by rw [l1.2.1, h65]
  obtain ⟨t2, e2, l2, k2, d20, d21, d22, d23, d24, d25, d26, d27, d28⟩ := e_nine (F := F) (τ := t1) (K := fun σ => f_X11_keepsTold_110 F F 0 σ) l1.1
  rw [x1] at l2
  have x2 : t2 60 65 = x := by rw [l2.2.1, x1]
  obtain ⟨t3, e3, l3, d3⟩ := m_110 (F := F) hF t2 l2.1
  rw [x2] at l3
  have x3 : t3 60 65 = x := by rw [l3.2.1, x2]
  obtain ⟨t4, e4, l4, d4⟩ := m_156 (F := F) hF t3 l3.1
  rw [x3] at l4
  have x4 : t4 60 65 = x := by rw [l4.2.1, x3]
  obtain ⟨t5, e5, l5, d5⟩ := m_202 (F := F) hF t4 l4.1
  rw [x4] at l5
  have x5 : t5 60 65 = x := by rw [l5.2.1, x4]
  obtain ⟨t6, e6, l6, d6⟩ := m_232 (F := F) hF t5 l5.1
  rw [x5] at l6
  have x6 : t6 60 65 = x := by rw [l6.2.1, x5]
  obtain ⟨t7, e7, l7, d7⟩ := m_294 (F := F) hF t6 l6.1
  rw [x6] at l7
  have x7 : t7 60 65 = x := by rw [l7.2.1, x6]
  obtain ⟨t8, e8, l8, d8⟩ := m_356 (F := F) hF t7 l7.1
  rw [x7] at l8
  have x8 : t8 60 65 = x := by rw [l8.2.1, x7]
  have eTold : f_X11_keepsTold F t1 = some (0, t8) := by
    unfold f_X11_keepsTold
    rw [e2, e3, e4, e5, e6, e7, e8]
  obtain ⟨t9, e9, l9, d9⟩ := m_69 (F := F) hF x t8 l8.1
  rw [x8] at l9
  have x9 : t9 60 65 = x := by rw [l9.2.1, x8]
  obtain ⟨t10, e10, q10⟩ := e_item (F := F) (τ := t9) (cell := 67) (idx := 0) (k := 905) (K := fun σ => f_X11_keepsLaw_18 F F 0 σ) (by decide) (by decide) (by decide) l9.1
  rw [x9] at q10
  have l10 := lo_im (A := [67]) (by simp) (by decide) q10
  have x10 : t10 60 65 = x := by rw [l10.2.1, x9]
  obtain ⟨t11, e11, l11, d11⟩ := m_18 (F := F) hF t10 l10.1
  rw [x10] at l11
  have x11 : t11 60 65 = x := by rw [l11.2.1, x10]
  obtain ⟨t12, e12, l12, d12⟩ := m_96 (F := F) hF t11 l11.1
  rw [x11] at l12
  have eLaw : f_X11_keepsLaw F t9 = some (0, t12) := by
    unfold f_X11_keepsLaw
    have c1 : ¬ ((0 : Int32) < 0 ∨ 2 ≤ ((0 : Int32)).toNatClampNeg) := by decide
    simp only [if_neg c1]
    simp only [k_0, n_let]
    rw [e10, e11, e12]
  have s11 := l12
  have s10 := lo_tr (by decide) (by decide) l11 s11
  have s9 := lo_tr (by decide) (by decide) l10 s10
  have s8 := lo_tr (by decide) (by decide) l9 s9
  have s7 := lo_tr (by decide) (by decide) l8 s8
  have s6 := lo_tr (by decide) (by decide) l7 s7
  have s5 := lo_tr (by decide) (by decide) l6 s6
  have s4 := lo_tr (by decide) (by decide) l5 s5
  have s3 := lo_tr (by decide) (by decide) l4 s4
  have s2 := lo_tr (by decide) (by decide) l3 s3
  have s1 := lo_tr (by decide) (by decide) l2 s2
  have s0 := lo_tr (by decide) (by decide) l1 s1
  refine ⟨t12, ?_, lo_w s0 (by decide), ?_, ?_⟩
  · rw [e1, eTold, n_bind, e9, eLaw, n_bind]
    by_cases hx : x = 0
    · rw [if_pos hx, if_pos hx, n_let]
      rfl
    · rw [if_neg hx, if_neg hx]
      rfl
  · intro j hj h67
    rw [s2.2.2.2.2.1 60 j (by decide) (by decide) (by omega), k2 j hj h67, l1.2.2.2.2.1 60 j (by decide) (by decide) (by omega)]
  · refine ⟨?_, fun k hk => ?_, fun k hk => ?_, ?_, fun k hk => ?_, fun k hk => ?_, fun k hk => ?_, fun k hk => ?_, fun k hk => ?_, fun k hk => ?_, fun k hk => ?_, fun k hk => ?_⟩
    · intro k hk
      simp only [List.mem_cons, List.not_mem_nil, or_false] at hk
      rcases hk with rfl | rfl | rfl | rfl | rfl | rfl | rfl | rfl | rfl
      · exact (lo_done s2 (by decide) (by decide) (by decide) (by decide) d20).symm
      · exact (lo_done s2 (by decide) (by decide) (by decide) (by decide) d21).symm
      · exact (lo_done s2 (by decide) (by decide) (by decide) (by decide) d22).symm
      · exact (lo_done s2 (by decide) (by decide) (by decide) (by decide) d23).symm
      · exact (lo_done s2 (by decide) (by decide) (by decide) (by decide) d24).symm
      · exact (lo_done s2 (by decide) (by decide) (by decide) (by decide) d25).symm
      · exact (lo_done s2 (by decide) (by decide) (by decide) (by decide) d26).symm
      · exact (lo_done s2 (by decide) (by decide) (by decide) (by decide) d27).symm
      · exact (lo_done s2 (by decide) (by decide) (by decide) (by decide) d28).symm
    · show t12 99 k = t12 61 k
      have := d1 k hk
      rw [show 0 + 1 * k + 0 = k by omega] at this
      exact (lo_done s1 (by decide) (by decide) (by omega) (by omega) this).symm
    · show t12 99 (305 + k) = t12 64 k
      have := d9 k hk
      rw [show 305 + 1 * k + 0 = 305 + k by omega] at this
      exact (lo_done s9 (by decide) (by decide) (by omega) (by omega) this).symm
    · show t12 99 905 = t12 67 0
      exact (lo_done s10 (by decide) (by decide) (by omega) (by omega) q10.2.1).symm
    · show t12 99 (906 + 4 * k) = t12 68 k ∧ t12 99 (907 + 4 * k) = t12 69 k ∧ t12 99 (908 + 4 * k) = t12 70 k ∧ t12 99 (909 + 4 * k) = t12 71 k
      obtain ⟨z0, z1, z2, z3⟩ := d11 k hk
      rw [show 906 + 4 * k + 0 = 906 + 4 * k by omega] at z0
      rw [show 906 + 4 * k + 1 = 907 + 4 * k by omega] at z1
      rw [show 906 + 4 * k + 2 = 908 + 4 * k by omega] at z2
      rw [show 906 + 4 * k + 3 = 909 + 4 * k by omega] at z3
      exact ⟨(lo_done s11 (by decide) (by decide) (by omega) (by omega) z0).symm, (lo_done s11 (by decide) (by decide) (by omega) (by omega) z1).symm, (lo_done s11 (by decide) (by decide) (by omega) (by omega) z2).symm, (lo_done s11 (by decide) (by decide) (by omega) (by omega) z3).symm⟩
    · show t12 99 (970 + 2 * k) = t12 72 k ∧ t12 99 (971 + 2 * k) = t12 73 k
      obtain ⟨z0, z1⟩ := d12 k hk
      rw [show 970 + 2 * k + 0 = 970 + 2 * k by omega] at z0
      rw [show 970 + 2 * k + 1 = 971 + 2 * k by omega] at z1
      exact ⟨z0.symm, z1.symm⟩
    · show t12 99 (241 + k) = t12 75 k
      have := d8 k hk
      rw [show 241 + 1 * k + 0 = 241 + k by omega] at this
      exact (lo_done s8 (by decide) (by decide) (by omega) (by omega) this).symm
    · show t12 99 (112 + 2 * k) = t12 76 k ∧ t12 99 (113 + 2 * k) = t12 77 k
      obtain ⟨z0, z1⟩ := d3 k hk
      rw [show 112 + 2 * k + 0 = 112 + 2 * k by omega] at z0
      rw [show 112 + 2 * k + 1 = 113 + 2 * k by omega] at z1
      exact ⟨(lo_done s3 (by decide) (by decide) (by omega) (by omega) z0).symm, (lo_done s3 (by decide) (by decide) (by omega) (by omega) z1).symm⟩
    · show t12 99 (172 + k) = t12 81 k
      have := d5 k hk
      rw [show 172 + 1 * k + 0 = 172 + k by omega] at this
      exact (lo_done s5 (by decide) (by decide) (by omega) (by omega) this).symm
    · show t12 99 (214 + 3 * k) = t12 85 k ∧ t12 99 (215 + 3 * k) = t12 86 k ∧ t12 99 (216 + 3 * k) = t12 87 k
      obtain ⟨z0, z1, z2⟩ := d7 k hk
      rw [show 214 + 3 * k + 0 = 214 + 3 * k by omega] at z0
      rw [show 214 + 3 * k + 1 = 215 + 3 * k by omega] at z1
      rw [show 214 + 3 * k + 2 = 216 + 3 * k by omega] at z2
      exact ⟨(lo_done s7 (by decide) (by decide) (by omega) (by omega) z0).symm, (lo_done s7 (by decide) (by decide) (by omega) (by omega) z1).symm, (lo_done s7 (by decide) (by decide) (by omega) (by omega) z2).symm⟩
    · show t12 99 (184 + 3 * k) = t12 89 k ∧ t12 99 (185 + 3 * k) = t12 95 k ∧ t12 99 (186 + 3 * k) = t12 96 k
      obtain ⟨z0, z1, z2⟩ := d6 k hk
      rw [show 184 + 3 * k + 0 = 184 + 3 * k by omega] at z0
      rw [show 184 + 3 * k + 1 = 185 + 3 * k by omega] at z1
      rw [show 184 + 3 * k + 2 = 186 + 3 * k by omega] at z2
      exact ⟨(lo_done s6 (by decide) (by decide) (by omega) (by omega) z0).symm, (lo_done s6 (by decide) (by decide) (by omega) (by omega) z1).symm, (lo_done s6 (by decide) (by decide) (by omega) (by omega) z2).symm⟩
    · show t12 99 (144 + 2 * k) = t12 92 k ∧ t12 99 (145 + 2 * k) = t12 93 k
      obtain ⟨z0, z1⟩ := d4 k hk
      rw [show 144 + 2 * k + 0 = 144 + 2 * k by omega] at z0
      rw [show 144 + 2 * k + 1 = 145 + 2 * k by omega] at z1
      exact ⟨(lo_done s4 (by decide) (by decide) (by omega) (by omega) z0).symm, (lo_done s4 (by decide) (by decide) (by omega) (by omega) z1).symm⟩
