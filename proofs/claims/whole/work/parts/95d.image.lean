/-! image: the calls -/
theorem ag_sym {r r' : nd_Mem} (h : ag_ r r') : ag_ r' r := by
  obtain ⟨a57, a58, a61, a64, a65, a69, a72, a73, a78, a82, a86, a89⟩ := h
  exact ⟨fun k hk => (a57 k hk).symm, fun k hk => (a58 k hk).symm, fun k hk => (a61 k hk).symm, a64.symm, fun k hk => ⟨(a65 k hk).1.symm, (a65 k hk).2.1.symm, (a65 k hk).2.2.1.symm, (a65 k hk).2.2.2.symm⟩, fun k hk => ⟨(a69 k hk).1.symm, (a69 k hk).2.symm⟩, fun k hk => (a72 k hk).symm, fun k hk => ⟨(a73 k hk).1.symm, (a73 k hk).2.symm⟩, fun k hk => (a78 k hk).symm, fun k hk => ⟨(a82 k hk).1.symm, (a82 k hk).2.1.symm, (a82 k hk).2.2.symm⟩, fun k hk => ⟨(a86 k hk).1.symm, (a86 k hk).2.1.symm, (a86 k hk).2.2.symm⟩, fun k hk => ⟨(a89 k hk).1.symm, (a89 k hk).2.symm⟩⟩
theorem ag_tr {r r' r'' : nd_Mem} (h : ag_ r r') (h2 : ag_ r' r'') : ag_ r r'' := by
  obtain ⟨a57, a58, a61, a64, a65, a69, a72, a73, a78, a82, a86, a89⟩ := h
  obtain ⟨b57, b58, b61, b64, b65, b69, b72, b73, b78, b82, b86, b89⟩ := h2
  exact ⟨fun k hk => (b57 k hk).trans (a57 k hk), fun k hk => (b58 k hk).trans (a58 k hk), fun k hk => (b61 k hk).trans (a61 k hk), b64.trans a64, fun k hk => ⟨(b65 k hk).1.trans (a65 k hk).1, (b65 k hk).2.1.trans (a65 k hk).2.1, (b65 k hk).2.2.1.trans (a65 k hk).2.2.1, (b65 k hk).2.2.2.trans (a65 k hk).2.2.2⟩, fun k hk => ⟨(b69 k hk).1.trans (a69 k hk).1, (b69 k hk).2.trans (a69 k hk).2⟩, fun k hk => (b72 k hk).trans (a72 k hk), fun k hk => ⟨(b73 k hk).1.trans (a73 k hk).1, (b73 k hk).2.trans (a73 k hk).2⟩, fun k hk => (b78 k hk).trans (a78 k hk), fun k hk => ⟨(b82 k hk).1.trans (a82 k hk).1, (b82 k hk).2.1.trans (a82 k hk).2.1, (b82 k hk).2.2.trans (a82 k hk).2.2⟩, fun k hk => ⟨(b86 k hk).1.trans (a86 k hk).1, (b86 k hk).2.1.trans (a86 k hk).2.1, (b86 k hk).2.2.trans (a86 k hk).2.2⟩, fun k hk => ⟨(b89 k hk).1.trans (a89 k hk).1, (b89 k hk).2.trans (a89 k hk).2⟩⟩
theorem ag_eq {r r' : nd_Mem} (h : ∀ i ∈ [61, 64, 67, 68, 69, 70, 71, 72, 73, 75, 76, 77, 81, 85, 86, 87, 89, 95, 96, 92, 93], r' i = r i) (h57 : ∀ k ∈ [6, 31, 33, 35, 40, 45, 50, 54, 61], r' 60 k = r 60 k) : ag_ r r' := by
  refine ⟨h57, fun k _ => ?_, fun k _ => ?_, ?_, fun k _ => ⟨?_, ?_, ?_, ?_⟩, fun k _ => ⟨?_, ?_⟩, fun k _ => ?_, fun k _ => ⟨?_, ?_⟩, fun k _ => ?_, fun k _ => ⟨?_, ?_, ?_⟩, fun k _ => ⟨?_, ?_, ?_⟩, fun k _ => ⟨?_, ?_⟩⟩ <;> rw [h _ (by decide)]
/-- the reference's call, whichever way -/
theorem e_imgCall {F : Nat} (hF : 300000 ≤ F) (x : Int32) (hx : x = 0 ∨ x = 1) (τ : nd_Mem) : ∃ ρ : nd_Mem, f_X11_image_18 F x τ = (if x = 0 then some (1, nd_up ρ 60 3 0) else some (1, ρ)) ∧ (x = 0 → ρ 99 = τ 99) ∧ (x ≠ 0 → ∀ i j : Nat, i ≠ 99 → ¬ (i = 60 ∧ (j = 65 ∨ j = 66 ∨ j = 67)) → ρ i j = τ i j) ∧ (∀ i : Nat, i ∉ iA → i ≠ 99 → ρ i = τ i) ∧ (∀ j : Nat, j ∉ [6, 31, 33, 35, 40, 45, 50, 54, 61, 65, 66, 67] → ρ 60 j = τ 60 j) ∧ ρ 60 66 = 1 ∧ dn_ (ρ 99) ρ := by
  obtain ⟨ρ, e1, l, k, d⟩ := e_imgM (F := F) hF x (nd_up (nd_up (nd_up τ 60 65 x) 60 66 1) 60 67 0) rfl rfl
  refine ⟨ρ, ?_, fun h0 => ?_, fun h0 i j h1 h2 => ?_, fun i h1 h2 => ?_, fun j hj => ?_, ?_, d⟩
  · unfold f_X11_image_18
    rw [if_neg (fun e => e hx), n_let, if_neg (by decide), n_let, n_let]
    exact e1
  · rw [l.2.2.1 h0]; rfl
  · rw [l.2.2.2.1 h0 i j h1 (fun e => h2 ⟨e.1, Or.inr (Or.inr e.2)⟩), u_app, u_app, u_app]
    by_cases h57 : i = 60
    · rw [if_pos h57, if_neg (fun e => h2 ⟨h57, Or.inr (Or.inr e)⟩), if_pos h57, if_neg (fun e => h2 ⟨h57, Or.inr (Or.inl e)⟩), if_pos h57, if_neg (fun e => h2 ⟨h57, Or.inl e⟩)]
    · rw [if_neg h57, if_neg h57, if_neg h57]
  · have h57 : i ≠ 60 := fun e => h1 (by rw [e]; decide)
    funext j
    rw [l.2.2.2.2.1 i j h1 h2 (fun e => h57 e.1), u_ne1 h57, u_ne1 h57, u_ne1 h57]
  · simp only [List.mem_cons, List.not_mem_nil, or_false, not_or] at hj
    rw [k j (by simp only [List.mem_cons, List.not_mem_nil, or_false, not_or]; omega) (by omega), u_ne2 (by omega), u_ne2 (by omega), u_ne2 (by omega)]
  · rw [k 66 (by decide) (by decide)]
    rfl
theorem fr_eq_mk {D E : List Nat} {σ τ : nd_Mem} (h1 : ∀ i ∈ D, τ i = σ i) (h2 : ∀ k ∈ E, τ 60 k = σ 60 k) : fr_eq D E σ τ := ⟨h1, h2⟩
theorem op_imageB0 {F : Nat} (hF : 300000 ≤ F) : op_ (f_X10_imageB F 0) (f_X11_image F 0) := by
  intro σ n hI
  obtain ⟨hK, hpa, htp, hpi, hfx⟩ := id hI
  rcases hpi with ⟨p1, p2⟩ | ⟨p1, p2, n', hK'⟩
  · refine ⟨0, σ, nd_up σ 60 0 0, n, ?_, ?_, iv_fr (S := []) (K := [0]) (by repeat first | exact fr_rf | (refine fr_up57 ?_ (by decide)) | (refine fr_up ?_ (by decide) (by decide)) | (refine fr_row ?_ (by decide) (by decide))) (by decide) hI, rfl⟩
    · unfold f_X10_imageB
      rw [if_pos rfl, if_pos p1]
    · unfold f_X11_image
      rw [n_let, if_pos rfl, if_pos (show nd_up σ 60 0 0 60 66 = 0 from p2)]
  · obtain ⟨t0, g1, g2, g3⟩ := e_giveC (F := F) hF hK'
    obtain ⟨ρ, e1, e2, _, e4, e5, e6, e7⟩ := e_imgCall (F := F) hF 0 (Or.inl rfl) (nd_up (nd_up t0 24 1 0) 60 0 0)
    rw [if_pos rfl] at e1
    have c96 : ρ 99 = σ 99 := by rw [e2 rfl, nd_up_ne (by decide), nd_up_ne (by decide), g2.1 99 (by decide) (by decide)]
    have oth : ∀ i : Nat, i ∉ iA → i ≠ 99 → i ≠ 24 → i ≠ 60 → (nd_up ρ 60 3 0) i = t0 i := fun i h1 h2 h3 h4 => by rw [nd_up_ne h4, e4 i h1 h2, nd_up_ne h4, nd_up_ne h3]
    have oth2 : ∀ i : Nat, i ∉ iA → i ≠ 99 → i ≠ 24 → i ≠ 60 → i ∉ cls_ → (nd_up ρ 60 3 0) i = σ i := fun i h1 h2 h3 h4 h5 => by rw [oth i h1 h2 h3 h4, g2.1 i h5 h4]
    have s57 : ∀ j : Nat, j ∉ [0, 3, 6, 31, 33, 35, 40, 45, 50, 54, 61, 65, 66, 67] → (nd_up ρ 60 3 0) 60 j = σ 60 j := fun j hj => by
      simp only [List.mem_cons, List.not_mem_nil, or_false, not_or] at hj
      rw [u_ne2 (by omega), e5 j (by simp only [List.mem_cons, List.not_mem_nil, or_false, not_or]; omega), u_ne2 (by omega), u_ne1 (by decide), g2.2 j (by simp)]
    have K1 : iv_K t0 (iv_img (σ 99)) n' := K_c g3 hK'
    rw [c96] at e7
    have K2 : iv_K t0 ρ n' := K_r (ag_sym e7) K1
    have K3 : iv_K t0 (nd_up ρ 60 3 0) n' := K_r (ag_eq (fun i hi => nd_up_ne (by
      simp only [List.mem_cons, List.not_mem_nil, or_false] at hi
      omega)) (fun k hk => u_ne2 (by
      simp only [List.mem_cons, List.not_mem_nil, or_false] at hk
      omega))) K2
    have K4 : iv_K (nd_up ρ 60 3 0) (nd_up ρ 60 3 0) n' := kc_ (fun i hi => oth i (by simp only [List.mem_cons, List.not_mem_nil, or_false]; omega) (by omega) (by omega) (by omega)) K3
    refine ⟨1, nd_up t0 24 1 0, nd_up ρ 60 3 0, n', ?_, ?_, ⟨K4, ?_, ?_, ?_, ?_⟩, ?_⟩
    · unfold f_X10_imageB f_X1_forget
      rw [if_pos rfl, if_neg (by rw [p1]; decide), g1, n_bind, n_let, n_bind]
    · unfold f_X11_image
      rw [n_let, if_pos rfl, if_neg (by
        rw [u_ne2 (by decide), u_ne1 (by decide), g2.2 66 (by simp), p2]
        decide), e1]
    · obtain ⟨m, x, m1, m2, m3, m4, m5, m6⟩ := hpa
      refine ⟨0, x, by omega, m2, ?_, u_eq _ _ _ _, ?_, fun j hj => absurd hj (Nat.not_lt_zero j)⟩
      · rw [u_ne1 (by decide), e4 24 (by decide) (by decide), u_ne1 (by decide), u_eq]; rfl
      · rw [u_ne1 (by decide), e4 24 (by decide) (by decide), u_ne1 (by decide), u_ne2 (by decide), g2.1 24 (by decide) (by decide)]
        exact m5
    · exact c_htp (fr_eq_mk (by
        intro i hi
        simp only [List.mem_cons, List.not_mem_nil, or_false] at hi
        rcases hi with rfl | rfl | rfl <;> exact oth2 _ (by decide) (by decide) (by decide) (by decide) (by decide)) (by
        intro k hk
        simp only [List.mem_cons, List.not_mem_nil, or_false] at hk
        rcases hk with rfl | rfl | rfl <;> exact s57 _ (by decide))) htp
    · right
      refine ⟨by rw [oth2 0 (by decide) (by decide) (by decide) (by decide) (by decide)]; exact p1, by rw [u_ne2 (by decide)]; exact e6, n', ?_⟩
      rw [nd_up_ne (by decide), c96]
      refine kc_ (fun i hi => ?_) hK'
      exact oth2 (100 + i) (by simp only [List.mem_cons, List.not_mem_nil, or_false]; omega) (by omega) (by omega) (by omega) (by simp only [List.mem_cons, List.not_mem_nil, or_false]; omega)
    · exact c_hfx (fr_eq_mk (by
        intro i hi
        simp only [List.mem_cons, List.not_mem_nil, or_false] at hi
        rcases hi with rfl | rfl | rfl | rfl <;> exact oth2 _ (by decide) (by decide) (by decide) (by decide) (by decide)) (by
        intro k hk
        simp only [List.mem_cons, List.not_mem_nil, or_false] at hk
        rcases hk with rfl
        exact s57 _ (by decide))) hfx
    · rw [oth2 0 (by decide) (by decide) (by decide) (by decide) (by decide)]
theorem kc1_ {c c' r : nd_Mem} {n : Nat} (h : ∀ i : Nat, 0 < i → i < 24 → c' i = c i) (hK : iv_K c r n) : iv_K c' r n := by
  refine K_c ?_ hK
  refine ⟨fun k _ _ => ?_, fun k _ => ?_, ⟨?_, ?_, ?_⟩, ⟨?_, fun _ k _ _ _ => ?_⟩, ⟨?_, fun _ k _ _ _ => ?_⟩, ⟨?_, fun _ k _ _ _ => ?_⟩, fun k _ => ?_, fun k _ => ?_, ⟨?_, fun _ k _ _ _ => ?_⟩, ⟨?_, fun _ k _ _ _ => ?_⟩, ⟨?_, fun _ k _ _ _ => ?_⟩, ⟨?_, fun _ k _ _ _ => ?_⟩, ⟨?_, fun _ k _ _ _ => ?_⟩, fun k _ => ?_⟩ <;> rw [h _ (by decide) (by decide)]
/-- taking an image: what both leave -/
theorem e_taken {F n : Nat} (hF : 300000 ≤ F) {σ τ : nd_Mem} (hI : iv_I n σ) (h0 : τ 0 10 = 1) (hf : ∀ i : Nat, i ≠ 0 → i < 100 → τ i = σ i) : ∃ (t ρ : nd_Mem), f_X10_image_22 F τ = some (1, t) ∧ f_X11_image F 1 t = some (1, ρ) ∧ iv_I n ρ ∧ ρ 0 10 = 1 := by
  obtain ⟨hK, hpa, htp, hpi, hfx⟩ := id hI
  have Kc : iv_K τ σ n := by
    exact kc1_ (fun i h1 h2 => hf i (by omega) (by omega)) hK
  obtain ⟨t, g1, g2, g3⟩ := e_takeC (F := F) hF Kc
  obtain ⟨ρ, e1, _, e3, e4, e5, e6, e7⟩ := e_imgCall (F := F) hF 1 (Or.inr rfl) (nd_up t 60 0 0)
  rw [if_neg (by decide)] at e1
  have low : ∀ i : Nat, i ≠ 0 → i < 100 → i ≠ 60 → i ≠ 99 → ρ i = σ i := fun i h1 h2 h3 h4 => by
    funext j
    rw [e3 (by decide) i j h4 (fun e => h3 e.1), u_ne1 h3, g2.1 i (by simp only [List.mem_cons, List.not_mem_nil, or_false]; omega) h3, hf i h1 h2]
  have s57 : ∀ j : Nat, j ∉ [0, 65, 66, 67] → ρ 60 j = σ 60 j := fun j hj => by
    simp only [List.mem_cons, List.not_mem_nil, or_false, not_or] at hj
    rw [e3 (by decide) 60 j (by decide) (by omega), u_ne2 (by omega), g2.2 j (by simp), hf 60 (by decide) (by decide)]
  have hi0 : ρ 0 10 = 1 := by
    rw [e3 (by decide) 0 10 (by decide) (by omega), u_ne1 (by decide), g2.1 0 (by decide) (by decide)]
    exact h0
  have high : ∀ i : Nat, 100 < i → i < 124 → ρ i = t i := fun i h1 h2 => by
    funext j
    rw [e3 (by decide) i j (by omega) (by omega), u_ne1 (by omega)]
  have aσ : ag_ σ ρ := ag_eq (fun i hi => low i (by
      simp only [List.mem_cons, List.not_mem_nil, or_false] at hi
      omega) (by
      simp only [List.mem_cons, List.not_mem_nil, or_false] at hi
      omega) (by
      simp only [List.mem_cons, List.not_mem_nil, or_false] at hi
      omega) (by
      simp only [List.mem_cons, List.not_mem_nil, or_false] at hi
      omega)) (fun k hk => s57 k (by
      simp only [List.mem_cons, List.not_mem_nil, or_false] at hk ⊢
      omega))
  refine ⟨t, ρ, ?_, ?_, ⟨?_, ?_, ?_, ?_, ?_⟩, hi0⟩
  · unfold f_X10_image_22
    rw [if_neg (by rw [h0]; decide), g1, n_bind]
  · unfold f_X11_image
    rw [n_let, if_neg (by decide), e1]
  · exact kc1_ (fun i hi0 hi => low i (by omega) (by omega) (by omega) (by omega)) (K_r aσ hK)
  · exact c_hpa (fr_eq_mk (by
      intro i hi
      simp only [List.mem_cons, List.not_mem_nil, or_false] at hi
      exact low i (by omega) (by omega) (by omega) (by omega)) (by
      intro k hk
      simp only [List.mem_cons, List.not_mem_nil, or_false] at hk
      exact s57 k (by subst hk; decide))) hpa
  · exact c_htp (fr_eq_mk (by
      intro i hi
      simp only [List.mem_cons, List.not_mem_nil, or_false] at hi
      exact low i (by omega) (by omega) (by omega) (by omega)) (by
      intro k hk
      simp only [List.mem_cons, List.not_mem_nil, or_false] at hk
      rcases hk with rfl | rfl | rfl <;> exact s57 _ (by decide))) htp
  · right
    refine ⟨hi0, e6, n, ?_⟩
    have V : iv_K (fun i => t (100 + i)) σ n := K_c g3 Kc
    have V2 : iv_K (fun i => t (100 + i)) (iv_img (ρ 99)) n := K_r (ag_tr aσ e7) V
    exact kc1_ (fun i h1 h2 => high (100 + i) (by omega) (by omega)) V2
  · exact c_hfx (fr_eq_mk (by
      intro i hi
      simp only [List.mem_cons, List.not_mem_nil, or_false] at hi
      exact low i (by omega) (by omega) (by omega) (by omega)) (by
      intro k hk
      simp only [List.mem_cons, List.not_mem_nil, or_false] at hk
      exact s57 k (by subst hk; decide))) hfx
theorem op_imageB1 {F : Nat} (hF : 300000 ≤ F) (σ : nd_Mem) (n : Nat) (hI : iv_I n σ) (h0 : ¬ σ 0 10 = 0) : ∃ (r : Int32) (τ ρ : nd_Mem) (n' : Nat), f_X10_imageB F 1 σ = some (r, τ) ∧ f_X11_image F 1 τ = some (r, ρ) ∧ iv_I n' ρ ∧ ρ 0 10 = σ 0 10 := by
  have h1 : σ 0 10 = 1 := by
    rcases hI.2.2.2.1 with ⟨p1, _⟩ | ⟨p1, _⟩
    · exact absurd p1 h0
    · exact p1
  obtain ⟨t, ρ, e1, e2, e3, e4⟩ := e_taken (F := F) hF hI h1 (fun _ _ _ => rfl)
  refine ⟨1, t, ρ, n, ?_, e2, e3, by rw [e4, h1]⟩
  unfold f_X10_imageB
  rw [if_neg (by decide), e1]
theorem e_fill {F : Nat} {σ : nd_Mem} {a n : Nat} {v : Int32} (hF : 300000 ≤ F) (hn : n ≤ 600) : ∃ g : Nat → Int32, f_J7_fill_53178 F a n v σ = some (0, nd_row σ a g) ∧ (∀ k : Nat, k < n → g k = v) ∧ ∀ k : Nat, n ≤ k → g k = σ a k := by
  unfold f_J7_fill_53178
  exact lp_id (L := fun f i τ => f_J7_fill_53178_5 F a n f v i (Int32.ofNat n) τ) (σ := σ) (r := a) (N := n) (v := fun _ => v) (z := fun τ => some (0, τ)) (fun f i g hi => by
    show f_J7_fill_53178_5_b F _ a n v (nI i) (nI n) _ = _
    unfold f_J7_fill_53178_5_b
    rw [if_neg (nI_ge hi (by omega)), if_neg (nI_in hi (by omega)), nI_clamp (by omega), n_let, up_row, nI_1]
    rfl) (fun f g => by
    show f_J7_fill_53178_5_b F _ a n v (nI n) (nI n) _ = _
    unfold f_J7_fill_53178_5_b
    rw [if_pos (nI_le (Nat.le_refl n) (by omega))]) F (by omega)
theorem e_picInit {F : Nat} {σ : nd_Mem} (hF : 300000 ≤ F) : ∃ τ : nd_Mem, f_X2_init F σ = some (0, τ) ∧ fr_ pic_ [] σ τ := by
  unfold f_X2_init f_X6_init f_X5_init f_X8_init f_X4_init
  simp only [n_let, n_bind]
  obtain ⟨g, e1, _⟩ := e_fill (F := F) (σ := _) (a := 112 + 11) (n := 10) (v := -1) hF (by decide)
  rw [e1]
  refine ⟨_, rfl, ?_⟩
  exact (by repeat first | exact fr_rf | (refine fr_up57 ?_ (by decide)) | (refine fr_up ?_ (by decide) (by decide)) | (refine fr_row ?_ (by decide) (by decide)))
theorem op_imageA {F : Nat} (hF : 300000 ≤ F) (σ : nd_Mem) (n : Nat) (hI : iv_I n σ) (h0 : σ 0 10 = 0) : ∃ (r : Int32) (τ ρ : nd_Mem) (n' : Nat), f_X10_imageA F 1 σ = some (r, τ) ∧ f_X11_image F 1 τ = some (r, ρ) ∧ iv_I n' ρ ∧ ¬ ρ 0 10 = 0 := by
  obtain ⟨t0, i1, i2⟩ := e_picInit (F := F) (σ := nd_row σ 100 (fun _ => 0)) hF
  obtain ⟨t, ρ, e1, e2, e3, e4⟩ := e_taken (F := F) (τ := nd_up t0 0 10 1) hF hI (u_eq _ _ _ _) (fun i h1 h2 => by
    rw [nd_up_ne h1]
    by_cases h57 : i = 60
    · subst h57
      funext k
      rw [i2.2 k (by simp), w_ne (by decide)]
    · rw [i2.1 i (by simp only [List.mem_cons, List.not_mem_nil, or_false]; omega) h57, nd_row_ne (by omega)])
  refine ⟨1, t, ρ, n, ?_, e2, e3, by rw [e4]; decide⟩
  unfold f_X10_imageA
  rw [if_neg (by decide), if_neg (fun e => e h0), n_let, i1, n_bind, n_let, e1]
