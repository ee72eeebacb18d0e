/-! feed, undo -/
theorem up_up {σ : nd_Mem} {i k : Nat} {v w : Int32} : nd_up (nd_up σ i k w) i k v = nd_up σ i k v := by
  funext a j
  by_cases h : a = i
  · by_cases h2 : j = k
    · simp [u_app, h, h2]
    · simp [u_app, h, h2]
  · simp [u_app, h]
theorem row_up {σ : nd_Mem} {i j k l : Nat} {g : Nat → Int32} {v w : Int32} (hij : i ≠ j) : nd_up (nd_up (nd_row σ i g) j k w) i l v = nd_up (nd_row σ i (upd g l v)) j k w := by
  funext a b
  by_cases h : a = i
  · subst h
    simp [u_app, row_app, upd, hij]
  · simp [u_app, row_app, upd, h]
theorem nI_any (x : Int32) : x = nI x.toBitVec.toNat := by
  apply Int32.toBitVec_inj.mp
  simp [nI]
def by_ (x s : Int32) : Int32 := (x >>> (s &&& 31)) &&& 255
theorem by_bt (x s : Int32) : iv_bt (by_ x s) 0 255 := by
  unfold by_
  generalize x >>> (s &&& 31) = y
  refine ⟨y.toBitVec.toNat &&& 255, by omega, Nat.and_le_right, ?_⟩
  rw [← n_and, ← nI_any]
  rfl
theorem b255 : ∀ i : Fin 32, ¬ i.val < 8 → (255#32).getLsbD i.val = false := by decide
theorem sh_eq (b : BitVec 32) (k : Nat) (hk : k ≤ 24) : (b >>> k) &&& 255#32 = (b.sshiftRight k) &&& 255#32 := by
  apply BitVec.eq_of_getLsbD_eq
  intro i hi
  simp only [BitVec.getLsbD_and, BitVec.getLsbD_ushiftRight, BitVec.getLsbD_sshiftRight]
  by_cases h8 : i < 8
  · have h1 : ¬ 32 ≤ i := by omega
    have h2 : k + i < 32 := by omega
    simp [h1, h2]
  · rw [b255 ⟨i, hi⟩ h8, Bool.and_false, Bool.and_false]
theorem by24 (x : Int32) : q_ushr x 24 &&& 255 = by_ x 24 := Int32.toBitVec_inj.mp (sh_eq x.toBitVec 24 (by decide))
theorem by16 (x : Int32) : q_ushr x 16 &&& 255 = by_ x 16 := Int32.toBitVec_inj.mp (sh_eq x.toBitVec 16 (by decide))
theorem by8 (x : Int32) : q_ushr x 8 &&& 255 = by_ x 8 := Int32.toBitVec_inj.mp (sh_eq x.toBitVec 8 (by decide))
theorem by0 (x : Int32) : q_ushr x 0 &&& 255 = by_ x 0 := Int32.toBitVec_inj.mp (sh_eq x.toBitVec 0 (by decide))
def tkf (m : Nat) (x : Int32) (g : Nat → Int32) : Nat → Int32 := upd (upd (upd (upd g m (by_ x 24)) (m + 1) (by_ x 16)) (m + 2) (by_ x 8)) (m + 3) (by_ x 0)
theorem tkf_ok {m : Nat} {x : Int32} {g h : Nat → Int32} (H : ∀ i : Nat, i < m → g i = h i ∧ iv_bt (h i) 0 255) : ∀ i : Nat, i < m + 4 → tkf m x g i = tkf m x h i ∧ iv_bt (tkf m x h i) 0 255 := by
  intro i hi
  unfold tkf
  by_cases h3 : i = m + 3
  · subst h3
    rw [upd_eq, upd_eq]
    exact ⟨rfl, by_bt _ _⟩
  rw [upd_ne h3, upd_ne h3]
  by_cases h2 : i = m + 2
  · subst h2
    rw [upd_eq, upd_eq]
    exact ⟨rfl, by_bt _ _⟩
  rw [upd_ne h2, upd_ne h2]
  by_cases h1 : i = m + 1
  · subst h1
    rw [upd_eq, upd_eq]
    exact ⟨rfl, by_bt _ _⟩
  rw [upd_ne h1, upd_ne h1]
  by_cases h0 : i = m
  · subst h0
    rw [upd_eq, upd_eq]
    exact ⟨rfl, by_bt _ _⟩
  rw [upd_ne h0, upd_ne h0]
  exact H i (by omega)
section FEED
variable {F : Nat} {σ : nd_Mem} {m f : Nat} {g : Nat → Int32}
theorem tk1 {x s : Int32} (hs : ¬ s < 0) (hm : m < 400) : f_X3_take_3 F (f + 1) x s (nd_up (nd_row σ 47 g) 38 2 (nI m)) = f_X3_take_3 F f x (s + (-8 : Int32)) (nd_up (nd_row σ 47 (upd g m (q_ushr x s &&& 255))) 38 2 (nI (m + 1))) := by
  show f_X3_take_3_b F (f_X3_take_3 F f) x s _ = _
  unfold f_X3_take_3_b f_X3_take_43 nd_let
  simp only [u_eq]
  rw [if_neg hs, if_neg (show ¬ (400 : Int32) ≤ nI m from nI_ge (b := 400) hm (by decide)), if_neg (nI_in hm (by decide)), nI_clamp (by omega), row_up (by decide), u_eq, up_up, nI_1]
theorem tk0 {x s : Int32} (hs : s < 0) : f_X3_take_3 F (f + 1) x s (nd_up (nd_row σ 47 g) 38 2 (nI m)) = some (nI m, nd_up (nd_row σ 47 g) 38 2 (nI m)) := by
  show f_X3_take_3_b F (f_X3_take_3 F f) x s _ = _
  unfold f_X3_take_3_b
  rw [if_pos hs, u_eq]
theorem e_take (hF : 300000 ≤ F) {x : Int32} (hm : m + 4 ≤ 400) : f_X3_take F x (nd_up (nd_row σ 47 g) 38 2 (nI m)) = some (nI (m + 4), nd_up (nd_row σ 47 (tkf m x g)) 38 2 (nI (m + 4))) := by
  unfold f_X3_take
  have key : ∀ f : Nat, f_X3_take_3 F (f + 1 + 1 + 1 + 1 + 1) x 24 (nd_up (nd_row σ 47 g) 38 2 (nI m)) = some (nI (m + 4), nd_up (nd_row σ 47 (tkf m x g)) 38 2 (nI (m + 4))) := by
    intro f
    rw [tk1 (by decide) (by omega), show (24 : Int32) + -8 = 16 by decide, tk1 (by decide) (by omega), show (16 : Int32) + -8 = 8 by decide, tk1 (by decide) (by omega), show (8 : Int32) + -8 = 0 by decide, tk1 (by decide) (by omega), show (0 : Int32) + -8 = -8 by decide, tk0 (by decide), by24, by16, by8, by0]
    rfl
  obtain ⟨f, rfl⟩ : ∃ f, F = f + 1 + 1 + 1 + 1 + 1 := ⟨F - 5, by omega⟩
  exact key f
theorem ty1 {x s : Int32} (hs : ¬ s < 0) (hm : m < 400) : f_X11_types_3 F (f + 1) x s (nd_up (nd_row σ 65 g) 60 9 (nI m)) = f_X11_types_3 F f x (s + (-8 : Int32)) (nd_up (nd_row σ 65 (upd g m (by_ x s))) 60 9 (nI (m + 1))) := by
  show f_X11_types_3_b F (f_X11_types_3 F f) x s _ = _
  unfold f_X11_types_3_b nd_let
  simp only [u_eq]
  rw [if_neg hs, if_neg (nI_in hm (by decide)), nI_clamp (by omega), row_up (by decide), u_eq, up_up, nI_1]
  rfl
theorem ty0 {x s : Int32} (hs : s < 0) : f_X11_types_3 F (f + 1) x s (nd_up (nd_row σ 65 g) 60 9 (nI m)) = some (0, nd_up (nd_row σ 65 g) 60 9 (nI m)) := by
  show f_X11_types_3_b F (f_X11_types_3 F f) x s _ = _
  unfold f_X11_types_3_b
  rw [if_pos hs]
theorem e_types (hF : 300000 ≤ F) {x : Int32} (hm : m + 4 ≤ 400) : f_X11_types F x (nd_up (nd_row σ 65 g) 60 9 (nI m)) = some (0, nd_up (nd_row σ 65 (tkf m x g)) 60 9 (nI (m + 4))) := by
  unfold f_X11_types
  have key : ∀ f : Nat, f_X11_types_3 F (f + 1 + 1 + 1 + 1 + 1) x 24 (nd_up (nd_row σ 65 g) 60 9 (nI m)) = some (0, nd_up (nd_row σ 65 (tkf m x g)) 60 9 (nI (m + 4))) := by
    intro f
    rw [ty1 (by decide) (by omega), show (24 : Int32) + -8 = 16 by decide, ty1 (by decide) (by omega), show (16 : Int32) + -8 = 8 by decide, ty1 (by decide) (by omega), show (8 : Int32) + -8 = 0 by decide, ty1 (by decide) (by omega), show (0 : Int32) + -8 = -8 by decide, ty0 (by decide)]
    rfl
  obtain ⟨f, rfl⟩ : ∃ f, F = f + 1 + 1 + 1 + 1 + 1 := ⟨F - 5, by omega⟩
  exact key f
end FEED
def tk5 (m : Nat) (x1 x2 x3 x4 x5 : Int32) (g : Nat → Int32) : Nat → Int32 := tkf (m + 4 + 4 + 4 + 4) x5 (tkf (m + 4 + 4 + 4) x4 (tkf (m + 4 + 4) x3 (tkf (m + 4) x2 (tkf m x1 g))))
theorem op_feed {F : Nat} (hF : 300000 ≤ F) (x1 x2 x3 x4 x5 : Int32) : op_ (f_X10_feed F x1 x2 x3 x4 x5) (f_X11_feed F x1 x2 x3 x4 x5) := by
  intro σ n hI
  obtain ⟨⟨hn, hq1, hq2, hq3, hq4, hq5, hq6, hq7, hq8, hla, hpl, hfd, hsd⟩, hpa, htp, hpi, hfx⟩ := id hI
  obtain ⟨t1, t2, m, t3, t4, t5, t6⟩ := id htp
  by_cases h : m ≤ 380
  · have hf : fr_ [38, 47, 65] [0, 9] σ (nd_up (nd_row (nd_up (nd_up (nd_row σ 47 (tk5 m x1 x2 x3 x4 x5 (σ 47))) 38 2 (nI (m + 20))) 60 0 0) 65 (tk5 m x1 x2 x3 x4 x5 (σ 65))) 60 9 (nI (m + 20))) := (by repeat first | exact fr_rf | (refine fr_up57 ?_ (by decide)) | (refine fr_up ?_ (by decide) (by decide)) | (refine fr_row ?_ (by decide) (by decide)))
    refine ⟨nI (m + 20), nd_up (nd_row σ 47 (tk5 m x1 x2 x3 x4 x5 (σ 47))) 38 2 (nI (m + 20)), _, n, ?_, ?_, ⟨⟨c_hn (fr_use hf (by decide)) hn, c_hq1 (fr_use hf (by decide)) hq1, c_hq2 (fr_use hf (by decide)) hq2, c_hq3 (fr_use hf (by decide)) hq3, c_hq4 (fr_use hf (by decide)) hq4, c_hq5 (fr_use hf (by decide)) hq5, c_hq6 (fr_use hf (by decide)) hq6, c_hq7 (fr_use hf (by decide)) hq7, c_hq8 (fr_use hf (by decide)) hq8, c_hla (fr_use hf (by decide)) hla, c_hpl (fr_use hf (by decide)) hpl, c_hfd (fr_use hf (by decide)) hfd, c_hsd (fr_use hf (by decide)) hsd⟩, c_hpa (fr_use hf (by decide)) hpa, ?_, c_hpi (fr_use hf (by decide)) hpi, c_hfx (fr_use hf (by decide)) hfx⟩, congrFun (hf.1 0 (by decide) (by decide)) 10⟩
    · have e0 : nd_up (nd_row σ 47 (σ 47)) 38 2 (nI m) = σ := by rw [row_id, up_same t4]
      unfold f_X10_feed f_X3_hasRoom
      rw [t4, if_neg (show ¬ (400 : Int32) < nI m + 20 from by rw [show (20 : Int32) = nI 20 from rfl, n_add]; exact nI_nlt (a := 400) (by omega) (by omega)), n_bind, if_neg (by decide)]
      have h1 := e_take (σ := σ) (m := m) (g := σ 47) hF (x := x1) (by omega)
      rw [e0] at h1
      rw [h1, n_bind, e_take hF (by omega), n_bind, e_take hF (by omega), n_bind, e_take hF (by omega), n_bind, e_take hF (by omega), n_bind]
      rfl
    · have e0 : ∀ τ : nd_Mem, τ 65 = σ 65 → τ 60 9 = nI m → nd_up (nd_row τ 65 (σ 65)) 60 9 (nI m) = τ := by
        intro τ a b
        rw [← a, row_id, up_same b]
      have e1 : nd_up (nd_up (nd_row σ 47 (tk5 m x1 x2 x3 x4 x5 (σ 47))) 38 2 (nI (m + 20))) 60 0 0 65 = σ 65 := rfl
      have e2 : nd_up (nd_up (nd_row σ 47 (tk5 m x1 x2 x3 x4 x5 (σ 47))) 38 2 (nI (m + 20))) 60 0 0 60 9 = nI m := t5
      unfold f_X11_feed nd_let
      generalize nd_up (nd_up (nd_row σ 47 (tk5 m x1 x2 x3 x4 x5 (σ 47))) 38 2 (nI (m + 20))) 60 0 0 = τ at e1 e2 ⊢
      have h1 := e_types (σ := τ) (m := m) (g := σ 65) hF (x := x1) (by omega)
      rw [e0 τ e1 e2] at h1
      dsimp only
      rw [e2, if_pos (show nI m ≤ (380 : Int32) from nI_le (b := 380) h (by decide)), h1, n_bind, e_types hF (by omega), n_bind, e_types hF (by omega), n_bind, e_types hF (by omega), n_bind, e_types hF (by omega), n_bind, u_eq]
      rfl
    · refine ⟨t1, t2, m + 20, by omega, rfl, rfl, ?_⟩
      have := tkf_ok (x := x5) (tkf_ok (x := x4) (tkf_ok (x := x3) (tkf_ok (x := x2) (tkf_ok (x := x1) t6))))
      exact this
  · refine ⟨-1, σ, nd_up σ 60 0 0, n, ?_, ?_, iv_fr (S := []) (K := [0]) (by repeat first | exact fr_rf | (refine fr_up57 ?_ (by decide)) | (refine fr_up ?_ (by decide) (by decide)) | (refine fr_row ?_ (by decide) (by decide))) (by decide) hI, rfl⟩
    · unfold f_X10_feed f_X3_hasRoom
      rw [t4, if_pos (show (400 : Int32) < nI m + 20 from by rw [show (20 : Int32) = nI 20 from rfl, n_add]; exact nI_lt (a := 400) (by omega) (by omega)), n_bind, if_pos rfl]
    · unfold f_X11_feed nd_let
      dsimp only
      rw [show nd_up σ 60 0 0 60 9 = nI m from t5, if_neg (show ¬ nI m ≤ (380 : Int32) from nI_ge (a := 380) (by omega) (by omega))]
