/-! text: the class finds all tokens, and goes from one to the next -/
section CC
variable {F z k : Nat} {c γ : nd_Mem} {t : Nat → Nat}
theorem f61_b {rec : Int32 → nd_Mem → nd_Res} {s : Nat} {y : Int32} (h : isb_ (t s) = true) : f_X3_findTokens_61 F rec (nI s) (nI (srt_ (t s))) y γ = rec (nI (s + 1)) γ := by
  unfold f_X3_findTokens_61 f_X3_findTokens_77
  rw [if_pos (show nI (srt_ (t s)) = (5 : Int32) by rw [srt_b h]; rfl), nI_1]
theorem f61_5 {s : Nat} (h : isb_ (t s) = false) : ¬ nI (srt_ (t s)) = (5 : Int32) := fun e => by
  have hlt := srt_lt (x := t s)
  have := srt_5 ((nI_eq (b := 5) (by omega) (by decide)).mp e)
  rw [h] at this
  exact absurd this (by decide)
theorem f61_1 {rec : Int32 → nd_Mem → nd_Res} {s : Nat} (h : isb_ (t s) = false) : f_X3_findTokens_61 F rec (nI s) (nI (srt_ (t s))) 1 γ = rec (nI (s + 1)) γ := by
  unfold f_X3_findTokens_61 f_X3_findTokens_77
  rw [if_neg (f61_5 h), if_neg n10, nI_1]
theorem f61_0 {rec : Int32 → nd_Mem → nd_Res} {s : Nat} (h : isb_ (t s) = false) : f_X3_findTokens_61 F rec (nI s) (nI (srt_ (t s))) 0 γ = nd_bind (f_X3_findToken F (nI s) (nI (srt_ (t s))) γ) fun _ σ => rec (nI (s + 1)) σ := by
  unfold f_X3_findTokens_61 f_X3_findTokens_77
  rw [if_neg (f61_5 h), if_pos rfl, nI_1]
theorem hd_1 (hF : 300000 ≤ F) (hb : cp_ γ t z k) {s : Nat} (hs : s < z) {rec : Int32 → nd_Mem → nd_Res} (g : gon_ t s) : f_X3_findTokens_12_b F rec (nI s) γ = f_X3_findTokens_61 F rec (nI s) (nI (srt_ (t s))) 1 γ := by
  have hz := hb.1
  have hlt := srt_lt (x := t s)
  have h0 := g.2.1
  have a1 : γ 47 s = nI (t s) := hb.2.2.2.1 s hs
  have a2 : γ 47 (s - 1) = nI (t (s - 1)) := hb.2.2.2.1 (s - 1) (by omega)
  unfold f_X3_findTokens_12_b
  rw [hb.2.2.1, if_neg (nI_ge (by omega) (by omega)), if_neg (nI_in (by omega) (by decide)), nI_clamp (by omega), a1, c_sort hF (hb.2.1 s hs), n_bind, c_stand hlt, n_bind, if_pos g.1, if_neg n10, if_neg (show ¬ nI s ≤ (0 : Int32) from nI_ge (a := 0) (by omega) (by omega)), show nI s - (1 : Int32) = nI (s - 1) from n_sub (b := 1) (by omega), if_neg (nI_in (by omega) (by decide)), nI_clamp (by omega), a2, c_sort hF (hb.2.1 (s - 1) (by omega)), n_bind, if_pos (by rw [g.2.2])]
theorem hd_0 (hF : 300000 ≤ F) (hb : cp_ γ t z k) {s : Nat} (hs : s < z) {rec : Int32 → nd_Mem → nd_Res} (g : ¬ gon_ t s) : f_X3_findTokens_12_b F rec (nI s) γ = f_X3_findTokens_61 F rec (nI s) (nI (srt_ (t s))) 0 γ := by
  have hz := hb.1
  have hlt := srt_lt (x := t s)
  have a1 : γ 47 s = nI (t s) := hb.2.2.2.1 s hs
  unfold f_X3_findTokens_12_b f_X3_findTokens_60
  rw [hb.2.2.1, if_neg (nI_ge (by omega) (by omega)), if_neg (nI_in (by omega) (by decide)), nI_clamp (by omega), a1, c_sort hF (hb.2.1 s hs), n_bind, c_stand hlt, n_bind]
  by_cases h1 : srt_ (t s) = 1 ∨ srt_ (t s) = 2
  · rw [if_pos h1, if_neg n10]
    by_cases h0 : s = 0
    · rw [if_pos (show nI s ≤ (0 : Int32) by rw [h0]; decide)]
    · have a2 : γ 47 (s - 1) = nI (t (s - 1)) := hb.2.2.2.1 (s - 1) (by omega)
      have hl2 := srt_lt (x := t (s - 1))
      rw [if_neg (show ¬ nI s ≤ (0 : Int32) from nI_ge (a := 0) (by omega) (by omega)), show nI s - (1 : Int32) = nI (s - 1) from n_sub (b := 1) (by omega), if_neg (nI_in (by omega) (by decide)), nI_clamp (by omega), a2, c_sort hF (hb.2.1 (s - 1) (by omega)), n_bind, if_neg (fun e => g ⟨h1, by omega, (nI_eq (by omega) (by omega)).mp e⟩)]
  · rw [if_neg h1, if_pos rfl]
theorem c_find (hF : 300000 ≤ F) : ∀ (d s f m : Nat) (γ : nd_Mem), s + d = z → d < f → cp_ γ t z k → γ 38 10 = nI m → (∀ j : Nat, j < m → ctn_ (γ 48 j) (γ 49 j) t z k (tkp_ t z j) ∧ γ 50 j = nI (tkp_ t z j)) → (∀ j : Nat, j < m → tkp_ t z j < s) → s ≤ tkp_ t z m → ∃ c' : nd_Mem, f_X3_findTokens_12 F f (nI s) γ = some (0, c') ∧ cp_ c' t z k ∧ car_ c' t z k ∧ (∀ i : Nat, i ≠ 38 → i ≠ 48 → i ≠ 49 → i ≠ 50 → c' i = γ i) ∧ ∀ j : Nat, j ≠ 10 → c' 38 j = γ 38 j := by
  intro d
  induction d with
  | zero =>
    intro s f m γ hs hf hb hm he hl hle
    obtain ⟨f, rfl⟩ : ∃ g, f = g + 1 := ⟨f - 1, by omega⟩
    have hz := hb.1
    have hmz : tkp_ t z m = z := by
      have := tkp_le (t := t) (z := z) m
      omega
    have hlz : ∀ j : Nat, j < m → tkp_ t z j < z := fun j hj => by
      have := hl j hj
      omega
    have hm4 := tkp_ge (t := t) (z := z) m hlz
    have k0 : tk_ t z z = 0 := if_pos (Nat.le_refl z)
    have hn : ctn_ 0 0 t z k (tkp_ t z m) := by
      rw [hmz]
      exact ⟨fun _ => rfl, fun h => by omega, fun h => by omega, fun h => by omega, fun h => by omega, fun h => by omega⟩
    refine ⟨atk_ γ m 0 0 (nI z), ?_, atk_cp hb, ⟨m, by omega, hmz, hlz, atk_at.2.2.2, fun j hj => atk_ent he hn (by rw [hmz]) j (by omega)⟩, fun i h1 h2 h3 h4 => atk_ne h1 h2 h3 h4, fun j hj => atk_38 hj⟩
    show f_X3_findTokens_12_b F _ _ _ = _
    unfold f_X3_findTokens_12_b
    rw [hb.2.2.1, if_pos (nI_le (by omega) (by omega)), c_addT hm (by omega), n_bind]
  | succ d ih =>
    intro s f m γ hs hf hb hm he hl hle
    obtain ⟨f, rfl⟩ : ∃ g, f = g + 1 := ⟨f - 1, by omega⟩
    have hz := hb.1
    show ∃ c' : nd_Mem, f_X3_findTokens_12_b F (f_X3_findTokens_12 F f) (nI s) γ = some (0, c') ∧ _
    by_cases hst : s = tkp_ t z m
    · subst hst
      have hsz : tkp_ t z m < z := by omega
      obtain ⟨b1, b2⟩ := sta_ hsz
      have hm4 := tkp_ge (t := t) (z := z) m (fun j hj => by
        have := hl j hj
        omega)
      obtain ⟨a, v, c1, c2⟩ := c_tok (F := F) hF hb hm (by omega) hsz b1
      rw [hd_0 hF hb hsz b2, f61_0 b1, c1, n_bind]
      obtain ⟨c', e1, e2, e3, e4, e5⟩ := ih (tkp_ t z m + 1) f (m + 1) (atk_ γ m a v (nI (tkp_ t z m))) (by omega) (by omega) (atk_cp hb) atk_at.2.2.2 (atk_ent he c2 rfl) (fun j hj => by
        by_cases h : j = m
        · rw [h]; omega
        · have := hl j (by omega)
          omega) (tkp_lt hsz)
      exact ⟨c', e1, e2, e3, fun i h1 h2 h3 h4 => (e4 i h1 h2 h3 h4).trans (atk_ne h1 h2 h3 h4), fun j hj => (e5 j hj).trans (atk_38 hj)⟩
    · have hb1 := st_in hl (by omega : s < tkp_ t z m)
      have go : f_X3_findTokens_12_b F (f_X3_findTokens_12 F f) (nI s) γ = f_X3_findTokens_12 F f (nI (s + 1)) γ := by
        cases hbl : isb_ (t s)
        · have g : gon_ t s := hb1.resolve_left (by rw [hbl]; decide)
          rw [hd_1 hF hb (by omega) g, f61_1 hbl]
        · by_cases g : gon_ t s
          · rw [hd_1 hF hb (by omega) g, f61_b hbl]
          · rw [hd_0 hF hb (by omega) g, f61_b hbl]
      rw [go]
      exact ih (s + 1) f m γ (by omega) (by omega) hb hm he (fun j hj => by
        have := hl j hj
        omega) (by omega)
theorem c_findT (hF : 300000 ≤ F) (hb : cp_ c t z k) : ∃ c' : nd_Mem, f_X3_findTokens F c = some (0, c') ∧ cb_ c' t z k ∧ c' 38 14 = nI 0 ∧ (∀ i : Nat, i ≠ 38 → i ≠ 48 → i ≠ 49 → i ≠ 50 → c' i = c i) ∧ ∀ j : Nat, j ≠ 10 → j ≠ 14 → c' 38 j = c 38 j := by
  have hz := hb.1
  have h1 : cp_ (nd_up (nd_up c 38 10 0) 38 14 0) t z k := cp_up (cp_up hb (by decide) (by decide) (by decide) (by decide)) (by decide) (by decide) (by decide) (by decide)
  obtain ⟨c', e1, e2, e3, e4, e5⟩ := c_find (F := F) (t := t) (z := z) (k := k) hF z 0 F 0 (nd_up (nd_up c 38 10 0) 38 14 0) (by omega) (by omega) h1 (by rw [u_ne2 (by decide), u_eq]; rfl) (fun j hj => absurd hj (Nat.not_lt_zero j)) (fun j hj => absurd hj (Nat.not_lt_zero j)) (Nat.zero_le _)
  obtain ⟨p1, p2, p3, p4, p5, p6, p7, p8⟩ := e2
  refine ⟨c', ?_, ⟨p1, p2, p3, p4, p5, p6, p7, p8, e3⟩, ?_, fun i a1 a2 a3 a4 => ?_, fun j a1 a2 => ?_⟩
  · unfold f_X3_findTokens
    rw [n_let, n_let]
    exact e1
  · rw [e5 14 (by decide), u_eq]; rfl
  · rw [e4 i a1 a2 a3 a4, nd_up_ne a1, nd_up_ne a1]
  · rw [e5 j a1, u_ne2 a2, u_ne2 a1]
theorem c_advj (hb : cb_ c t z k) {j : Nat} (hj : ∀ i : Nat, i < j → tkp_ t z i < z) (h14 : c 38 14 = nI j) : ∃ c' : nd_Mem, f_X3_advance F c = some (0, c') ∧ ctk_ c' t z k (tkp_ t z j) ∧ fck_ [11, 12, 13, 14] c c' := by
  obtain ⟨N, n1, n2, n3, n4, n5⟩ := hb.2.2.2.2.2.2.2.2
  have hjN : j ≤ N := by
    apply Classical.byContradiction
    intro hc
    have := hj N (by omega)
    omega
  have e1 : nd_up c 38 11 (c 48 j) 38 14 = nI j := by rw [u_ne2 (by decide)]; exact h14
  have d1 : nd_up c 38 11 (c 48 j) 49 j = c 49 j := u_ne1 (by decide)
  have e2 : nd_up (nd_up c 38 11 (c 48 j)) 38 12 (c 49 j) 38 14 = nI j := by rw [u_ne2 (by decide)]; exact e1
  have d2 : nd_up (nd_up c 38 11 (c 48 j)) 38 12 (c 49 j) 50 j = c 50 j := by rw [u_ne1 (by decide), u_ne1 (by decide)]
  have e3 : nd_up (nd_up (nd_up c 38 11 (c 48 j)) 38 12 (c 49 j)) 38 13 (c 50 j) 38 14 = nI j := by rw [u_ne2 (by decide)]; exact e2
  obtain ⟨c', hc'⟩ : ∃ c' : nd_Mem, c' = nd_up (nd_up (nd_up (nd_up c 38 11 (c 48 j)) 38 12 (c 49 j)) 38 13 (c 50 j)) 38 14 (nI (j + 1)) := ⟨_, rfl⟩
  have k11 : c' 38 11 = c 48 j := by rw [hc', u_ne2 (by decide), u_ne2 (by decide), u_ne2 (by decide), u_eq]
  have k12 : c' 38 12 = c 49 j := by rw [hc', u_ne2 (by decide), u_ne2 (by decide), u_eq]
  have k13 : c' 38 13 = nI (tkp_ t z j) := by rw [hc', u_ne2 (by decide), u_eq]; exact (n5 j hjN).2
  have k14 : c' 38 14 = nI (j + 1) := by rw [hc', u_eq]
  have q : ctn_ (c' 38 11) (c' 38 12) t z k (tkp_ t z j) := by
    rw [k11, k12]
    exact (n5 j hjN).1
  refine ⟨c', ?_, ⟨⟨j, by omega, rfl, hj, k14⟩, k13, q⟩, ?_⟩
  · unfold f_X3_advance
    rw [n4, h14, if_neg (nI_ge (by omega) (by omega)), if_neg (show ¬ (401 : Int32) ≤ nI j from nI_ge (b := 401) (by omega) (by decide)), if_neg (nI_in (by omega) (by decide)), nI_clamp (by omega), n_let, e1, if_neg (nI_in (by omega) (by decide)), nI_clamp (by omega), d1, n_let, e2, if_neg (nI_in (by omega) (by decide)), nI_clamp (by omega), d2, n_let, e3, nI_1, n_let, hc']
  · rw [hc']
    exact fc_up (fc_up (fc_up (fc_up fc_rf (by decide)) (by decide)) (by decide)) (by decide)
theorem c_adv (hb : cb_ c t z k) {p : Nat} (h : ctk_ c t z k p) (hp : p < z) : ∃ c' : nd_Mem, f_X3_advance F c = some (0, c') ∧ ctk_ c' t z k (tn_ t z (tqe_ t z p)) ∧ fck_ [11, 12, 13, 14] c c' := by
  obtain ⟨j, j1, j2, j3, j4⟩ := h.1
  subst j2
  exact c_advj (F := F) hb (j := j + 1) (fun i hi => by
    by_cases e : i = j
    · rw [e]; exact hp
    · exact j3 i (by omega)) j4
theorem car_c {c' : nd_Mem} (h10 : c' 38 10 = c 38 10) (h48 : c' 48 = c 48) (h49 : c' 49 = c 49) (h50 : c' 50 = c 50) (h : car_ c t z k) : car_ c' t z k := by
  obtain ⟨N, n1, n2, n3, n4, n5⟩ := h
  refine ⟨N, n1, n2, n3, by rw [h10]; exact n4, fun j hj => ?_⟩
  rw [h48, h49, h50]
  exact n5 j hj
end CC
