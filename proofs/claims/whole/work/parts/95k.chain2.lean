/-! chain: as many as can move -/
section LB
variable {nx v : Nat → Nat}
theorem pl2_in {g k : Nat} : ∀ n : Nat, (g, k) ∈ pl2_ v n → g < n ∧ k < v g := by
  intro n
  induction n with
  | zero => intro h; cases h
  | succ n ih =>
    intro h
    have h' : (g, k) ∈ pl2_ v n ++ (List.range (v n)).map (fun k => (n, k)) := h
    rcases List.mem_append.mp h' with e | e
    · have := ih e
      exact ⟨by omega, this.2⟩
    · obtain ⟨i, hi, he⟩ := List.mem_map.mp e
      have e1 := congrArg Prod.fst he
      have e2 := congrArg Prod.snd he
      dsimp only at e1 e2
      subst e1
      subst e2
      exact ⟨by omega, List.mem_range.mp hi⟩
theorem pl2_nd : ∀ n : Nat, (pl2_ v n).Nodup := by
  intro n
  induction n with
  | zero => exact List.Pairwise.nil
  | succ n ih =>
    show List.Pairwise (· ≠ ·) (pl2_ v n ++ (List.range (v n)).map (fun k => (n, k)))
    rw [List.pairwise_append]
    refine ⟨ih, ?_, ?_⟩
    · rw [List.pairwise_map]
      refine List.Pairwise.imp_of_mem ?_ List.pairwise_lt_range
      intro i j _ _ hij he
      have e2 := congrArg Prod.snd he
      dsimp only at e2
      omega
    · intro p hp q hq he
      subst he
      obtain ⟨i, hi, rfl⟩ := List.mem_map.mp hq
      have := (pl2_in n hp).1
      omega
theorem mv_lb (hv : vl_ nx v) : ∃ l : List Nat, l.Nodup ∧ l.length = sm_ v 10 ∧ mv_ nx (fun a => a ∈ l) := by
  have pick : ∀ p : Nat × Nat, ∃ a : Nat, p.1 < 10 → p.2 < v p.1 → (nx p.1 = 11 → ∃ w : Nat, w < 10 ∧ io_ nx (v p.1) w = p.1 ∧ a = w) := by
    intro p
    by_cases h : p.1 < 10 ∧ p.2 < v p.1 ∧ nx p.1 = 11
    · obtain ⟨h1, h2, h3⟩ := h
      rcases ((hv p.1 h1).1 h3).2.2 with e | ⟨w, w1, w2⟩
      · omega
      · exact ⟨w, fun _ _ _ => ⟨w, w1, w2, rfl⟩⟩
    · exact ⟨0, fun a b c => absurd ⟨a, b, c⟩ h⟩
  obtain ⟨w, hw⟩ : ∃ w : Nat → Nat, ∀ g : Nat, g < 10 → 0 < v g → nx g = 11 → w g < 10 ∧ io_ nx (v g) (w g) = g := by
    refine ⟨fun g => Classical.choose (pick (g, 0)), fun g h1 h2 h3 => ?_⟩
    obtain ⟨w, w1, w2, w3⟩ := Classical.choose_spec (pick (g, 0)) h1 h2 h3
    show Classical.choose (pick (g, 0)) < 10 ∧ io_ nx (v g) (Classical.choose (pick (g, 0))) = g
    rw [w3]
    exact ⟨w1, w2⟩
  obtain ⟨q, hq⟩ : ∃ q : Nat × Nat → Nat, ∀ g k : Nat, q (g, k) = if nx g = 11 then io_ nx (v g - 1 - k) (w g) else g := ⟨fun p => if nx p.1 = 11 then io_ nx (v p.1 - 1 - p.2) (w p.1) else p.1, fun _ _ => rfl⟩
  -- what q's places are like
  have em : ∀ g k : Nat, g < 10 → k < v g → nx g = 11 → io_ nx (k + 1) (q (g, k)) = g := by
    intro g k h1 h2 h3
    rw [hq, if_pos h3, ← io_add, show k + 1 + (v g - 1 - k) = v g by omega]
    exact (hw g h1 (by omega) h3).2
  have cy : ∀ g k : Nat, g < 10 → k < v g → nx g ≠ 11 → k = 0 ∧ cy_ nx g ∧ q (g, k) = g := by
    intro g k h1 h2 h3
    rcases (hv g h1).2 h3 with ⟨c1, c2⟩ | ⟨c1, _⟩
    · exact ⟨by omega, c2, by rw [hq, if_neg h3]⟩
    · omega
  have mem : ∀ a : Nat, a ∈ (pl2_ v 10).map q ↔ ∃ g k : Nat, g < 10 ∧ k < v g ∧ q (g, k) = a := by
    intro a
    rw [List.mem_map]
    constructor
    · rintro ⟨⟨g, k⟩, h1, h2⟩
      have := pl2_in 10 h1
      exact ⟨g, k, this.1, this.2, h2⟩
    · rintro ⟨g, k, h1, h2, h3⟩
      exact ⟨(g, k), pl2_mem 10 h1 h2, h3⟩
  have lt10 : ∀ g k : Nat, g < 10 → k < v g → q (g, k) < 10 := by
    intro g k h1 h2
    by_cases h3 : nx g = 11
    · have := em g k h1 h2 h3
      apply Classical.byContradiction
      intro hn
      rw [io_big (by omega)] at this
      omega
    · rw [(cy g k h1 h2 h3).2.2]; exact h1
  refine ⟨(pl2_ v 10).map q, ?_, by rw [List.length_map, pl2_len], ?_, ?_⟩
  · unfold List.Nodup
    rw [List.pairwise_map]
    refine List.Pairwise.imp_of_mem ?_ (pl2_nd (v := v) 10)
    rintro ⟨g, k⟩ ⟨g', k'⟩ ha hb hne he
    apply hne
    obtain ⟨a1, a2⟩ := pl2_in 10 ha
    obtain ⟨b1, b2⟩ := pl2_in 10 hb
    by_cases h3 : nx g = 11
    · have e1 := em g k a1 a2 h3
      have m1 : em_ nx (io_ nx (k + 1) (q (g, k))) := by rw [e1]; exact ⟨a1, h3⟩
      by_cases h4 : nx g' = 11
      · have e2 := em g' k' b1 b2 h4
        have m2 : em_ nx (io_ nx (k' + 1) (q (g, k))) := by rw [he, e2]; exact ⟨b1, h4⟩
        have ek := em_uq m1 m2
        have ek' : k = k' := by omega
        subst ek'
        rw [he, e2] at e1
        rw [e1]
      · obtain ⟨z1, z2, z3⟩ := cy g' k' b1 b2 h4
        rw [he, z3] at m1
        exact absurd m1 (cy_ne b1 z2 _)
    · obtain ⟨y1, y2, y3⟩ := cy g k a1 a2 h3
      by_cases h4 : nx g' = 11
      · have e2 := em g' k' b1 b2 h4
        have m2 : em_ nx (io_ nx (k' + 1) (q (g', k'))) := by rw [e2]; exact ⟨b1, h4⟩
        rw [← he, y3] at m2
        exact absurd m2 (cy_ne a1 y2 _)
      · obtain ⟨z1, z2, z3⟩ := cy g' k' b1 b2 h4
        rw [y3, z3] at he
        rw [he, y1, z1]
  · intro a ha
    obtain ⟨g, k, h1, h2, rfl⟩ := (mem a).mp ha
    have hlt := lt10 g k h1 h2
    by_cases h3 : nx g = 11
    · have e1 := em g k h1 h2 h3
      rw [io_1, show nz_ nx (q (g, k)) = nx (q (g, k)) from if_pos hlt] at e1
      cases k with
      | zero =>
        have e2 : nx (q (g, 0)) = g := e1
        rw [e2]
        exact ⟨hlt, h1, Or.inr ⟨h1, h3⟩⟩
      | succ k =>
        have e2 : q (g, k) = nx (q (g, k + 1)) := by
          have : nz_ nx (q (g, k + 1)) = nx (q (g, k + 1)) := if_pos hlt
          rw [← this, hq, hq, if_pos h3, if_pos h3, show v g - 1 - k = (v g - 1 - (k + 1)) + 1 by omega]
          rfl
        rw [← e2]
        exact ⟨hlt, lt10 g k h1 (by omega), Or.inl ((mem _).mpr ⟨g, k, h1, by omega, rfl⟩)⟩
    · obtain ⟨y1, y2, y3⟩ := cy g k h1 h2 h3
      rw [y3]
      obtain ⟨n1, n2⟩ := cy_nx h1 y2
      have n3 : nx (nx g) ≠ 11 := fun e => cy_ne n1 n2 0 ⟨n1, e⟩
      refine ⟨h1, n1, Or.inl ((mem _).mpr ⟨nx g, 0, n1, ?_, by rw [hq, if_neg n3]⟩)⟩
      rcases (hv _ n1).2 n3 with ⟨c1, _⟩ | ⟨_, c2⟩
      · omega
      · exact absurd n2 c2
  · intro a b ha hb he
    obtain ⟨g, k, a1, a2, rfl⟩ := (mem a).mp ha
    obtain ⟨g', k', b1, b2, rfl⟩ := (mem b).mp hb
    have l1 := lt10 g k a1 a2
    have l2 := lt10 g' k' b1 b2
    by_cases h3 : nx g = 11
    · have e1 := em g k a1 a2 h3
      rw [io_1, show nz_ nx (q (g, k)) = nx (q (g, k)) from if_pos l1] at e1
      have m1 : em_ nx (io_ nx k (nx (q (g, k)))) := by rw [e1]; exact ⟨a1, h3⟩
      by_cases h4 : nx g' = 11
      · have e2 := em g' k' b1 b2 h4
        rw [io_1, show nz_ nx (q (g', k')) = nx (q (g', k')) from if_pos l2] at e2
        have m2 : em_ nx (io_ nx k' (nx (q (g, k)))) := by rw [he, e2]; exact ⟨b1, h4⟩
        have ek := em_uq m1 m2
        subst ek
        rw [he, e2] at e1
        rw [e1]
      · obtain ⟨z1, z2, z3⟩ := cy g' k' b1 b2 h4
        rw [he, z3] at m1
        obtain ⟨n1, n2⟩ := cy_nx b1 z2
        exact absurd m1 (cy_ne n1 n2 _)
    · obtain ⟨y1, y2, y3⟩ := cy g k a1 a2 h3
      by_cases h4 : nx g' = 11
      · have e2 := em g' k' b1 b2 h4
        rw [io_1, show nz_ nx (q (g', k')) = nx (q (g', k')) from if_pos l2] at e2
        have m2 : em_ nx (io_ nx k' (nx (q (g', k')))) := by rw [e2]; exact ⟨b1, h4⟩
        rw [← he, y3] at m2
        obtain ⟨n1, n2⟩ := cy_nx a1 y2
        exact absurd m2 (cy_ne n1 n2 _)
      · obtain ⟨z1, z2, z3⟩ := cy g' k' b1 b2 h4
        rw [y3, z3] at he ⊢
        exact cy_inj a1 b1 y2 z2 he
end LB
