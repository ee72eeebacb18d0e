/-! rows: side by side, the closed form -/
def e1_ (A : Nat → Nat → Bool) (n S : Nat) : Nat := cn_ (fun v => S.testBit v && decide (cn_ (A v) n = 1)) n
def e0_ (A : Nat → Nat → Bool) (n S : Nat) : Nat := cn_ (fun v => S.testBit v && decide (cn_ (A v) n = 0)) n
def clv_ (A : Nat → Nat → Bool) (n r : Nat) : Prop := ∀ u v : Nat, u < n → v < n → r.testBit u = true → A u v = true → r.testBit v = true
def al0_ (A : Nat → Nat → Bool) (n S l : Nat) : Prop := S < 2 ^ n ∧ l < n ∧ S.testBit l = true ∧ (∀ u v : Nat, u < n → v < n → S.testBit u = true → u ≠ l → A u v = true → S.testBit v = true) ∧ (∀ u v : Nat, u < n → v < n → A l u = true → A l v = true → S.testBit u = true → S.testBit v = true → u = v) ∧ ∀ u v : Nat, u < n → v < n → A l u = true → A l v = true → S.testBit u = false → S.testBit v = false → u = v
def ff_ (A : Nat → Nat → Bool) (n : Nat) (T : Nat → Nat → Nat) (S l : Nat) : Prop := (T S l = if cn_ (A l) n = 0 then fac_ (e0_ A n S - 1 + e1_ A n S / 2) * 2 ^ (e1_ A n S / 2) else fac_ (e0_ A n S + (e1_ A n S - 1) / 2) * 2 ^ ((e1_ A n S - 1) / 2)) ∧ ((∃ u : Nat, u < n ∧ A l u = true ∧ S.testBit u = false) → e1_ A n S % 2 = 1) ∧ ((∀ u : Nat, u < n → A l u = true → S.testBit u = true) → e1_ A n S % 2 = 0)
theorem sb_ar {e q : Nat} (h : 1 ≤ e + q) : e * (fac_ (e - 1 + q) * 2 ^ q) + 2 * q * (fac_ (e + (2 * q - 1) / 2) * 2 ^ ((2 * q - 1) / 2)) = fac_ (e + q) * 2 ^ q := by
  have hf : fac_ (e + q) = (e + q) * fac_ (e + q - 1) := (fac_s (by omega)).symm
  rw [hf]
  by_cases hq : q = 0
  · subst hq
    rw [Nat.mul_zero, Nat.zero_mul, Nat.add_zero, Nat.add_zero, Nat.add_zero, Nat.mul_assoc]
  · obtain ⟨p, rfl⟩ : ∃ p, q = p + 1 := ⟨q - 1, by omega⟩
    rw [show (2 * (p + 1) - 1) / 2 = p by omega, show e + (p + 1) - 1 = e + p by omega, Nat.pow_succ]
    by_cases he : e = 0
    · subst he
      generalize fac_ (0 + p) = X
      generalize 2 ^ p = Y
      rw [Nat.zero_mul, Nat.zero_add, Nat.zero_add]
      grind
    · rw [show e - 1 + (p + 1) = e + p by omega]
      generalize fac_ (e + p) = X
      generalize 2 ^ p = Y
      grind
section SC
variable {okq : Nat → Nat → Nat → Bool} {fs : Nat → Bool} {n : Nat} {T : Nat → Nat → Nat} {A : Nat → Nat → Bool}
theorem sb_F (hsg : sg_ A) (hdp : dp_ okq fs n T) (ho : so_ A n okq fs) (hdeg : ∀ v : Nat, v < n → cn_ (A v) n ≤ 2) {r : Nat} (hr : r < 2 ^ n) (hcl : clv_ A n r) (ht : ∃ t : Nat, t < n ∧ r.testBit t = true ∧ cn_ (A t) n ≤ 1) (hk : ∀ k : Nat, al0_ A n r k → ff_ A n T r k) : pz_ (fun _ _ _ => true) (T r) 0 0 n = fac_ (e0_ A n r + e1_ A n r / 2) * 2 ^ (e1_ A n r / 2) ∧ e1_ A n r % 2 = 0 := by
  have al : ∀ k : Nat, k < n → r.testBit k = true → cn_ (A k) n ≤ 1 → al0_ A n r k := fun k k1 k2 k3 => ⟨hr, k1, k2, fun u v hu hv h1 _ h2 => hcl u v hu hv h1 h2, fun u v hu hv h1 h2 _ _ => cn_u k3 h1 h2 hu hv, fun u v hu hv h1 h2 _ _ => cn_u k3 h1 h2 hu hv⟩
  obtain ⟨t, t1, t2, t3⟩ := ht
  have par := (hk t (al t t1 t2 t3)).2.2 (fun u hu h => hcl t u t1 hu t2 h)
  refine ⟨?_, par⟩
  obtain ⟨q, hq⟩ : ∃ q : Nat, e1_ A n r = 2 * q := ⟨e1_ A n r / 2, by omega⟩
  have hq2 : e1_ A n r / 2 = q := by omega
  have hpos : 1 ≤ e0_ A n r + q := by
    by_cases d0 : cn_ (A t) n = 0
    · have := cn_pos (P := fun v => r.testBit v && decide (cn_ (A v) n = 0)) (a := t) (k := n) (by
        show (r.testBit t && decide (cn_ (A t) n = 0)) = true
        rw [t2, decide_eq_true d0]; rfl) t1
      have e : 0 < e0_ A n r := this
      omega
    · have := cn_pos (P := fun v => r.testBit v && decide (cn_ (A v) n = 1)) (a := t) (k := n) (by
        show (r.testBit t && decide (cn_ (A t) n = 1)) = true
        rw [t2, decide_eq_true (by omega)]; rfl) t1
      have e : 0 < e1_ A n r := this
      omega
  have hsum : pz_ (fun _ _ _ => true) (T r) 0 0 n = e0_ A n r * (fac_ (e0_ A n r - 1 + q) * 2 ^ q) + e1_ A n r * (fac_ (e0_ A n r + (2 * q - 1) / 2) * 2 ^ ((2 * q - 1) / 2)) := by
    unfold e0_ e1_
    apply pz_cn2 (P := fun v => r.testBit v && decide (cn_ (A v) n = 0)) (Q := fun v => r.testBit v && decide (cn_ (A v) n = 1)) n
    intro k hkn
    show (if true = true then T r k else 0) = (if (r.testBit k && decide (cn_ (A k) n = 0)) = true then fac_ (e0_ A n r - 1 + q) * 2 ^ q else 0) + if (r.testBit k && decide (cn_ (A k) n = 1)) = true then fac_ (e0_ A n r + (2 * q - 1) / 2) * 2 ^ ((2 * q - 1) / 2) else 0
    rw [if_pos rfl]
    by_cases hkr : r.testBit k = true
    · have hd := hdeg k hkn
      by_cases d0 : cn_ (A k) n = 0
      · have hf := (hk k (al k hkn hkr (by omega))).1
        rw [if_pos d0, hq2] at hf
        rw [if_pos (show (r.testBit k && decide (cn_ (A k) n = 0)) = true by rw [hkr, decide_eq_true d0]; rfl), if_neg (show ¬ (r.testBit k && decide (cn_ (A k) n = 1)) = true by rw [decide_eq_false (show ¬ cn_ (A k) n = 1 by omega), Bool.and_false]; decide), Nat.add_zero]
        exact hf
      · rw [if_neg (show ¬ (r.testBit k && decide (cn_ (A k) n = 0)) = true by rw [decide_eq_false d0, Bool.and_false]; decide), Nat.zero_add]
        by_cases d1 : cn_ (A k) n = 1
        · have hf := (hk k (al k hkn hkr (by omega))).1
          rw [if_neg d0, hq] at hf
          rw [if_pos (show (r.testBit k && decide (cn_ (A k) n = 1)) = true by rw [hkr, decide_eq_true d1]; rfl)]
          exact hf
        · rw [if_neg (show ¬ (r.testBit k && decide (cn_ (A k) n = 1)) = true by rw [decide_eq_false d1, Bool.and_false]; decide)]
          obtain ⟨a, a1, a2⟩ := cn_ex (P := A k) n (by omega)
          obtain ⟨b, b1, b2, b3⟩ := cn_oth (P := A k) (a := a) (k := n) (by omega) a2 a1
          exact sb_2 hsg hdp ho hr hkn a1 b1 (Ne.symm b3) a2 b2 (hcl k a hkn a1 hkr a2) (hcl k b hkn b1 hkr b2)
    · have hkr' : r.testBit k = false := by
        cases hh : r.testBit k
        · rfl
        · exact absurd hh hkr
      rw [hdp.1 r k hr hkn hkr', hkr', Bool.false_and, Bool.false_and]
      rfl
  rw [hsum, hq2, hq]
  exact sb_ar hpos
theorem sb_main (hsg : sg_ A) (hdp : dp_ okq fs n T) (ho : so_ A n okq fs) (hdeg : ∀ v : Nat, v < n → cn_ (A v) n ≤ 2) (hac : ∀ r : Nat, r ≠ 0 → r < 2 ^ n → clv_ A n r → ∃ t : Nat, t < n ∧ r.testBit t = true ∧ cn_ (A t) n ≤ 1) : ∀ S l : Nat, al0_ A n S l → ff_ A n T S l := by
  intro S
  induction S using Nat.strongRecOn with
  | ind S ih =>
    intro l hal
    obtain ⟨a1, a2, a3, a4, a5, a6⟩ := hal
    obtain ⟨r, r1, r2, r3⟩ := cut_ a3
    have rS : ∀ t : Nat, t ≠ l → r.testBit t = S.testBit t := fun t ht => by rw [← r2, or_of ht]
    have rl : ∀ t : Nat, r.testBit t = true → t ≠ l := fun t h e => by rw [e, r1] at h; exact absurd h (by decide)
    have hT := hdp.2 r l (by omega) a2 r1
    rw [r2] at hT
    have E1 : e1_ A n S = e1_ A n r + if cn_ (A l) n = 1 then 1 else 0 := by
      unfold e1_
      rw [← r2, cn_or r1 a2 (P := fun v => decide (cn_ (A v) n = 1))]
      by_cases h : cn_ (A l) n = 1
      · rw [if_pos h, if_pos (decide_eq_true h)]
      · rw [if_neg h, if_neg (show ¬ decide (cn_ (A l) n = 1) = true by rw [decide_eq_false h]; decide)]
    have E0 : e0_ A n S = e0_ A n r + if cn_ (A l) n = 0 then 1 else 0 := by
      unfold e0_
      rw [← r2, cn_or r1 a2 (P := fun v => decide (cn_ (A v) n = 0))]
      by_cases h : cn_ (A l) n = 0
      · rw [if_pos h, if_pos (decide_eq_true h)]
      · rw [if_neg h, if_neg (show ¬ decide (cn_ (A l) n = 0) = true by rw [decide_eq_false h]; decide)]
    by_cases hk : ∃ k : Nat, k < n ∧ A l k = true ∧ S.testBit k = true
    · obtain ⟨k, k1, k2, k3⟩ := hk
      have k2' := hsg.1 l k k2
      have hkl : k ≠ l := fun e => by rw [e, hsg.2] at k2; exact absurd k2 (by decide)
      have hkr : r.testBit k = true := by rw [rS k hkl]; exact k3
      have h0 : ini_ fs r l = 0 := if_neg (fun e => by
        rw [e.1, Nat.zero_testBit] at hkr
        exact absurd hkr (by decide))
      have al : al0_ A n r k := by
        refine ⟨by omega, k1, hkr, ?_, ?_, ?_⟩
        · intro u v hu hv h1 h2 h3
          have hul := rl u h1
          have hvl : v ≠ l := fun e => by
            rw [e] at h3
            exact h2 (a5 u k hu k1 (hsg.1 u l h3) k2 (by rw [← rS u hul]; exact h1) k3)
          rw [rS v hvl]
          exact a4 u v hu hv (by rw [← rS u hul]; exact h1) hul h3
        · intro u v hu hv h1 h2 h3 h4
          apply Classical.byContradiction
          intro hne
          have c3 := cn_3 (P := A k) (a := u) (b := v) (c := l) (k := n) h1 h2 k2' hu hv a2 hne (rl u h3) (rl v h4)
          have c2 := hdeg k k1
          omega
        · intro u v hu hv h1 h2 h3 h4
          have w : ∀ w : Nat, w < n → A k w = true → r.testBit w = false → w = l := fun w hw g1 g2 => by
            apply Classical.byContradiction
            intro hne
            have := a4 k w k1 hw k3 hkl g1
            rw [← rS w hne, g2] at this
            exact absurd this (by decide)
          rw [w u hu h1 h3, w v hv h2 h4]
      obtain ⟨f1, f2, f3⟩ := ih r r3 k al
      have pk := cn_pos (P := A k) (a := l) (k := n) k2' a2
      have pl := cn_pos (P := A l) (a := k) (k := n) k2 k1
      have hdk : ¬ cn_ (A k) n = 0 := by omega
      have hdl : ¬ cn_ (A l) n = 0 := by omega
      have hodd := f2 ⟨l, a2, k2', r1⟩
      rw [if_neg hdk] at f1
      have hpz : pz_ okq (T r) r l n = cn_ (fun j => decide (j = k)) n * T r k := pz_cn (P := fun j => decide (j = k)) n (fun j hj => by
        by_cases hjk : j = k
        · rw [hjk, if_pos ((ho.1 l r k a2 k1).mpr (fun z hz g1 g2 => a5 z k hz k1 g1 k2 (by rw [← rS z (rl z g2)]; exact g2) k3)), if_pos (decide_eq_true rfl)]
        · rw [if_neg (fun e => hjk ((ho.1 l r j a2 hj).mp e k k1 k2 hkr).symm), if_neg (show ¬ decide (j = k) = true by rw [decide_eq_false hjk]; decide)])
      have hc1 : cn_ (fun j => decide (j = k)) n = 1 := by
        rw [cn_but (P := fun j => decide (j = k)) (a := k) (decide_eq_true rfl) n k1]
        rw [cn_0 n (fun i _ => Bool.and_not_self _)]
      rw [h0, hpz, hc1, Nat.one_mul, Nat.zero_add] at hT
      rw [if_neg hdl, Nat.add_zero] at E0
      refine ⟨?_, ?_, ?_⟩
      · rw [hT, f1, if_neg hdl, E1, E0]
        by_cases h1 : cn_ (A l) n = 1
        · rw [if_pos h1, show (e1_ A n r + 1 - 1) / 2 = (e1_ A n r - 1) / 2 by omega]
        · rw [if_neg h1, Nat.add_zero]
      · intro ⟨u, u1, u2, u3⟩
        have c2 := cn_2 (P := A l) (a := u) (b := k) (k := n) u2 k2 u1 k1 (fun e => by rw [e, k3] at u3; exact absurd u3 (by decide))
        rw [E1, if_neg (by omega)]
        exact hodd
      · intro hall
        have h1 : cn_ (A l) n = 1 := by
          apply Classical.byContradiction
          intro hne
          obtain ⟨u, u1, u2, u3⟩ := cn_oth (P := A l) (a := k) (k := n) (by omega) k2 k1
          exact u3 (a5 u k u1 k1 u2 k2 (hall u u1 u2) k3)
        rw [E1, if_pos h1]
        omega
    · have hno : ∀ u : Nat, u < n → A l u = true → S.testBit u = false := fun u hu h => by
        cases hb : S.testBit u
        · rfl
        · exact absurd ⟨u, hu, h, hb⟩ hk
      have hd1 : cn_ (A l) n ≤ 1 := by
        by_cases hex : ∃ u : Nat, u < n ∧ A l u = true
        · obtain ⟨w, w1, w2⟩ := hex
          exact cn_le1 (a := w) n (fun i hi hp => a6 i w hi w1 hp w2 (hno i hi hp) (hno w w1 w2))
        · have h0 : cn_ (A l) n = 0 := cn_0 n (fun i hi => by
            cases hb : A l i
            · rfl
            · exact absurd ⟨i, hi, hb⟩ hex)
          omega
      have hsum : pz_ okq (T r) r l n = pz_ (fun _ _ _ => true) (T r) 0 0 n := pz_tt n (fun j hj => (ho.1 l r j a2 hj).mpr (fun z hz g1 g2 => by
        have h3 := hno z hz g1
        rw [← rS z (rl z g2), g2] at h3
        exact absurd h3 (by decide)))
      have hclr : clv_ A n r := fun u v hu hv h1 h2 => by
        have hul := rl u h1
        have huS : S.testBit u = true := by rw [← rS u hul]; exact h1
        have hvl : v ≠ l := fun e => by
          rw [e] at h2
          have h3 := hno u hu (hsg.1 u l h2)
          rw [huS] at h3
          exact absurd h3 (by decide)
        rw [rS v hvl]
        exact a4 u v hu hv huS hul h2
      have key : T S l = fac_ (e0_ A n r + e1_ A n r / 2) * 2 ^ (e1_ A n r / 2) ∧ e1_ A n r % 2 = 0 := by
        by_cases hr0 : r = 0
        · have hp0 : pz_ okq (T 0) 0 l n = 0 := pz_0 n (fun k hk _ => hdp.1 0 k (by omega) hk (Nat.zero_testBit k))
          have e1z : e1_ A n 0 = 0 := cn_0 n (fun i _ => by
            show ((0 : Nat).testBit i && _) = false
            rw [Nat.zero_testBit, Bool.false_and])
          have e0z : e0_ A n 0 = 0 := cn_0 n (fun i _ => by
            show ((0 : Nat).testBit i && _) = false
            rw [Nat.zero_testBit, Bool.false_and])
          rw [hT, hr0, hp0, show ini_ fs 0 l = 1 from if_pos ⟨rfl, ho.2 l a2⟩, e1z, e0z]
          exact ⟨rfl, rfl⟩
        · have F := sb_F hsg hdp ho hdeg (by omega) hclr (hac r hr0 (by omega) hclr) (fun k hk => ih r r3 k hk)
          rw [hT, show ini_ fs r l = 0 from if_neg (fun e => hr0 e.1), Nat.zero_add, hsum]
          exact F
      obtain ⟨key1, key2⟩ := key
      by_cases hd0 : cn_ (A l) n = 0
      · rw [if_neg (by omega), Nat.add_zero] at E1
        rw [if_pos hd0] at E0
        refine ⟨?_, ?_, ?_⟩
        · rw [key1, if_pos hd0, E1, E0, Nat.add_sub_cancel]
        · intro ⟨u, u1, u2, u3⟩
          have := cn_pos (P := A l) (a := u) (k := n) u2 u1
          omega
        · intro _
          rw [E1]
          exact key2
      · rw [if_pos (show cn_ (A l) n = 1 by omega)] at E1
        rw [if_neg hd0, Nat.add_zero] at E0
        refine ⟨?_, ?_, ?_⟩
        · rw [key1, if_neg hd0, E1, E0, Nat.add_sub_cancel]
        · intro _
          omega
        · intro hall
          obtain ⟨u, u1, u2⟩ := cn_ex (P := A l) n (by omega)
          have h3 := hno u u1 u2
          rw [hall u u1 u2] at h3
          exact absurd h3 (by decide)
end SC
