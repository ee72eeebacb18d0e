/-! rows: each behind its own -/
def alv_ (B : Nat → Nat → Bool) (n S l : Nat) : Prop := S < 2 ^ n ∧ l < n ∧ S.testBit l = true ∧ (∀ y p : Nat, y < n → p < n → S.testBit y = true → B y p = true → S.testBit p = true) ∧ (∀ y p : Nat, y < n → p < n → S.testBit p = true → p ≠ l → B y p = true → S.testBit y = true) ∧ ∀ y : Nat, y < n → B y l = true → S.testBit y = false
section BH
variable {okq : Nat → Nat → Nat → Bool} {fs ta : Nat → Bool} {n : Nat} {T : Nat → Nat → Nat} {B : Nat → Nat → Bool}
theorem or_of {r l t : Nat} (h : t ≠ l) : (r ||| 2 ^ l).testBit t = r.testBit t := by
  rw [Nat.testBit_or, Nat.testBit_two_pow, decide_eq_false (fun e => h e.symm), Bool.or_false]
theorem pz_0 {G : Nat → Nat} {S x : Nat} : ∀ L : Nat, (∀ l : Nat, l < L → okq x S l = true → G l = 0) → pz_ okq G S x L = 0 := by
  intro L
  induction L with
  | zero => intro _; rfl
  | succ L ih =>
    intro h
    show pz_ okq G S x L + (if okq x S L = true then G L else 0) = 0
    rw [ih (fun l hl => h l (by omega))]
    by_cases hb : okq x S L = true
    · rw [if_pos hb, h L (by omega) hb]
    · rw [if_neg hb]
theorem bh_0 (hdp : dp_ okq fs n T) (hok : ∀ x S l : Nat, x < n → l < n → (okq x S l = true ↔ (∀ p : Nat, p < n → B x p = true → p = l) ∧ ∀ z : Nat, z < n → B z x = true → S.testBit z = false)) (hir : ∀ x : Nat, B x x = false) {r k z : Nat} (hr : r < 2 ^ n) (hk : k < n) (hz : z < n) (hkr : r.testBit k = true) (hzr : r.testBit z = true) (hb : B z k = true) : T r k = 0 := by
  obtain ⟨q, q1, q2, q3⟩ := cut_ hkr
  have hzk : z ≠ k := fun e => by rw [e, hir] at hb; exact absurd hb (by decide)
  have hzq : q.testBit z = true := by rw [← q2, or_of hzk] at hzr; exact hzr
  rw [← q2, hdp.2 q k (by omega) hk q1]
  have h0 : ini_ fs q k = 0 := if_neg (fun e => by
    rw [e.1, Nat.zero_testBit] at hzq
    exact absurd hzq (by decide))
  rw [h0, pz_0 n (fun l hl ho => by
    have := ((hok k q l hk hl).mp ho).2 z hz hb
    rw [hzq] at this
    exact absurd this (by decide))]
theorem bh_ (hdp : dp_ okq fs n T) (hok : ∀ x S l : Nat, x < n → l < n → (okq x S l = true ↔ (∀ p : Nat, p < n → B x p = true → p = l) ∧ ∀ z : Nat, z < n → B z x = true → S.testBit z = false)) (hfs : ∀ x : Nat, x < n → (fs x = true ↔ ∀ p : Nat, p < n → B x p = false)) (hir : ∀ x : Nat, B x x = false) (hu1 : ∀ x p p' : Nat, p < n → p' < n → B x p = true → B x p' = true → p = p') (hu2 : ∀ p y y' : Nat, y < n → y' < n → B y p = true → B y' p = true → y = y') (hta : ∀ p : Nat, p < n → (ta p = true ↔ ∀ y : Nat, y < n → B y p = false)) (hac : ∀ r : Nat, r ≠ 0 → r < 2 ^ n → (∀ y p : Nat, y < n → p < n → r.testBit p = true → B y p = true → r.testBit y = true) → ∃ t : Nat, t < n ∧ r.testBit t = true ∧ ta t = true) : ∀ S l : Nat, alv_ B n S l → T S l = fac_ (cn_ (fun t => (S.testBit t && ta t) && !decide (t = l)) n) := by
  intro S
  induction S using Nat.strongRecOn with
  | ind S ih =>
    intro l ⟨a1, a2, a3, a4, a5, a6⟩
    obtain ⟨r, r1, r2, r3⟩ := cut_ a3
    have rS : ∀ t : Nat, t ≠ l → r.testBit t = S.testBit t := fun t ht => by rw [← r2, or_of ht]
    have hT := hdp.2 r l (by omega) a2 r1
    rw [r2] at hT
    rw [hT]
    have second : ∀ z : Nat, z < n → B z l = true → r.testBit z = false := fun z hz hb => by
      have hzl : z ≠ l := fun e => by rw [e, hir] at hb; exact absurd hb (by decide)
      rw [rS z hzl]
      exact a6 z hz hb
    by_cases hp : ∃ p : Nat, p < n ∧ B l p = true
    · obtain ⟨p, p1, p2⟩ := hp
      have hpl : p ≠ l := fun e => by rw [e, hir] at p2; exact absurd p2 (by decide)
      have hpr : r.testBit p = true := by rw [rS p hpl]; exact a4 l p a2 p1 a3 p2
      have h0 : ini_ fs r l = 0 := if_neg (fun e => by
        rw [e.1, Nat.zero_testBit] at hpr
        exact absurd hpr (by decide))
      have al : alv_ B n r p := by
        refine ⟨by omega, p1, hpr, ?_, ?_, ?_⟩
        · intro y q hy hq h1 h2
          have hyl : y ≠ l := fun e => by rw [e, r1] at h1; exact absurd h1 (by decide)
          have hyS : S.testBit y = true := by rw [← rS y hyl]; exact h1
          have hql : q ≠ l := fun e => by
            rw [e] at h2
            have := a6 y hy h2
            rw [hyS] at this
            exact absurd this (by decide)
          rw [rS q hql]
          exact a4 y q hy hq hyS h2
        · intro y q hy hq h1 h2 h3
          have hql : q ≠ l := fun e => by rw [e, r1] at h1; exact absurd h1 (by decide)
          have hyl : y ≠ l := fun e => by
            rw [e] at h3
            exact h2 (hu1 l q p hq p1 h3 p2)
          rw [rS y hyl]
          exact a5 y q hy hq (by rw [← rS q hql]; exact h1) hql h3
        · intro y hy h1
          rw [hu2 p y l hy a2 h1 p2]
          exact r1
      have hpz : pz_ okq (T r) r l n = cn_ (fun k => decide (k = p)) n * T r p := pz_cn (P := fun k => decide (k = p)) n (fun k hk => by
        by_cases hkp : k = p
        · subst hkp
          rw [if_pos ((hok l r k a2 hk).mpr ⟨fun p' h1 h2 => hu1 l p' k h1 hk h2 p2, second⟩), if_pos (decide_eq_true rfl)]
        · rw [if_neg (fun e => hkp (((hok l r k a2 hk).mp e).1 p p1 p2).symm), if_neg (by rw [decide_eq_false hkp]; decide)])
      have hc1 : cn_ (fun k => decide (k = p)) n = 1 := by
        rw [cn_but (P := fun k => decide (k = p)) (a := p) (decide_eq_true rfl) n p1]
        rw [cn_0 n (fun i _ => Bool.and_not_self _)]
      rw [h0, hpz, hc1, Nat.one_mul, Nat.zero_add, ih r r3 p al]
      congr 1
      apply cn_cg
      intro t ht
      by_cases htl : t = l
      · subst htl
        rw [r1, decide_eq_true rfl, Bool.not_true, Bool.and_false, Bool.false_and, Bool.false_and]
      · rw [rS t htl, decide_eq_false htl, Bool.not_false, Bool.and_true]
        by_cases htp : t = p
        · subst htp
          have : ta t = false := by
            cases hb : ta t
            · rfl
            · have := (hta t p1).mp hb l a2
              rw [p2] at this
              exact absurd this (by decide)
          rw [this, Bool.and_false, Bool.false_and]
        · rw [decide_eq_false htp, Bool.not_false, Bool.and_true]
    · have hno : ∀ p : Nat, p < n → B l p = false := fun p h1 => by
        cases hb : B l p
        · rfl
        · exact absurd ⟨p, h1, hb⟩ hp
      have hcn : cn_ (fun t => (S.testBit t && ta t) && !decide (t = l)) n = cn_ (fun t => r.testBit t && ta t) n := by
        apply cn_cg
        intro t ht
        by_cases htl : t = l
        · subst htl
          rw [r1, decide_eq_true rfl, Bool.not_true, Bool.and_false, Bool.false_and]
        · rw [rS t htl, decide_eq_false htl, Bool.not_false, Bool.and_true]
      rw [hcn]
      by_cases hr0 : r = 0
      · subst hr0
        rw [pz_0 n (fun k hk _ => hdp.1 0 k (by omega) hk (Nat.zero_testBit k)), show ini_ fs 0 l = 1 from if_pos ⟨rfl, (hfs l a2).mpr hno⟩]
        rw [cn_0 n (fun t _ => by rw [Nat.zero_testBit, Bool.false_and])]
        rfl
      · have clo : ∀ y p : Nat, y < n → p < n → r.testBit p = true → B y p = true → r.testBit y = true := by
          intro y p hy hp h1 h2
          have hpl : p ≠ l := fun e => by rw [e, r1] at h1; exact absurd h1 (by decide)
          have hyl : y ≠ l := fun e => by
            rw [e] at h2
            rw [hno p hp] at h2
            exact absurd h2 (by decide)
          rw [rS y hyl]
          exact a5 y p hy hp (by rw [← rS p hpl]; exact h1) hpl h2
        have clo2 : ∀ y p : Nat, y < n → p < n → r.testBit y = true → B y p = true → r.testBit p = true := by
          intro y q hy hq h1 h2
          have hyl : y ≠ l := fun e => by rw [e, r1] at h1; exact absurd h1 (by decide)
          have hyS : S.testBit y = true := by rw [← rS y hyl]; exact h1
          have hql : q ≠ l := fun e => by
            rw [e] at h2
            have := a6 y hy h2
            rw [hyS] at this
            exact absurd this (by decide)
          rw [rS q hql]
          exact a4 y q hy hq hyS h2
        obtain ⟨t, t1, t2, t3⟩ := hac r hr0 (by omega) clo
        have hpos := cn_pos (P := fun t => r.testBit t && ta t) (a := t) (k := n) (by show (r.testBit t && ta t) = true; rw [t2, t3]; rfl) t1
        rw [show ini_ fs r l = 0 from if_neg (fun e => hr0 e.1), Nat.zero_add]
        rw [pz_cn (P := fun t => r.testBit t && ta t) (c := fac_ (cn_ (fun t => r.testBit t && ta t) n - 1)) n ?_, fac_s hpos]
        intro k hk
        rw [if_pos ((hok l r k a2 hk).mpr ⟨fun p h1 h2 => by rw [hno p h1] at h2; exact absurd h2 (by decide), second⟩)]
        cases hkr : r.testBit k
        · rw [Bool.false_and, if_neg (by decide)]
          exact hdp.1 r k (by omega) hk hkr
        · cases htk : ta k
          · rw [Bool.and_false, if_neg (by decide)]
            have : ∃ z : Nat, z < n ∧ B z k = true := by
              apply Classical.byContradiction
              intro hc
              have := (hta k hk).mpr (fun y hy => by
                cases hb : B y k
                · rfl
                · exact absurd ⟨y, hy, hb⟩ hc)
              rw [htk] at this
              exact absurd this (by decide)
            obtain ⟨z, z1, z2⟩ := this
            exact bh_0 hdp hok hir (by omega) hk z1 hkr (clo z k z1 hk hkr z2) z2
          · rw [Bool.and_true, if_pos rfl]
            have al : alv_ B n r k := ⟨by omega, hk, hkr, clo2, fun y p hy hp h1 _ h3 => clo y p hy hp h1 h3, fun y hy h1 => by
              have := (hta k hk).mp htk y hy
              rw [this] at h1
              exact absurd h1 (by decide)⟩
            rw [ih r r3 k al]
            have := cn_but (P := fun t => r.testBit t && ta t) (a := k) (by show (r.testBit k && ta k) = true; rw [hkr, htk]; rfl) n hk
            rw [this, Nat.add_sub_cancel]
end BH
