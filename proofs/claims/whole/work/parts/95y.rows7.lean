/-! rows: the groups one by one, and what comes out -/
def wn_ (A : Nat → Nat → Bool) (n S : Nat) : Nat := e1_ A n S + 2 * e0_ A n S
def gI_ (A : Nat → Nat → Bool) (n S g en : Nat) : Prop := S < 2 ^ n ∧ clv_ A n S ∧ wn_ A n S ≤ 2 * g ∧ ((∀ D : Nat, D ≠ 0 → D < 2 ^ n → ed_ A n D + 2 ≤ 2 * bs_ D n) → 2 * g ≤ wn_ A n S) ∧ (∀ r : Nat, clv_ A n r → r ≠ 0 → (∀ i : Nat, r.testBit i = true → S.testBit i = true) → wn_ A n S + 2 ≤ 2 * g + wn_ A n r) ∧ en + e0_ A n S = g
section GI
variable {m : Nat → Nat} {n : Nat} {A : Nat → Nat → Bool}
theorem gI_0 : gI_ A n 0 0 0 := by
  have e1z : e1_ A n 0 = 0 := cn_0 n (fun i _ => by
    show ((0 : Nat).testBit i && _) = false
    rw [Nat.zero_testBit, Bool.false_and])
  have e0z : e0_ A n 0 = 0 := cn_0 n (fun i _ => by
    show ((0 : Nat).testBit i && _) = false
    rw [Nat.zero_testBit, Bool.false_and])
  have wz : wn_ A n 0 = 0 := by unfold wn_; rw [e1z, e0z]
  refine ⟨Nat.pow_pos (by decide), fun u v _ _ h _ => ?_, ?_, ?_, fun r _ hr h => ?_, ?_⟩
  · rw [Nat.zero_testBit] at h; exact absurd h (by decide)
  · rw [wz]; omega
  · intro _; omega
  · obtain ⟨i, i1, i2⟩ := df_ (g := 0) (h := r) (fun i h => by rw [Nat.zero_testBit] at h; exact absurd h (by decide)) hr
    rw [h i i1] at i2
    exact absurd i2 (by decide)
  · rw [e0z]
/-- what is not in a closed set is closed -/
theorem cp_cl (hsg : sg_ A) {S : Nat} (h : clv_ A n S) : clv_ A n (bn_ (fun i => !S.testBit i) n) := by
  intro u v hu hv h1 h2
  rw [bn_tb, decide_eq_true hu, Bool.true_and] at h1
  rw [bn_tb, decide_eq_true hv, Bool.true_and]
  cases hb : S.testBit v
  · rfl
  · rw [h v u hv hu hb (hsg.1 u v h2)] at h1
    exact h1
theorem cp_at {S i : Nat} (hi : i < n) (h : S.testBit i = false) : (bn_ (fun i => !S.testBit i) n).testBit i = true := by
  rw [bn_tb, decide_eq_true hi, h]; rfl
theorem cp_of {S i : Nat} (h : (bn_ (fun i => !S.testBit i) n).testBit i = true) : S.testBit i = false := by
  rw [bn_tb, Bool.and_eq_true] at h
  cases hb : S.testBit i
  · rfl
  · rw [hb] at h
    exact absurd h.2 (by decide)
theorem gI_s (hsg : sg_ A) (hdeg : ∀ v : Nat, v < n → cn_ (A v) n ≤ 2) (hm : ma_ A n m) {S g en w : Nat} (h : gI_ A n S g en) (hw : w < n) (hS : S.testBit w = false) : gI_ A n (S ||| rdv_ m n (2 ^ w) n) (g + 1) (en + if cn_ (A w) n = 0 then 0 else 1) := by
  obtain ⟨i1, i2, i3, i4, i5, i6⟩ := h
  obtain ⟨c1, c2, c3⟩ := gp_1 hm hw
  have c4 := gp_3 hsg hm hw
  have c5 := fun (R : Nat) (hR : clv_ A n R) (h : R.testBit w = true) => gp_2 hm hR h
  have eW := ed_W hdeg c3
  generalize rdv_ m n (2 ^ w) n = C at c1 c2 c3 c4 c5 eW ⊢
  have hdis : ∀ i : Nat, S.testBit i = true → C.testBit i = false := fun i hi => by
    cases hb : C.testBit i
    · rfl
    · have := cp_of (c5 _ (cp_cl hsg i2) (cp_at hw hS) i hb)
      rw [hi] at this
      exact absurd this (by decide)
  have w1 : e1_ A n (S ||| C) = e1_ A n S + e1_ A n C := ee_or _ hdis
  have w0 : e0_ A n (S ||| C) = e0_ A n S + e0_ A n C := ee_or _ hdis
  have ww : wn_ A n (S ||| C) = wn_ A n S + wn_ A n C := by unfold wn_; omega
  have wC : ed_ A n C + wn_ A n C = 2 * bs_ C n := eW
  refine ⟨Nat.or_lt_two_pow i1 c2, fun u v hu hv h1 h2 => ?_, ?_, fun hD => ?_, fun r r1 r2 r3 => ?_, ?_⟩
  · rw [Nat.testBit_or, Bool.or_eq_true] at h1
    rw [Nat.testBit_or, Bool.or_eq_true]
    rcases h1 with e | e
    · exact Or.inl (i2 u v hu hv e h2)
    · exact Or.inr (c3 u v hu hv e h2)
  · rw [ww]; omega
  · have h1 := i4 hD
    have h2 := hD C (fun e => by rw [e, Nat.zero_testBit] at c1; exact absurd c1 (by decide)) c2
    rw [ww]; omega
  · rw [ww]
    cases hrw : r.testBit w
    · have rS : ∀ i : Nat, r.testBit i = true → S.testBit i = true := fun i hi => by
        have h1 := r3 i hi
        rw [Nat.testBit_or, Bool.or_eq_true] at h1
        rcases h1 with e | e
        · exact e
        · have hin := tb_big c2 e
          have := cp_of (c5 _ (cp_cl hsg r1) (cp_at hw hrw) i e)
          rw [hi] at this
          exact absurd this (by decide)
      have := i5 r r1 r2 rS
      omega
    · have hCr := c5 r r1 hrw
      have m1 : e1_ A n C ≤ e1_ A n r := cn_mono n (fun i _ hp => by
        have hp' : (C.testBit i && decide (cn_ (A i) n = 1)) = true := hp
        rw [Bool.and_eq_true] at hp'
        show (r.testBit i && decide (cn_ (A i) n = 1)) = true
        rw [hCr i hp'.1, hp'.2]; rfl)
      have m0 : e0_ A n C ≤ e0_ A n r := cn_mono n (fun i _ hp => by
        have hp' : (C.testBit i && decide (cn_ (A i) n = 0)) = true := hp
        rw [Bool.and_eq_true] at hp'
        show (r.testBit i && decide (cn_ (A i) n = 0)) = true
        rw [hCr i hp'.1, hp'.2]; rfl)
      have : wn_ A n C ≤ wn_ A n r := by unfold wn_; omega
      omega
  · rw [w0]
    by_cases d0 : cn_ (A w) n = 0
    · rw [if_pos d0]
      have only : ∀ i : Nat, C.testBit i = true → i = w := fun i hi => by
        have hcl2 : clv_ A n (2 ^ w) := fun u v hu hv h1 h2 => by
          rw [Nat.testBit_two_pow, decide_eq_true_eq] at h1
          rw [← h1] at h2
          have := cn_pos (P := A w) (a := v) (k := n) h2 hv
          omega
        have := c5 (2 ^ w) hcl2 (by rw [Nat.testBit_two_pow, decide_eq_true rfl]) i hi
        rw [Nat.testBit_two_pow, decide_eq_true_eq] at this
        exact this.symm
      have l1 : e0_ A n C ≤ 1 := cn_le1 (a := w) n (fun i _ hp => by
        have hp' : (C.testBit i && decide (cn_ (A i) n = 0)) = true := hp
        rw [Bool.and_eq_true] at hp'
        exact only i hp'.1)
      have l2 : 0 < e0_ A n C := cn_pos (P := fun v => C.testBit v && decide (cn_ (A v) n = 0)) (a := w) (k := n) (by
        show (C.testBit w && decide (cn_ (A w) n = 0)) = true
        rw [c1, decide_eq_true d0]; rfl) hw
      omega
    · rw [if_neg d0]
      have l0 : e0_ A n C = 0 := cn_0 n (fun i hi => by
        show (C.testBit i && decide (cn_ (A i) n = 0)) = false
        cases hb : C.testBit i
        · rfl
        · by_cases di : cn_ (A i) n = 0
          · have hcl2 : clv_ A n (2 ^ i) := fun u v hu hv h1 h2 => by
              rw [Nat.testBit_two_pow, decide_eq_true_eq] at h1
              rw [← h1] at h2
              have := cn_pos (P := A i) (a := v) (k := n) h2 hv
              omega
            have hwi : (2 ^ i).testBit w = false := by
              rw [Nat.testBit_two_pow]
              exact decide_eq_false (fun e => d0 (by rw [← e]; exact di))
            have := cp_of (c5 _ (cp_cl hsg hcl2) (cp_at hw hwi) i hb)
            rw [Nat.testBit_two_pow, decide_eq_true rfl] at this
            exact absurd this (by decide)
          · rw [decide_eq_false di]; rfl)
      omega
variable {okq : Nat → Nat → Nat → Bool} {fs : Nat → Bool} {T : Nat → Nat → Nat}
theorem fu_ {S : Nat} (hS : S < 2 ^ n) (hall : ∀ i : Nat, i < n → S.testBit i = true) : S = 2 ^ n - 1 := by
  apply Nat.eq_of_testBit_eq
  intro i
  rw [Nat.testBit_two_pow_sub_one]
  by_cases hi : i < n
  · rw [hall i hi, decide_eq_true hi]
  · rw [decide_eq_false hi]
    cases hb : S.testBit i
    · rfl
    · exact absurd (tb_big hS hb) hi
theorem bs_n {S : Nat} : ∀ k : Nat, (∀ i : Nat, i < k → S.testBit i = true) → bs_ S k = k := by
  intro k
  induction k with
  | zero => intro _; rfl
  | succ k ih =>
    intro h
    show bs_ S k + (if S.testBit k = true then 1 else 0) = k + 1
    rw [ih (fun i hi => h i (by omega)), if_pos (h k (by omega))]
theorem pz_nz {G : Nat → Nat} : ∀ L : Nat, pz_ (fun _ _ _ => true) G 0 0 L ≠ 0 → ∃ l : Nat, l < L ∧ G l ≠ 0 := by
  intro L h
  apply Classical.byContradiction
  intro hc
  apply h
  exact pz_0 L (fun l hl _ => by
    apply Classical.byContradiction
    intro h0
    exact hc ⟨l, hl, h0⟩)
/-- a degree beyond two -/
theorem r0_deg (hsg : sg_ A) (hdp : dp_ okq fs n T) (ho : so_ A n okq fs) {v : Nat} (hv : v < n) (hd : 2 < cn_ (A v) n) : pz_ (fun _ _ _ => true) (T (2 ^ n - 1)) 0 0 n = 0 := by
  have hp : 0 < 2 ^ n := Nat.pow_pos (by decide)
  apply Classical.byContradiction
  intro h
  obtain ⟨l, l1, l2⟩ := pz_nz n h
  have h1 := (sb_deg hsg hdp ho (2 ^ n - 1) l (by omega) l1 l2).1 v hv (by rw [Nat.testBit_two_pow_sub_one, decide_eq_true hv])
  have hcg : cn_ (fun u => Nat.testBit (2 ^ n - 1) u && A v u) n = cn_ (A v) n := cn_cg n (fun u hu => by
    show (Nat.testBit (2 ^ n - 1) u && A v u) = A v u
    rw [Nat.testBit_two_pow_sub_one, decide_eq_true hu, Bool.true_and])
  rw [hcg] at h1
  omega
theorem r0_end (hsg : sg_ A) (hdp : dp_ okq fs n T) (ho : so_ A n okq fs) (hdeg : ∀ v : Nat, v < n → cn_ (A v) n ≤ 2) (hn : 0 < n) {S g en : Nat} (h : gI_ A n S g en) (hall : ∀ i : Nat, i < n → S.testBit i = true) (hg : g ≤ n) : (smv_ (fun v => cn_ (A v) n) n / 2 = n - g → pz_ (fun _ _ _ => true) (T (2 ^ n - 1)) 0 0 n = fac_ g * 2 ^ en) ∧ (smv_ (fun v => cn_ (A v) n) n / 2 ≠ n - g → pz_ (fun _ _ _ => true) (T (2 ^ n - 1)) 0 0 n = 0) := by
  obtain ⟨i1, i2, i3, i4, i5, i6⟩ := h
  have hfu := fu_ i1 hall
  have eW := ed_W hdeg i2
  have wS : ed_ A n S + wn_ A n S = 2 * n := by
    rw [bs_n n hall] at eW
    exact eW
  have eb : smv_ (fun v => cn_ (A v) n) n = ed_ A n S := by
    unfold ed_
    apply sm_cg
    intro v hv
    show cn_ (A v) n = if S.testBit v = true then cn_ (fun u => S.testBit u && A v u) n else 0
    rw [if_pos (hall v hv)]
    apply cn_cg
    intro u hu
    show A v u = (S.testBit u && A v u)
    rw [hall u hu, Bool.true_and]
  rw [eb, ← hfu]
  refine ⟨fun hb => ?_, fun hb => ?_⟩
  · have hac : ∀ r : Nat, r ≠ 0 → r < 2 ^ n → clv_ A n r → ∃ t : Nat, t < n ∧ r.testBit t = true ∧ cn_ (A t) n ≤ 1 := fun r r1 r2 r3 => by
      apply Classical.byContradiction
      intro hc
      have z : ∀ d : Nat, d ≤ 1 → cn_ (fun v => r.testBit v && decide (cn_ (A v) n = d)) n = 0 := fun d hd => cn_0 n (fun i hi => by
        show (r.testBit i && decide (cn_ (A i) n = d)) = false
        cases hbi : r.testBit i
        · rfl
        · by_cases hdi : cn_ (A i) n = d
          · exact absurd ⟨i, hi, hbi, by omega⟩ hc
          · rw [decide_eq_false hdi]; rfl)
      have z1 : e1_ A n r = 0 := z 1 (by omega)
      have z0 : e0_ A n r = 0 := z 0 (by omega)
      have h5 := i5 r r3 r1 (fun i hi => hall i (tb_big r2 hi))
      have wr : wn_ A n r = 0 := by unfold wn_; omega
      omega
    have hmain := sb_main hsg hdp ho hdeg hac
    have S0 : S ≠ 0 := fun e => by
      have := hall 0 hn
      rw [e, Nat.zero_testBit] at this
      exact absurd this (by decide)
    obtain ⟨F1, F2⟩ := sb_F hsg hdp ho hdeg i1 i2 (hac S S0 i1 i2) (fun k hk => hmain S k hk)
    have wE : wn_ A n S = e1_ A n S + 2 * e0_ A n S := rfl
    rw [F1, show e0_ A n S + e1_ A n S / 2 = g by omega, show e1_ A n S / 2 = en by omega]
  · apply Classical.byContradiction
    intro hne
    obtain ⟨l, l1, l2⟩ := pz_nz n hne
    apply hb
    have h4 := i4 (fun D hD hDn => by
      have hSD : S &&& D = D := by
        apply Nat.eq_of_testBit_eq
        intro i
        rw [Nat.testBit_and]
        cases hbi : D.testBit i
        · rw [Bool.and_false]
        · rw [hall i (tb_big hDn hbi)]; rfl
      have := sb_ed hsg hdp ho (D := D) S l i1 l1 l2 (by rw [hSD]; exact hD)
      rw [hSD] at this
      exact this)
    omega
end GI
