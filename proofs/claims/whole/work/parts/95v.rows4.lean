/-! rows: side by side, the table -/
def smv_ (f : Nat → Nat) : Nat → Nat
  | 0 => 0
  | k + 1 => smv_ f k + f k
section CM
variable {P Q : Nat → Bool}
theorem or_at {r l : Nat} : (r ||| 2 ^ l).testBit l = true := by
  rw [Nat.testBit_or, Nat.testBit_two_pow, decide_eq_true rfl, Bool.or_true]
theorem cn_le1 {a : Nat} (k : Nat) (h : ∀ i : Nat, i < k → P i = true → i = a) : cn_ P k ≤ 1 := by
  by_cases hc : a < k ∧ P a = true
  · have h0 : cn_ (fun i => P i && !decide (i = a)) k = 0 := cn_0 k (fun i hi => by
      show (P i && !decide (i = a)) = false
      cases hp : P i
      · rfl
      · rw [decide_eq_true (h i hi hp)]; rfl)
    rw [cn_but hc.2 k hc.1, h0]
    exact Nat.le_refl 1
  · have h0 : cn_ P k = 0 := cn_0 k (fun i hi => by
      cases hp : P i
      · rfl
      · have e := h i hi hp
        rw [e] at hi hp
        exact absurd ⟨hi, hp⟩ hc)
    rw [h0]
    exact Nat.zero_le 1
theorem cn_ex : ∀ k : Nat, 0 < cn_ P k → ∃ i : Nat, i < k ∧ P i = true := by
  intro k
  induction k with
  | zero => intro h; exact absurd h (Nat.lt_irrefl 0)
  | succ k ih =>
    intro h
    have h' : 0 < cn_ P k + (if P k = true then 1 else 0) := h
    by_cases hp : P k = true
    · exact ⟨k, Nat.lt_succ_self k, hp⟩
    · rw [if_neg hp] at h'
      obtain ⟨i, h1, h2⟩ := ih (by omega)
      exact ⟨i, by omega, h2⟩
theorem cn_2 {a b k : Nat} (ha : P a = true) (hb : P b = true) (ka : a < k) (kb : b < k) (hab : a ≠ b) : 2 ≤ cn_ P k := by
  have h1 := cn_but ha k ka
  have h2 := cn_pos (P := fun i => P i && !decide (i = a)) (a := b) (k := k) (by
    show (P b && !decide (b = a)) = true
    rw [hb, decide_eq_false (Ne.symm hab)]; rfl) kb
  omega
theorem cn_3 {a b c k : Nat} (ha : P a = true) (hb : P b = true) (hc : P c = true) (ka : a < k) (kb : b < k) (kc : c < k) (hab : a ≠ b) (hac : a ≠ c) (hbc : b ≠ c) : 3 ≤ cn_ P k := by
  have h1 := cn_but ha k ka
  have h2 := cn_2 (P := fun i => P i && !decide (i = a)) (a := b) (b := c) (k := k) (by
    show (P b && !decide (b = a)) = true
    rw [hb, decide_eq_false (Ne.symm hab)]; rfl) (by
    show (P c && !decide (c = a)) = true
    rw [hc, decide_eq_false (Ne.symm hac)]; rfl) kb kc hbc
  omega
theorem cn_u {a b k : Nat} (h : cn_ P k ≤ 1) (ha : P a = true) (hb : P b = true) (ka : a < k) (kb : b < k) : a = b := by
  apply Classical.byContradiction
  intro hne
  have := cn_2 ha hb ka kb hne
  omega
/-- a second one -/
theorem cn_oth {a k : Nat} (h : 2 ≤ cn_ P k) (ha : P a = true) (ka : a < k) : ∃ b : Nat, b < k ∧ P b = true ∧ b ≠ a := by
  have h1 := cn_but ha k ka
  obtain ⟨b, b1, b2⟩ := cn_ex (P := fun i => P i && !decide (i = a)) k (by omega)
  have b3 : (P b && !decide (b = a)) = true := b2
  rw [Bool.and_eq_true] at b3
  refine ⟨b, b1, b3.1, fun e => ?_⟩
  rw [decide_eq_true e] at b3
  exact absurd b3.2 (by decide)
theorem cn_or {r l n : Nat} (h : r.testBit l = false) (hl : l < n) : cn_ (fun u => (r ||| 2 ^ l).testBit u && P u) n = cn_ (fun u => r.testBit u && P u) n + if P l = true then 1 else 0 := by
  by_cases hp : P l = true
  · rw [if_pos hp, cn_but (P := fun u => (r ||| 2 ^ l).testBit u && P u) (a := l) (by
      show ((r ||| 2 ^ l).testBit l && P l) = true
      rw [or_at, hp]; rfl) n hl]
    congr 1
    apply cn_cg
    intro u hu
    show (((r ||| 2 ^ l).testBit u && P u) && !decide (u = l)) = (r.testBit u && P u)
    by_cases hul : u = l
    · rw [hul, h, decide_eq_true rfl, Bool.not_true, Bool.and_false, Bool.false_and]
    · rw [or_of hul, decide_eq_false hul, Bool.not_false, Bool.and_true]
  · rw [if_neg hp, Nat.add_zero]
    apply cn_cg
    intro u hu
    show ((r ||| 2 ^ l).testBit u && P u) = (r.testBit u && P u)
    by_cases hul : u = l
    · have : P l = false := by
        cases hq : P l
        · rfl
        · exact absurd hq hp
      rw [hul, this, Bool.and_false, Bool.and_false]
    · rw [or_of hul]
theorem pz_cn2 {okq : Nat → Nat → Nat → Bool} {G : Nat → Nat} {S x c d : Nat} : ∀ L : Nat, (∀ l : Nat, l < L → (if okq x S l = true then G l else 0) = (if P l = true then c else 0) + if Q l = true then d else 0) → pz_ okq G S x L = cn_ P L * c + cn_ Q L * d := by
  intro L
  induction L with
  | zero => intro _; show 0 = 0 * c + 0 * d; rw [Nat.zero_mul, Nat.zero_mul]
  | succ L ih =>
    intro h
    show pz_ okq G S x L + (if okq x S L = true then G L else 0) = (cn_ P L + if P L = true then 1 else 0) * c + (cn_ Q L + if Q L = true then 1 else 0) * d
    rw [ih (fun l hl => h l (by omega)), h L (by omega), Nat.add_mul, Nat.add_mul]
    cases hp : P L <;> cases hq : Q L <;> simp <;> omega
theorem pz_tt {okq : Nat → Nat → Nat → Bool} {G : Nat → Nat} {S x : Nat} : ∀ L : Nat, (∀ l : Nat, l < L → okq x S l = true) → pz_ okq G S x L = pz_ (fun _ _ _ => true) G 0 0 L := by
  intro L
  induction L with
  | zero => intro _; rfl
  | succ L ih =>
    intro h
    show pz_ okq G S x L + (if okq x S L = true then G L else 0) = pz_ (fun _ _ _ => true) G 0 0 L + (if true = true then G L else 0)
    rw [ih (fun l hl => h l (by omega)), if_pos (h L (by omega)), if_pos rfl]
theorem sm_0 {f : Nat → Nat} : ∀ k : Nat, (∀ v : Nat, v < k → f v = 0) → smv_ f k = 0 := by
  intro k
  induction k with
  | zero => intro _; rfl
  | succ k ih =>
    intro h
    show smv_ f k + f k = 0
    rw [ih (fun v hv => h v (by omega)), h k (by omega)]
theorem sm_cg {f g : Nat → Nat} : ∀ k : Nat, (∀ v : Nat, v < k → f v = g v) → smv_ f k = smv_ g k := by
  intro k
  induction k with
  | zero => intro _; rfl
  | succ k ih =>
    intro h
    show smv_ f k + f k = smv_ g k + g k
    rw [ih (fun v hv => h v (by omega)), h k (by omega)]
theorem sm_st {f f' : Nat → Nat} {x c : Nat} (hP : P x = false) (hx : f' x = f x + c) (hn : ∀ v : Nat, v ≠ x → f' v = f v + if P v = true then 1 else 0) : ∀ k : Nat, smv_ f' k = smv_ f k + cn_ P k + if x < k then c else 0 := by
  intro k
  induction k with
  | zero => rw [if_neg (Nat.not_lt_zero x)]; rfl
  | succ k ih =>
    show smv_ f' k + f' k = smv_ f k + f k + (cn_ P k + if P k = true then 1 else 0) + if x < k + 1 then c else 0
    by_cases hk : k = x
    · rw [ih, hk, if_neg (Nat.lt_irrefl x), hx, if_neg (show ¬ P x = true by rw [hP]; decide), if_pos (Nat.lt_succ_self x)]
      omega
    · rw [ih, hn k hk]
      by_cases h : x < k
      · rw [if_pos h, if_pos (show x < k + 1 by omega)]
        omega
      · rw [if_neg h, if_neg (show ¬ x < k + 1 by omega)]
        omega
end CM
def sg_ (A : Nat → Nat → Bool) : Prop := (∀ u v : Nat, A u v = true → A v u = true) ∧ ∀ u : Nat, A u u = false
def so_ (A : Nat → Nat → Bool) (n : Nat) (okq : Nat → Nat → Nat → Bool) (fs : Nat → Bool) : Prop := (∀ x S l : Nat, x < n → l < n → (okq x S l = true ↔ ∀ z : Nat, z < n → A x z = true → S.testBit z = true → z = l)) ∧ ∀ x : Nat, x < n → fs x = true
/-- how many pairs of neighbours stand in a set, twice -/
def ed_ (A : Nat → Nat → Bool) (n X : Nat) : Nat := smv_ (fun v => if X.testBit v = true then cn_ (fun u => X.testBit u && A v u) n else 0) n
section SB
variable {okq : Nat → Nat → Nat → Bool} {fs : Nat → Bool} {n : Nat} {T : Nat → Nat → Nat} {A : Nat → Nat → Bool}
theorem sg_c (hsg : sg_ A) (u v : Nat) : A u v = A v u := Bool.eq_iff_iff.mpr ⟨hsg.1 u v, hsg.1 v u⟩
theorem ed_or (hsg : sg_ A) {X x : Nat} (hx : X.testBit x = false) (hn : x < n) : ed_ A n (X ||| 2 ^ x) = ed_ A n X + 2 * cn_ (fun u => X.testBit u && A x u) n := by
  unfold ed_
  rw [sm_st (f := fun v => if X.testBit v = true then cn_ (fun u => X.testBit u && A v u) n else 0) (P := fun u => X.testBit u && A x u) (x := x) (c := cn_ (fun u => X.testBit u && A x u) n) ?_ ?_ ?_ n, if_pos hn]
  · omega
  · show (X.testBit x && A x x) = false
    rw [hx]; rfl
  · show (if (X ||| 2 ^ x).testBit x = true then cn_ (fun u => (X ||| 2 ^ x).testBit u && A x u) n else 0) = (if X.testBit x = true then cn_ (fun u => X.testBit u && A x u) n else 0) + cn_ (fun u => X.testBit u && A x u) n
    rw [if_pos or_at, if_neg (show ¬ X.testBit x = true by rw [hx]; decide), cn_or hx hn (P := A x), if_neg (show ¬ A x x = true by rw [hsg.2 x]; decide)]
    omega
  · intro v hv
    show (if (X ||| 2 ^ x).testBit v = true then cn_ (fun u => (X ||| 2 ^ x).testBit u && A v u) n else 0) = (if X.testBit v = true then cn_ (fun u => X.testBit u && A v u) n else 0) + if (X.testBit v && A x v) = true then 1 else 0
    rw [or_of hv]
    by_cases hb : X.testBit v = true
    · rw [if_pos hb, if_pos hb, hb, Bool.true_and, cn_or hx hn (P := A v), sg_c hsg v x]
    · have hb' : X.testBit v = false := by
        cases hq : X.testBit v
        · rfl
        · exact absurd hq hb
      rw [if_neg hb, if_neg hb, hb', Bool.false_and]
      rfl
theorem ed_0 : ed_ A n 0 = 0 := sm_0 n (fun v _ => by
  show (if (0 : Nat).testBit v = true then _ else 0) = 0
  rw [Nat.zero_testBit, if_neg (by decide)])
theorem sb_pre (hdp : dp_ okq fs n T) (ho : so_ A n okq fs) {S l : Nat} (hS : S < 2 ^ n) (hl : l < n) (hT : T S l ≠ 0) : ∃ r : Nat, r.testBit l = false ∧ r ||| 2 ^ l = S ∧ r < S ∧ S.testBit l = true ∧ (r = 0 ∨ ∃ k : Nat, k < n ∧ r.testBit k = true ∧ T r k ≠ 0 ∧ ∀ z : Nat, z < n → A l z = true → r.testBit z = true → z = k) := by
  have hb : S.testBit l = true := by
    cases hb : S.testBit l
    · exact absurd (hdp.1 S l hS hl hb) hT
    · rfl
  obtain ⟨r, r1, r2, r3⟩ := cut_ hb
  refine ⟨r, r1, r2, r3, hb, ?_⟩
  by_cases hr : r = 0
  · exact Or.inl hr
  · right
    have h := hdp.2 r l (by omega) hl r1
    rw [r2, show ini_ fs r l = 0 from if_neg (fun e => hr e.1), Nat.zero_add] at h
    apply Classical.byContradiction
    intro hc
    apply hT
    rw [h]
    exact pz_0 n (fun k hk ho' => by
      apply Classical.byContradiction
      intro hk0
      apply hc
      refine ⟨k, hk, ?_, hk0, (ho.1 l r k hl hk).mp ho'⟩
      cases hkb : r.testBit k
      · exact absurd (hdp.1 r k (by omega) hk hkb) hk0
      · rfl)
theorem sb_deg (hsg : sg_ A) (hdp : dp_ okq fs n T) (ho : so_ A n okq fs) : ∀ S l : Nat, S < 2 ^ n → l < n → T S l ≠ 0 → (∀ v : Nat, v < n → S.testBit v = true → cn_ (fun u => S.testBit u && A v u) n ≤ 2) ∧ cn_ (fun u => S.testBit u && A l u) n ≤ 1 := by
  intro S
  induction S using Nat.strongRecOn with
  | ind S ih =>
    intro l hS hl hT
    obtain ⟨r, r1, r2, r3, hb, hr⟩ := sb_pre hdp ho hS hl hT
    have hl1 : cn_ (fun u => r.testBit u && A l u) n ≤ 1 := by
      rcases hr with e | ⟨k, k1, k2, k3, k4⟩
      · have h0 : cn_ (fun u => r.testBit u && A l u) n = 0 := cn_0 n (fun i _ => by
          show (r.testBit i && A l i) = false
          rw [e, Nat.zero_testBit, Bool.false_and])
        rw [h0]
        exact Nat.zero_le 1
      · exact cn_le1 (a := k) n (fun i hi hp => by
          have hp' : (r.testBit i && A l i) = true := hp
          rw [Bool.and_eq_true] at hp'
          exact k4 i hi hp'.2 hp'.1)
    have hl2 : cn_ (fun u => S.testBit u && A l u) n ≤ 1 := by
      rw [← r2, cn_or r1 hl (P := A l), if_neg (show ¬ A l l = true by rw [hsg.2 l]; decide), Nat.add_zero]
      exact hl1
    refine ⟨fun v hv hvS => ?_, hl2⟩
    by_cases hvl : v = l
    · rw [hvl]; omega
    · have hvr : r.testBit v = true := by rw [← r2, or_of hvl] at hvS; exact hvS
      rcases hr with e | ⟨k, k1, k2, k3, k4⟩
      · rw [e, Nat.zero_testBit] at hvr; exact absurd hvr (by decide)
      · obtain ⟨i1, i2⟩ := ih r r3 k (by omega) k1 k3
        rw [← r2, cn_or r1 hl (P := A v)]
        by_cases hA : A v l = true
        · have hvk := k4 v hv (hsg.1 v l hA) hvr
          rw [if_pos hA, hvk]
          omega
        · rw [if_neg hA]
          have := i1 v hv hvr
          omega
theorem sb_ed (hsg : sg_ A) (hdp : dp_ okq fs n T) (ho : so_ A n okq fs) {D : Nat} : ∀ S l : Nat, S < 2 ^ n → l < n → T S l ≠ 0 → S &&& D ≠ 0 → ed_ A n (S &&& D) + 2 ≤ 2 * bs_ (S &&& D) n := by
  intro S
  induction S using Nat.strongRecOn with
  | ind S ih =>
    intro l hS hl hT hne
    obtain ⟨r, r1, r2, r3, hb, hr⟩ := sb_pre hdp ho hS hl hT
    cases hD : D.testBit l
    · have e : S &&& D = r &&& D := by
        apply Nat.eq_of_testBit_eq
        intro i
        rw [Nat.testBit_and, Nat.testBit_and]
        by_cases hi : i = l
        · rw [hi, hD, Bool.and_false, Bool.and_false]
        · rw [← r2, or_of hi]
      rw [e] at hne ⊢
      rcases hr with e0 | ⟨k, k1, k2, k3, k4⟩
      · rw [e0, Nat.zero_and] at hne; exact absurd rfl hne
      · exact ih r r3 k (by omega) k1 k3 hne
    · have e : S &&& D = (r &&& D) ||| 2 ^ l := by
        apply Nat.eq_of_testBit_eq
        intro i
        by_cases hi : i = l
        · rw [hi, or_at, Nat.testBit_and, hb, hD]; rfl
        · rw [or_of hi, Nat.testBit_and, Nat.testBit_and, ← r2, or_of hi]
      have hX : (r &&& D).testBit l = false := by rw [Nat.testBit_and, r1, Bool.false_and]
      rw [e, ed_or hsg hX hl, bs_or hX n, if_pos hl]
      by_cases h0 : r &&& D = 0
      · have hc0 : cn_ (fun u => (0 : Nat).testBit u && A l u) n = 0 := cn_0 n (fun i _ => by
          show ((0 : Nat).testBit i && A l i) = false
          rw [Nat.zero_testBit, Bool.false_and])
        rw [h0, ed_0, hc0]
        omega
      · rcases hr with e0 | ⟨k, k1, k2, k3, k4⟩
        · rw [e0, Nat.zero_and] at h0; exact absurd rfl h0
        · have h1 := ih r r3 k (by omega) k1 k3 h0
          have h2 : cn_ (fun u => (r &&& D).testBit u && A l u) n ≤ 1 := cn_le1 (a := k) n (fun i hi hp => by
            have hp' : ((r &&& D).testBit i && A l i) = true := hp
            rw [Bool.and_eq_true, Nat.testBit_and, Bool.and_eq_true] at hp'
            exact k4 i hi hp'.2 hp'.1.1)
          omega
theorem sb_2 (hsg : sg_ A) (hdp : dp_ okq fs n T) (ho : so_ A n okq fs) {r k a b : Nat} (hr : r < 2 ^ n) (hk : k < n) (ha : a < n) (hb : b < n) (hab : a ≠ b) (h1 : A k a = true) (h2 : A k b = true) (ra : r.testBit a = true) (rb : r.testBit b = true) : T r k = 0 := by
  apply Classical.byContradiction
  intro hT
  have d1 := (sb_deg hsg hdp ho r k hr hk hT).2
  have d2 := cn_2 (P := fun u => r.testBit u && A k u) (a := a) (b := b) (k := n) (by
    show (r.testBit a && A k a) = true
    rw [ra, h1]; rfl) (by
    show (r.testBit b && A k b) = true
    rw [rb, h2]; rfl) ha hb hab
  omega
end SB
