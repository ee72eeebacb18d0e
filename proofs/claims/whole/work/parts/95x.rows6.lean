/-! rows: sweeps and groups -/
def sw_ (m : Nat → Nat) (g : Nat) : Nat → Nat
  | 0 => g
  | j + 1 => if (sw_ m g j).testBit j = true then sw_ m g j ||| m j else sw_ m g j
def rdv_ (m : Nat → Nat) (n g : Nat) : Nat → Nat
  | 0 => g
  | k + 1 => sw_ m (rdv_ m n g k) n
section SW
variable {m : Nat → Nat} {n : Nat}
theorem sw_inv {I : Nat → Prop} (hI : ∀ g j : Nat, j < n → I g → g.testBit j = true → I (g ||| m j)) {g : Nat} (hg : I g) : ∀ k : Nat, k ≤ n → I (sw_ m g k) := by
  intro k
  induction k with
  | zero => intro _; exact hg
  | succ k ih =>
    intro hk
    have h := ih (by omega)
    show I (if (sw_ m g k).testBit k = true then sw_ m g k ||| m k else sw_ m g k)
    by_cases hb : (sw_ m g k).testBit k = true
    · rw [if_pos hb]; exact hI _ k (by omega) h hb
    · rw [if_neg hb]; exact h
theorem rd_inv {I : Nat → Prop} (hI : ∀ g j : Nat, j < n → I g → g.testBit j = true → I (g ||| m j)) {g : Nat} (hg : I g) : ∀ k : Nat, I (rdv_ m n g k) := by
  intro k
  induction k with
  | zero => exact hg
  | succ k ih => exact sw_inv hI ih n (Nat.le_refl n)
theorem sw_le {g : Nat} (k : Nat) : ∀ d : Nat, sw_ m g k ≤ sw_ m g (k + d) := by
  intro d
  induction d with
  | zero => exact Nat.le_refl _
  | succ d ih =>
    apply Nat.le_trans ih
    show sw_ m g (k + d) ≤ if (sw_ m g (k + d)).testBit (k + d) = true then sw_ m g (k + d) ||| m (k + d) else sw_ m g (k + d)
    by_cases hb : (sw_ m g (k + d)).testBit (k + d) = true
    · rw [if_pos hb]; exact Nat.left_le_or
    · rw [if_neg hb]; exact Nat.le_refl _
theorem sw_cl {g : Nat} (h : sw_ m g n = g) : ∀ j : Nat, j < n → g.testBit j = true → g ||| m j = g := by
  have e : ∀ k : Nat, k ≤ n → sw_ m g k = g := fun k hk => by
    have h1 := sw_le (m := m) (g := g) 0 k
    have h2 := sw_le (m := m) (g := g) k (n - k)
    rw [Nat.zero_add] at h1
    rw [show k + (n - k) = n by omega, h] at h2
    have h3 : sw_ m g 0 = g := rfl
    omega
  intro j hj hb
  have h1 : (if (sw_ m g j).testBit j = true then sw_ m g j ||| m j else sw_ m g j) = g := e (j + 1) (by omega)
  rw [e j (by omega), if_pos hb] at h1
  exact h1
theorem sw_fix {g : Nat} (h : ∀ j : Nat, j < n → g.testBit j = true → g ||| m j = g) : ∀ k : Nat, k ≤ n → sw_ m g k = g := by
  intro k
  induction k with
  | zero => intro _; rfl
  | succ k ih =>
    intro hk
    show (if (sw_ m g k).testBit k = true then sw_ m g k ||| m k else sw_ m g k) = g
    rw [ih (by omega)]
    by_cases hb : g.testBit k = true
    · rw [if_pos hb]; exact h k (by omega) hb
    · rw [if_neg hb]
theorem bs_k (x : Nat) : ∀ k : Nat, bs_ x k ≤ k := by
  intro k
  induction k with
  | zero => exact Nat.le_refl 0
  | succ k ih =>
    show bs_ x k + (if x.testBit k = true then 1 else 0) ≤ k + 1
    by_cases hb : x.testBit k = true
    · rw [if_pos hb]; omega
    · rw [if_neg hb]; omega
theorem bs_ss {g h : Nat} (hs : ∀ i : Nat, g.testBit i = true → h.testBit i = true) : ∀ k : Nat, bs_ g k ≤ bs_ h k ∧ ∀ a : Nat, a < k → h.testBit a = true → g.testBit a = false → bs_ g k + 1 ≤ bs_ h k := by
  intro k
  induction k with
  | zero => exact ⟨Nat.le_refl 0, fun a ha => absurd ha (Nat.not_lt_zero a)⟩
  | succ k ih =>
    obtain ⟨i1, i2⟩ := ih
    have e1 : bs_ g (k + 1) = bs_ g k + if g.testBit k = true then 1 else 0 := rfl
    have e2 : bs_ h (k + 1) = bs_ h k + if h.testBit k = true then 1 else 0 := rfl
    rw [e1, e2]
    refine ⟨?_, fun a ha h1 h2 => ?_⟩
    · by_cases hb : g.testBit k = true
      · rw [if_pos hb, if_pos (hs k hb)]; omega
      · rw [if_neg hb]; omega
    · by_cases hak : a = k
      · rw [hak] at h1 h2
        rw [if_pos h1, h2, if_neg (by decide)]
        omega
      · have := i2 a (by omega) h1 h2
        by_cases hb : g.testBit k = true
        · rw [if_pos hb, if_pos (hs k hb)]; omega
        · rw [if_neg hb]; omega
theorem tb_big {x i : Nat} (hx : x < 2 ^ n) (hb : x.testBit i = true) : i < n := by
  apply Classical.byContradiction
  intro hc
  have h1 : 2 ^ n ≤ 2 ^ i := Nat.pow_le_pow_right (by decide) (by omega)
  rw [Nat.testBit_lt_two_pow (Nat.lt_of_lt_of_le hx h1)] at hb
  exact absurd hb (by decide)
theorem df_ {g h : Nat} (hs : ∀ i : Nat, g.testBit i = true → h.testBit i = true) (hne : h ≠ g) : ∃ i : Nat, h.testBit i = true ∧ g.testBit i = false := by
  apply Classical.byContradiction
  intro hc
  apply hne
  apply Nat.eq_of_testBit_eq
  intro i
  cases hg : g.testBit i
  · cases hh : h.testBit i
    · rfl
    · exact absurd ⟨i, hh, hg⟩ hc
  · exact hs i hg
theorem or_ss {g x i : Nat} (h : g.testBit i = true) : (g ||| x).testBit i = true := by rw [Nat.testBit_or, h, Bool.true_or]
theorem rd_lt (hm : ∀ j : Nat, j < n → m j < 2 ^ n) {g : Nat} (hg : g < 2 ^ n) : ∀ k : Nat, rdv_ m n g k < 2 ^ n := rd_inv (I := fun x => x < 2 ^ n) (fun _ j hj h _ => Nat.or_lt_two_pow h (hm j hj)) hg
theorem rd_cl (hm : ∀ j : Nat, j < n → m j < 2 ^ n) {g : Nat} (hg : g < 2 ^ n) (h0 : g ≠ 0) : ∀ k : Nat, (∀ j : Nat, j < n → (rdv_ m n g k).testBit j = true → rdv_ m n g k ||| m j = rdv_ m n g k) ∨ k + 1 ≤ bs_ (rdv_ m n g k) n := by
  intro k
  induction k with
  | zero =>
    right
    obtain ⟨i, i1, i2⟩ := df_ (g := 0) (h := g) (fun i h => by rw [Nat.zero_testBit] at h; exact absurd h (by decide)) h0
    have := (bs_ss (g := 0) (h := g) (fun i h => by rw [Nat.zero_testBit] at h; exact absurd h (by decide)) n).2 i (tb_big hg i1) i1 i2
    show 0 + 1 ≤ bs_ g n
    omega
  | succ k ih =>
    have e : rdv_ m n g (k + 1) = sw_ m (rdv_ m n g k) n := rfl
    rcases ih with h | h
    · left
      rw [e, sw_fix h n (Nat.le_refl n)]
      exact h
    · by_cases hs : sw_ m (rdv_ m n g k) n = rdv_ m n g k
      · left
        rw [e, hs]
        exact sw_cl hs
      · right
        have hsub : ∀ i : Nat, (rdv_ m n g k).testBit i = true → (sw_ m (rdv_ m n g k) n).testBit i = true := fun i hi => sw_inv (n := n) (I := fun x => x.testBit i = true) (fun _ _ _ h _ => or_ss h) hi n (Nat.le_refl n)
        obtain ⟨i, i1, i2⟩ := df_ hsub hs
        have hlt : sw_ m (rdv_ m n g k) n < 2 ^ n := rd_lt hm hg (k + 1)
        have := (bs_ss hsub n).2 i (tb_big hlt i1) i1 i2
        rw [e]
        omega
theorem rd_fix {g : Nat} (h : ∀ j : Nat, j < n → g.testBit j = true → g ||| m j = g) : ∀ k : Nat, rdv_ m n g k = g := by
  intro k
  induction k with
  | zero => rfl
  | succ k ih =>
    show sw_ m (rdv_ m n g k) n = g
    rw [ih]
    exact sw_fix h n (Nat.le_refl n)
theorem rd_closed (hm : ∀ j : Nat, j < n → m j < 2 ^ n) {g : Nat} (hg : g < 2 ^ n) : ∀ j : Nat, j < n → (rdv_ m n g n).testBit j = true → rdv_ m n g n ||| m j = rdv_ m n g n := by
  by_cases h0 : g = 0
  · have hz : ∀ j : Nat, j < n → g.testBit j = true → g ||| m j = g := fun j _ h => by
      rw [h0, Nat.zero_testBit] at h
      exact absurd h (by decide)
    rw [rd_fix hz n]
    exact hz
  · rcases rd_cl hm hg h0 n with h | h
    · exact h
    · have := bs_k (rdv_ m n g n) n
      omega
theorem or_eq {g x i : Nat} (h : g ||| x = g) (hx : x.testBit i = true) : g.testBit i = true := by
  rw [← h, Nat.testBit_or, hx, Bool.or_true]
end SW
section GP
variable {m : Nat → Nat} {n : Nat} {A : Nat → Nat → Bool}
def ma_ (A : Nat → Nat → Bool) (n : Nat) (m : Nat → Nat) : Prop := ∀ v : Nat, v < n → m v < 2 ^ n ∧ ∀ u : Nat, u < n → (m v).testBit u = A v u
theorem gp_1 (hm : ma_ A n m) {w : Nat} (hw : w < n) : (rdv_ m n (2 ^ w) n).testBit w = true ∧ rdv_ m n (2 ^ w) n < 2 ^ n ∧ clv_ A n (rdv_ m n (2 ^ w) n) := by
  have h2 : 2 ^ w < 2 ^ n := Nat.pow_lt_pow_right (by decide) hw
  refine ⟨rd_inv (I := fun x => x.testBit w = true) (fun _ _ _ h _ => or_ss h) (by show (2 ^ w).testBit w = true; rw [Nat.testBit_two_pow, decide_eq_true rfl]) n, rd_lt (fun j hj => (hm j hj).1) h2 n, fun u v hu hv h1 h3 => ?_⟩
  exact or_eq (rd_closed (fun j hj => (hm j hj).1) h2 u hu h1) (by rw [(hm u hu).2 v hv]; exact h3)
theorem gp_2 (hm : ma_ A n m) {w R : Nat} (hR : clv_ A n R) (hw : R.testBit w = true) : ∀ i : Nat, (rdv_ m n (2 ^ w) n).testBit i = true → R.testBit i = true := by
  refine rd_inv (m := m) (n := n) (I := fun x => ∀ i : Nat, x.testBit i = true → R.testBit i = true) (fun g j hj h hb i hi => ?_) (fun i hi => ?_) n
  · rw [Nat.testBit_or, Bool.or_eq_true] at hi
    rcases hi with e | e
    · exact h i e
    · have hin := tb_big (hm j hj).1 e
      exact hR j i hj hin (h j hb) (by rw [← (hm j hj).2 i hin]; exact e)
  · rw [Nat.testBit_two_pow, decide_eq_true_eq] at hi
    rw [← hi]
    exact hw
theorem gp_3 (hsg : sg_ A) (hm : ma_ A n m) {w : Nat} (hw : w < n) : 2 * bs_ (rdv_ m n (2 ^ w) n) n ≤ ed_ A n (rdv_ m n (2 ^ w) n) + 2 := by
  have h2 : 2 ^ w < 2 ^ n := Nat.pow_lt_pow_right (by decide) hw
  have hz : (0 : Nat).testBit w = false := Nat.zero_testBit w
  have hb0 : ∀ k : Nat, bs_ 0 k = 0 := fun k => by
    induction k with
    | zero => rfl
    | succ k ih =>
      show bs_ 0 k + (if (0 : Nat).testBit k = true then 1 else 0) = 0
      rw [ih, Nat.zero_testBit, if_neg (by decide)]
  have start : 2 ^ w < 2 ^ n ∧ 2 * bs_ (2 ^ w) n ≤ ed_ A n (2 ^ w) + 2 := by
    refine ⟨h2, ?_⟩
    have h3 := bs_or hz n
    rw [Nat.zero_or, if_pos hw, hb0] at h3
    rw [h3]
    omega
  refine (rd_inv (m := m) (n := n) (I := fun x => x < 2 ^ n ∧ 2 * bs_ x n ≤ ed_ A n x + 2) (fun g j hj h hb => ?_) start n).2
  obtain ⟨g1, g2⟩ := h
  have hlt : g ||| m j < 2 ^ n := Nat.or_lt_two_pow g1 (hm j hj).1
  refine ⟨hlt, ?_⟩
  have all : ∀ X : Nat, (∀ i : Nat, g.testBit i = true → X.testBit i = true) → (∀ i : Nat, X.testBit i = true → (g ||| m j).testBit i = true) → 2 * bs_ X n ≤ ed_ A n X + 2 := by
    intro X
    induction X using Nat.strongRecOn with
    | ind X ih =>
      intro x1 x2
      by_cases hne : X = g
      · rw [hne]; exact g2
      · obtain ⟨v, v1, v2⟩ := df_ x1 hne
        have hv := tb_big hlt (x2 v v1)
        have hmv : A j v = true := by
          have h3 := x2 v v1
          rw [Nat.testBit_or, v2, Bool.false_or, (hm j hj).2 v hv] at h3
          exact h3
        obtain ⟨r, r1, r2, r3⟩ := cut_ v1
        have gr : ∀ i : Nat, g.testBit i = true → r.testBit i = true := fun i hi => by
          have hiv : i ≠ v := fun e => by rw [e, v2] at hi; exact absurd hi (by decide)
          have h3 := x1 i hi
          rw [← r2, or_of hiv] at h3
          exact h3
        have i1 := ih r r3 gr (fun i hi => x2 i (by rw [← r2]; exact or_ss hi))
        have c1 := cn_pos (P := fun u => r.testBit u && A v u) (a := j) (k := n) (by
          show (r.testBit j && A v j) = true
          rw [gr j hb, hsg.1 j v hmv]; rfl) hj
        rw [← r2, ed_or hsg r1 hv, bs_or r1 n, if_pos hv]
        omega
  exact all _ (fun i hi => or_ss hi) (fun i hi => hi)
/-- what is wanting to a ring -/
theorem ed_W (hdeg : ∀ v : Nat, v < n → cn_ (A v) n ≤ 2) {S : Nat} (hcl : clv_ A n S) : ed_ A n S + (e1_ A n S + 2 * e0_ A n S) = 2 * bs_ S n := by
  have all : ∀ k : Nat, k ≤ n → smv_ (fun v => if S.testBit v = true then cn_ (fun u => S.testBit u && A v u) n else 0) k + (cn_ (fun v => S.testBit v && decide (cn_ (A v) n = 1)) k + 2 * cn_ (fun v => S.testBit v && decide (cn_ (A v) n = 0)) k) = 2 * bs_ S k := by
    intro k
    induction k with
    | zero => intro _; rfl
    | succ k ih =>
      intro hk
      have i1 := ih (by omega)
      show smv_ (fun v => if S.testBit v = true then cn_ (fun u => S.testBit u && A v u) n else 0) k + (if S.testBit k = true then cn_ (fun u => S.testBit u && A k u) n else 0) + (cn_ (fun v => S.testBit v && decide (cn_ (A v) n = 1)) k + (if (S.testBit k && decide (cn_ (A k) n = 1)) = true then 1 else 0) + 2 * (cn_ (fun v => S.testBit v && decide (cn_ (A v) n = 0)) k + (if (S.testBit k && decide (cn_ (A k) n = 0)) = true then 1 else 0))) = 2 * (bs_ S k + if S.testBit k = true then 1 else 0)
      by_cases hb : S.testBit k = true
      · have hc : cn_ (fun u => S.testBit u && A k u) n = cn_ (A k) n := cn_cg n (fun u hu => by
          show (S.testBit u && A k u) = A k u
          cases ha : A k u
          · rw [Bool.and_false]
          · rw [hcl k u (by omega) hu hb ha]; rfl)
        have hd := hdeg k (by omega)
        rw [if_pos hb, if_pos hb, hc, hb, Bool.true_and, Bool.true_and]
        by_cases d1 : cn_ (A k) n = 1
        · rw [decide_eq_true d1, decide_eq_false (show ¬ cn_ (A k) n = 0 by omega), if_pos rfl, if_neg (by decide)]
          omega
        · rw [decide_eq_false d1, if_neg (by decide)]
          by_cases d0 : cn_ (A k) n = 0
          · rw [decide_eq_true d0, if_pos rfl]
            omega
          · rw [decide_eq_false d0, if_neg (by decide)]
            omega
      · have hb' : S.testBit k = false := by
          cases hh : S.testBit k
          · rfl
          · exact absurd hh hb
        rw [if_neg hb, if_neg hb, hb', Bool.false_and, Bool.false_and, if_neg (by decide)]
        omega
  exact all n (Nat.le_refl n)
theorem cn_add {P Q : Nat → Bool} : ∀ k : Nat, (∀ i : Nat, i < k → P i = true → Q i = false) → cn_ (fun i => P i || Q i) k = cn_ P k + cn_ Q k := by
  intro k
  induction k with
  | zero => intro _; rfl
  | succ k ih =>
    intro h
    show cn_ (fun i => P i || Q i) k + (if (P k || Q k) = true then 1 else 0) = cn_ P k + (if P k = true then 1 else 0) + (cn_ Q k + if Q k = true then 1 else 0)
    rw [ih (fun i hi => h i (by omega))]
    cases hp : P k
    · rw [Bool.false_or, if_neg (show ¬ false = true by decide)]
      omega
    · rw [h k (by omega) hp, Bool.or_false, if_pos rfl, if_neg (show ¬ false = true by decide)]
      omega
theorem cn_mono {P Q : Nat → Bool} : ∀ k : Nat, (∀ i : Nat, i < k → P i = true → Q i = true) → cn_ P k ≤ cn_ Q k := by
  intro k
  induction k with
  | zero => intro _; exact Nat.le_refl 0
  | succ k ih =>
    intro h
    have i1 := ih (fun i hi => h i (by omega))
    show cn_ P k + (if P k = true then 1 else 0) ≤ cn_ Q k + if Q k = true then 1 else 0
    by_cases hp : P k = true
    · rw [if_pos hp, if_pos (h k (by omega) hp)]; omega
    · rw [if_neg hp]; omega
theorem ee_or {S C : Nat} (R : Nat → Bool) (hd : ∀ i : Nat, S.testBit i = true → C.testBit i = false) : cn_ (fun v => (S ||| C).testBit v && R v) n = cn_ (fun v => S.testBit v && R v) n + cn_ (fun v => C.testBit v && R v) n := by
  rw [← cn_add n (fun i _ h => by
    have h' : (S.testBit i && R i) = true := h
    rw [Bool.and_eq_true] at h'
    show (C.testBit i && R i) = false
    rw [hd i h'.1, Bool.false_and])]
  apply cn_cg
  intro i _
  show ((S ||| C).testBit i && R i) = ((S.testBit i && R i) || (C.testBit i && R i))
  rw [Nat.testBit_or, Bool.and_or_distrib_right]
end GP
