/-! rows: each behind its own, what comes out -/
def sp_ (B : Nat → Nat → Bool) (n : Nat) (okq : Nat → Nat → Nat → Bool) (fs : Nat → Bool) : Prop := (∀ x S l : Nat, x < n → l < n → (okq x S l = true ↔ (∀ p : Nat, p < n → B x p = true → p = l) ∧ ∀ z : Nat, z < n → B z x = true → S.testBit z = false)) ∧ (∀ x : Nat, x < n → (fs x = true ↔ ∀ p : Nat, p < n → B x p = false)) ∧ (∀ x : Nat, B x x = false) ∧ ∀ y p : Nat, B y p = true → y < n ∧ p < n
def mb_ (B : Nat → Nat → Bool) (n : Nat) (m : Nat → Nat) : Prop := ∀ p : Nat, p < n → m p < 2 ^ n ∧ ∀ y : Nat, y < n → (m p).testBit y = B y p
section BZ
variable {okq : Nat → Nat → Nat → Bool} {fs : Nat → Bool} {n : Nat} {T : Nat → Nat → Nat} {B : Nat → Nat → Bool} {m : Nat → Nat}
theorem b_pre (hdp : dp_ okq fs n T) (ho : sp_ B n okq fs) {S l : Nat} (hS : S < 2 ^ n) (hl : l < n) (hT : T S l ≠ 0) : ∃ r : Nat, r.testBit l = false ∧ r ||| 2 ^ l = S ∧ r < S ∧ ((r = 0 ∧ ∀ p : Nat, p < n → B l p = false) ∨ ∃ k : Nat, k < n ∧ r.testBit k = true ∧ T r k ≠ 0 ∧ (∀ p : Nat, p < n → B l p = true → p = k) ∧ ∀ z : Nat, z < n → B z l = true → r.testBit z = false) := by
  have hb : S.testBit l = true := by
    cases hb : S.testBit l
    · exact absurd (hdp.1 S l hS hl hb) hT
    · rfl
  obtain ⟨r, r1, r2, r3⟩ := cut_ hb
  refine ⟨r, r1, r2, r3, ?_⟩
  have h := hdp.2 r l (by omega) hl r1
  rw [r2] at h
  have nok : pz_ okq (T r) r l n ≠ 0 → ∃ k : Nat, k < n ∧ r.testBit k = true ∧ T r k ≠ 0 ∧ (∀ p : Nat, p < n → B l p = true → p = k) ∧ ∀ z : Nat, z < n → B z l = true → r.testBit z = false := fun hz => by
    apply Classical.byContradiction
    intro hc
    apply hz
    exact pz_0 n (fun k hk ho' => by
      apply Classical.byContradiction
      intro hk0
      apply hc
      obtain ⟨g1, g2⟩ := (ho.1 l r k hl hk).mp ho'
      refine ⟨k, hk, ?_, hk0, g1, g2⟩
      cases hkb : r.testBit k
      · exact absurd (hdp.1 r k (by omega) hk hkb) hk0
      · rfl)
  by_cases hz : pz_ okq (T r) r l n = 0
  · left
    by_cases hi : r = 0 ∧ fs l = true
    · exact ⟨hi.1, (ho.2.1 l hl).mp hi.2⟩
    · rw [hz, show ini_ fs r l = 0 from if_neg hi] at h
      exact absurd h hT
  · exact Or.inr (nok hz)
theorem b_z (hdp : dp_ okq fs n T) (ho : sp_ B n okq fs) {C : Nat} (hC : ∀ y : Nat, y < n → C.testBit y = true → ∃ p : Nat, p < n ∧ C.testBit p = true ∧ B y p = true) : ∀ S l : Nat, S < 2 ^ n → l < n → T S l ≠ 0 → (∀ y p p' : Nat, y < n → p < n → p' < n → S.testBit y = true → B y p = true → B y p' = true → p = p') ∧ (∀ y y' p : Nat, y < n → y' < n → p < n → S.testBit y = true → S.testBit y' = true → B y p = true → B y' p = true → y = y') ∧ (∀ y : Nat, y < n → S.testBit y = true → B y l = true → False) ∧ ∀ y : Nat, y < n → S.testBit y = true → C.testBit y = true → False := by
  intro S
  induction S using Nat.strongRecOn with
  | ind S ih =>
    intro l hS hl hT
    obtain ⟨r, r1, r2, r3, hr⟩ := b_pre hdp ho hS hl hT
    have inr : ∀ y : Nat, y ≠ l → S.testBit y = true → r.testBit y = true := fun y hy h => by
      rw [← r2, or_of hy] at h
      exact h
    rcases hr with ⟨e, hno⟩ | ⟨k, k1, k2, k3, k4, k5⟩
    · have one : ∀ y : Nat, S.testBit y = true → y = l := fun y h => by
        apply Classical.byContradiction
        intro hne
        have := inr y hne h
        rw [e, Nat.zero_testBit] at this
        exact absurd this (by decide)
      refine ⟨fun y p p' _ hp _ h1 h2 _ => ?_, fun y y' p _ _ _ h1 h2 _ _ => ?_, fun y _ h1 h2 => ?_, fun y hy h1 h2 => ?_⟩
      · rw [one y h1, hno p hp] at h2
        exact absurd h2 (by decide)
      · rw [one y h1, one y' h2]
      · rw [one y h1, ho.2.2.1 l] at h2
        exact absurd h2 (by decide)
      · obtain ⟨p, p1, _, p3⟩ := hC y hy h2
        rw [one y h1, hno p p1] at p3
        exact absurd p3 (by decide)
    · obtain ⟨i1, i2, i3, i4⟩ := ih r r3 k (by omega) k1 k3
      refine ⟨fun y p p' hy hp hp' h1 h2 h3 => ?_, fun y y' p hy hy' hp h1 h2 h3 h4 => ?_, fun y hy h1 h2 => ?_, fun y hy h1 h2 => ?_⟩
      · by_cases hyl : y = l
        · rw [hyl] at h2 h3
          rw [k4 p hp h2, k4 p' hp' h3]
        · exact i1 y p p' hy hp hp' (inr y hyl h1) h2 h3
      · by_cases hyl : y = l
        · by_cases hyl' : y' = l
          · rw [hyl, hyl']
          · rw [hyl] at h3
            rw [k4 p hp h3] at h4
            exact absurd (i3 y' hy' (inr y' hyl' h2) h4) id
        · by_cases hyl' : y' = l
          · rw [hyl'] at h4
            rw [k4 p hp h4] at h3
            exact absurd (i3 y hy (inr y hyl h1) h3) id
          · exact i2 y y' p hy hy' hp (inr y hyl h1) (inr y' hyl' h2) h3 h4
      · by_cases hyl : y = l
        · rw [hyl, ho.2.2.1 l] at h2
          exact absurd h2 (by decide)
        · have h3 := inr y hyl h1
          rw [k5 y hy h2] at h3
          exact absurd h3 (by decide)
      · by_cases hyl : y = l
        · rw [hyl] at h2
          obtain ⟨p, p1, p2, p3⟩ := hC l hl h2
          rw [k4 p p1 p3] at p2
          exact i4 k k1 k2 p2
        · exact i4 y hy (inr y hyl h1) h2
theorem r1_0 (hdp : dp_ okq fs n T) (ho : sp_ B n okq fs) (hm : mb_ B n m) (h : (∃ p : Nat, p < n ∧ 1 < cn_ (fun y => B y p) n) ∨ (∃ y p p' : Nat, p ≠ p' ∧ B y p = true ∧ B y p' = true) ∨ ∃ w : Nat, w < n ∧ (rdv_ m n (m w) n).testBit w = true) : pz_ (fun _ _ _ => true) (T (2 ^ n - 1)) 0 0 n = 0 := by
  have hp0 : 0 < 2 ^ n := Nat.pow_pos (by decide)
  have full : ∀ i : Nat, i < n → (2 ^ n - 1 : Nat).testBit i = true := fun i hi => by rw [Nat.testBit_two_pow_sub_one, decide_eq_true hi]
  apply Classical.byContradiction
  intro hne
  obtain ⟨l, l1, l2⟩ := pz_nz n hne
  rcases h with ⟨p, p1, p2⟩ | ⟨y, p, p', h1, h2, h3⟩ | ⟨w, w1, w2⟩
  · obtain ⟨_, b2, _, _⟩ := b_z hdp ho (C := 0) (fun y _ h => by rw [Nat.zero_testBit] at h; exact absurd h (by decide)) (2 ^ n - 1) l (by omega) l1 l2
    obtain ⟨a, a1, a2⟩ := cn_ex (P := fun y => B y p) n (by omega)
    obtain ⟨b, c1, c2, c3⟩ := cn_oth (P := fun y => B y p) (a := a) (k := n) (by omega) a2 a1
    exact c3 (b2 b a p c1 a1 p1 (full b c1) (full a a1) c2 a2)
  · obtain ⟨b1, _, _, _⟩ := b_z hdp ho (C := 0) (fun y _ h => by rw [Nat.zero_testBit] at h; exact absurd h (by decide)) (2 ^ n - 1) l (by omega) l1 l2
    have q1 := ho.2.2.2 y p h2
    have q2 := ho.2.2.2 y p' h3
    exact h1 (b1 y p p' q1.1 q1.2 q2.2 (full y q1.1) h2 h3)
  · have hR : ∀ y : Nat, (rdv_ m n (m w) n).testBit y = true → ∃ p : Nat, p < n ∧ ((rdv_ m n (m w) n).testBit p = true ∨ p = w) ∧ B y p = true := by
      refine rd_inv (m := m) (n := n) (I := fun x => ∀ y : Nat, x.testBit y = true → ∃ p : Nat, p < n ∧ (x.testBit p = true ∨ p = w) ∧ B y p = true) (fun g j hj h hb y hy => ?_) (fun y hy => ?_) n
      · rw [Nat.testBit_or, Bool.or_eq_true] at hy
        rcases hy with e | e
        · obtain ⟨p, p1, p2, p3⟩ := h y e
          refine ⟨p, p1, ?_, p3⟩
          rcases p2 with q | q
          · exact Or.inl (or_ss q)
          · exact Or.inr q
        · have hyn := tb_big (hm j hj).1 e
          exact ⟨j, hj, Or.inl (or_ss hb), by rw [← (hm j hj).2 y hyn]; exact e⟩
      · have hyn := tb_big (hm w w1).1 hy
        exact ⟨w, w1, Or.inr rfl, by rw [← (hm w w1).2 y hyn]; exact hy⟩
    obtain ⟨_, _, _, b4⟩ := b_z hdp ho (C := rdv_ m n (m w) n) (fun y _ h => by
      obtain ⟨p, p1, p2, p3⟩ := hR y h
      refine ⟨p, p1, ?_, p3⟩
      rcases p2 with q | q
      · exact q
      · rw [q]; exact w2) (2 ^ n - 1) l (by omega) l1 l2
    exact b4 w w1 (full w w1) w2
theorem r1_end (hdp : dp_ okq fs n T) (ho : sp_ B n okq fs) (hm : mb_ B n m) (hn : 0 < n) (hu : ∀ p : Nat, p < n → cn_ (fun y => B y p) n ≤ 1) (hd : ∀ y p p' : Nat, B y p = true → B y p' = true → p = p') (hc : ∀ w : Nat, w < n → (rdv_ m n (m w) n).testBit w = false) : pz_ (fun _ _ _ => true) (T (2 ^ n - 1)) 0 0 n = fac_ (n - smv_ (fun p => cn_ (fun y => B y p) n) n) := by
  have hp0 : 1 < 2 ^ n := Nat.one_lt_two_pow (by omega)
  have full : ∀ i : Nat, i < n → (2 ^ n - 1 : Nat).testBit i = true := fun i hi => by rw [Nat.testBit_two_pow_sub_one, decide_eq_true hi]
  have hta : ∀ p : Nat, p < n → ((fun p => decide (cn_ (fun y => B y p) n = 0)) p = true ↔ ∀ y : Nat, y < n → B y p = false) := fun p hp => by
    show decide (cn_ (fun y => B y p) n = 0) = true ↔ _
    rw [decide_eq_true_eq]
    refine ⟨fun h y hy => ?_, fun h => cn_0 n h⟩
    cases hb : B y p
    · rfl
    · have := cn_pos (P := fun y => B y p) (a := y) (k := n) hb hy
      omega
  have hac : ∀ r : Nat, r ≠ 0 → r < 2 ^ n → (∀ y p : Nat, y < n → p < n → r.testBit p = true → B y p = true → r.testBit y = true) → ∃ t : Nat, t < n ∧ r.testBit t = true ∧ (fun p => decide (cn_ (fun y => B y p) n = 0)) t = true := by
    intro r
    induction r using Nat.strongRecOn with
    | ind r ih =>
      intro r1 r2 r3
      obtain ⟨w, w1, _⟩ := df_ (g := 0) (h := r) (fun i h => by rw [Nat.zero_testBit] at h; exact absurd h (by decide)) r1
      have wn := tb_big r2 w1
      by_cases hw : cn_ (fun y => B y w) n = 0
      · exact ⟨w, wn, w1, decide_eq_true hw⟩
      · have sub : ∀ i : Nat, (rdv_ m n (m w) n).testBit i = true → r.testBit i = true := by
          refine rd_inv (m := m) (n := n) (I := fun x => ∀ i : Nat, x.testBit i = true → r.testBit i = true) (fun g j hj h hb i hi => ?_) (fun i hi => ?_) n
          · rw [Nat.testBit_or, Bool.or_eq_true] at hi
            rcases hi with e | e
            · exact h i e
            · have hin := tb_big (hm j hj).1 e
              exact r3 i j hin hj (h j hb) (by rw [← (hm j hj).2 i hin]; exact e)
          · have hin := tb_big (hm w wn).1 hi
            exact r3 i w hin wn w1 (by rw [← (hm w wn).2 i hin]; exact hi)
        have ms : ∀ i : Nat, (m w).testBit i = true → (rdv_ m n (m w) n).testBit i = true := fun i hi => rd_inv (m := m) (n := n) (I := fun x => x.testBit i = true) (fun _ _ _ h _ => or_ss h) hi n
        have hcw := hc w wn
        have hlt := rd_lt (fun j hj => (hm j hj).1) (hm w wn).1 n
        have hclo := rd_closed (fun j hj => (hm j hj).1) (hm w wn).1
        generalize rdv_ m n (m w) n = R at sub ms hcw hlt hclo
        have hle : R ≤ r := by
          have e : R = R &&& r := by
            apply Nat.eq_of_testBit_eq
            intro i
            rw [Nat.testBit_and]
            cases hb : R.testBit i
            · rfl
            · rw [sub i hb]; rfl
          rw [e]
          exact Nat.and_le_right
        have hRr : R ≠ r := fun e => by
          rw [e, w1] at hcw
          exact absurd hcw (by decide)
        obtain ⟨y, y1, y2⟩ := cn_ex (P := fun y => B y w) n (by omega)
        have hR0 : R ≠ 0 := fun e => by
          have h1 := ms y (by rw [(hm w wn).2 y y1]; exact y2)
          rw [e, Nat.zero_testBit] at h1
          exact absurd h1 (by decide)
        obtain ⟨t, t1, t2, t3⟩ := ih R (by omega) hR0 (by omega) (fun y p hy hp h1 h2 => or_eq (hclo p hp h1) (by rw [(hm p hp).2 y hy]; exact h2))
        exact ⟨t, t1, sub t t2, t3⟩
  have hbh := bh_ hdp ho.1 ho.2.1 ho.2.2.1 (fun x p p' _ _ h1 h2 => hd x p p' h1 h2) (fun p y y' hy hy' h1 h2 => cn_u (hu p (ho.2.2.2 y p h1).2) h1 h2 hy hy') hta hac
  have cnt : ∀ k : Nat, k ≤ n → smv_ (fun p => cn_ (fun y => B y p) n) k + cn_ (fun p => decide (cn_ (fun y => B y p) n = 0)) k = k := by
    intro k
    induction k with
    | zero => intro _; rfl
    | succ k ih =>
      intro hk
      have i1 := ih (by omega)
      have i2 := hu k (by omega)
      show smv_ (fun p => cn_ (fun y => B y p) n) k + cn_ (fun y => B y k) n + (cn_ (fun p => decide (cn_ (fun y => B y p) n = 0)) k + if decide (cn_ (fun y => B y k) n = 0) = true then 1 else 0) = k + 1
      by_cases h : cn_ (fun y => B y k) n = 0
      · rw [if_pos (decide_eq_true h)]; omega
      · rw [if_neg (show ¬ decide (cn_ (fun y => B y k) n = 0) = true by rw [decide_eq_false h]; decide)]; omega
  have c1 := cnt n (Nat.le_refl n)
  obtain ⟨t, t1, _, t3⟩ := hac (2 ^ n - 1) (by omega) (by omega) (fun y p hy _ _ _ => full y hy)
  have hpos := cn_pos (P := fun p => decide (cn_ (fun y => B y p) n = 0)) (a := t) (k := n) t3 t1
  rw [show n - smv_ (fun p => cn_ (fun y => B y p) n) n = cn_ (fun p => decide (cn_ (fun y => B y p) n = 0)) n by omega]
  rw [pz_cn (P := fun p => decide (cn_ (fun y => B y p) n = 0)) (c := fac_ (cn_ (fun p => decide (cn_ (fun y => B y p) n = 0)) n - 1)) n ?_, fac_s hpos]
  intro k hk
  show (if true = true then T (2 ^ n - 1) k else 0) = if decide (cn_ (fun y => B y k) n = 0) = true then fac_ (cn_ (fun p => decide (cn_ (fun y => B y p) n = 0)) n - 1) else 0
  rw [if_pos rfl]
  by_cases h : cn_ (fun y => B y k) n = 0
  · rw [if_pos (decide_eq_true h), hbh (2 ^ n - 1) k ⟨by omega, hk, full k hk, fun y p _ hp _ _ => full p hp, fun y p hy _ _ _ _ => full y hy, fun y hy hb => by
      have := (hta k hk).mp (decide_eq_true h) y hy
      rw [this] at hb
      exact absurd hb (by decide)⟩]
    congr 1
    have e := cn_but (P := fun p => decide (cn_ (fun y => B y p) n = 0)) (a := k) (decide_eq_true h) n hk
    have e2 : cn_ (fun t => ((2 ^ n - 1 : Nat).testBit t && decide (cn_ (fun y => B y t) n = 0)) && !decide (t = k)) n = cn_ (fun i => decide (cn_ (fun y => B y i) n = 0) && !decide (i = k)) n := cn_cg n (fun i hi => by
      show (((2 ^ n - 1 : Nat).testBit i && decide (cn_ (fun y => B y i) n = 0)) && !decide (i = k)) = (decide (cn_ (fun y => B y i) n = 0) && !decide (i = k))
      rw [full i hi, Bool.true_and])
    rw [e, Nat.add_sub_cancel]
    exact e2
  · rw [if_neg (show ¬ decide (cn_ (fun y => B y k) n = 0) = true by rw [decide_eq_false h]; decide)]
    obtain ⟨z, z1, z2⟩ := cn_ex (P := fun y => B y k) n (by omega)
    exact bh_0 hdp ho.1 ho.2.2.1 (by omega) hk z1 (full k hk) (full z z1) z2
end BZ
