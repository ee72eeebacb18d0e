/-! rows: both sides alike -/
def a0_ (cs : List (Nat × Nat)) (n u v : Nat) : Bool := decide (u < n ∧ v < n ∧ ((u, v) ∈ cs ∨ (v, u) ∈ cs))
def b1_ (cs : List (Nat × Nat)) (n y p : Nat) : Bool := decide (y < n ∧ p < n ∧ (y, p) ∈ cs)
def ok0_ (A : Nat → Nat → Bool) (n x S l : Nat) : Bool := decide (∀ z : Nat, z < n → A x z = true → S.testBit z = true → z = l)
def ok1_ (B : Nat → Nat → Bool) (n x S l : Nat) : Bool := decide ((∀ p : Nat, p < n → B x p = true → p = l) ∧ ∀ z : Nat, z < n → B z x = true → S.testBit z = false)
def fs1_ (B : Nat → Nat → Bool) (n x : Nat) : Bool := decide (∀ p : Nat, p < n → B x p = false)
section RO
variable {F n : Nat} {σ : nd_Mem} {cs : List (Nat × Nat)}
theorem xm_ {l i : Nat} (hi : i < 32) : (2 ^ l ^^^ 4294967295).testBit i = !decide (l = i) := by
  rw [Nat.testBit_xor, Nat.testBit_two_pow, show (4294967295 : Nat) = 2 ^ 32 - 1 from rfl, Nat.testBit_two_pow_sub_one, decide_eq_true hi, Bool.xor_true]
theorem m1_ : (-1 : Int32) = nI 4294967295 := by decide
theorem z_if {x : Nat} {p : Prop} [Decidable p] {a b : nd_Res} (hx : x < 2147483648) (h : x = 0 ↔ p) : (if nI x = (0 : Int32) then a else b) = if p then a else b := by
  by_cases hp : p
  · rw [if_pos hp, if_pos (show nI x = (0 : Int32) by rw [h.mpr hp]; rfl)]
  · rw [if_neg hp, if_neg (show ¬ nI x = (0 : Int32) from fun e => hp (h.mp ((nI_eq (b := 0) hx (by decide)).mp e)))]
theorem can0 (hn : n ≤ 9) (hw : ∀ x : Nat, x < 9 → ∃ q : Nat, q < 512 ∧ σ 85 x = nI q ∧ ∀ y : Nat, q.testBit y = decide ((x, y) ∈ cs ∨ (y, x) ∈ cs)) : cs_ok F n 0 σ (ok0_ (a0_ cs n) n) := by
  intro x S l g hx hl hS
  have h9 := p9_ hn
  obtain ⟨q, q1, q2, q3⟩ := hw x (by omega)
  have key : q &&& (S &&& (2 ^ l ^^^ 4294967295)) = 0 ↔ ok0_ (a0_ cs n) n x S l = true := by
    rw [and0_]
    unfold ok0_
    rw [decide_eq_true_eq]
    constructor
    · intro h z hz hA hSz
      apply Classical.byContradiction
      intro hne
      have hA' : x < n ∧ z < n ∧ ((x, z) ∈ cs ∨ (z, x) ∈ cs) := of_decide_eq_true hA
      have h1 := h z (by rw [q3 z]; exact decide_eq_true hA'.2.2)
      rw [Nat.testBit_and, hSz, Bool.true_and, xm_ (by omega), decide_eq_false (fun e => hne e.symm)] at h1
      exact absurd h1 (by decide)
    · intro h i hi
      rw [q3 i] at hi
      have hi' := of_decide_eq_true hi
      rw [Nat.testBit_and]
      cases hSi : S.testBit i
      · rfl
      · have hin := tb_big hS hSi
        have := h i hin (decide_eq_true ⟨hx, hin, hi'⟩) hSi
        rw [xm_ (by omega), decide_eq_true this.symm]
        rfl
  have hlt : q &&& (S &&& (2 ^ l ^^^ 4294967295)) < 512 := Nat.lt_of_le_of_lt Nat.and_le_left q1
  unfold f_X11_canStand
  rw [if_pos (show nI 0 = (0 : Int32) from rfl), if_neg (nI_in (by omega) (by decide)), nI_clamp (by omega), w_ne (by decide), q2, show (1 : Int32) <<< (nI l &&& 31) = nI (2 ^ l) from n_one (by omega), m1_, n_xor, n_and, n_and, z_if (by omega) key]
  by_cases hk : ok0_ (a0_ cs n) n x S l = true
  · rw [if_pos hk, if_pos hk]
  · rw [if_neg hk, if_neg hk]
theorem can1 (hn : n ≤ 9) (hp : ∀ x : Nat, x < 9 → ∃ q : Nat, q < 512 ∧ σ 86 x = nI q ∧ ∀ y : Nat, q.testBit y = decide ((x, y) ∈ cs)) (hq : ∀ x : Nat, x < 9 → ∃ q : Nat, q < 512 ∧ σ 87 x = nI q ∧ ∀ y : Nat, q.testBit y = decide ((y, x) ∈ cs)) : cs_ok F n 1 σ (ok1_ (b1_ cs n) n) := by
  intro x S l g hx hl hS
  have h9 := p9_ hn
  obtain ⟨p, p1, p2, p3⟩ := hp x (by omega)
  obtain ⟨q, q1, q2, q3⟩ := hq x (by omega)
  have k1 : (p &&& (2 ^ n - 1)) &&& (2 ^ l ^^^ 4294967295) = 0 ↔ ∀ z : Nat, z < n → b1_ cs n x z = true → z = l := by
    rw [and0_]
    constructor
    · intro h z hz hB
      apply Classical.byContradiction
      intro hne
      have hB' : x < n ∧ z < n ∧ (x, z) ∈ cs := of_decide_eq_true hB
      have h1 := h z (by rw [Nat.testBit_and, p3 z, decide_eq_true hB'.2.2, Nat.testBit_two_pow_sub_one, decide_eq_true hz]; rfl)
      rw [xm_ (by omega), decide_eq_false (fun e => hne e.symm)] at h1
      exact absurd h1 (by decide)
    · intro h i hi
      rw [Nat.testBit_and, p3 i, Nat.testBit_two_pow_sub_one, Bool.and_eq_true, decide_eq_true_eq, decide_eq_true_eq] at hi
      have := h i hi.2 (decide_eq_true ⟨hx, hi.2, hi.1⟩)
      rw [xm_ (by omega), decide_eq_true this.symm]
      rfl
  have k2 : q &&& S = 0 ↔ ∀ z : Nat, z < n → b1_ cs n z x = true → S.testBit z = false := by
    rw [and0_]
    constructor
    · intro h z hz hB
      have hB' : z < n ∧ x < n ∧ (z, x) ∈ cs := of_decide_eq_true hB
      exact h z (by rw [q3 z]; exact decide_eq_true hB'.2.2)
    · intro h i hi
      rw [q3 i, decide_eq_true_eq] at hi
      cases hSi : S.testBit i
      · rfl
      · have hin := tb_big hS hSi
        have := h i hin (decide_eq_true ⟨hin, hx, hi⟩)
        rw [hSi] at this
        exact this
  have l1 : (p &&& (2 ^ n - 1)) &&& (2 ^ l ^^^ 4294967295) < 512 := Nat.lt_of_le_of_lt Nat.and_le_left (Nat.lt_of_le_of_lt Nat.and_le_left p1)
  have l2 : q &&& S < 512 := Nat.lt_of_le_of_lt Nat.and_le_left q1
  unfold f_X11_canStand f_X11_canStand_65
  rw [if_neg (show ¬ nI 1 = (0 : Int32) from n10), if_neg (nI_in (by omega) (by decide)), if_neg (nI_in (by omega) (by decide)), nI_clamp (by omega), w_ne (by decide), w_ne (by decide), p2, q2, show (1 : Int32) <<< (nI l &&& 31) = nI (2 ^ l) from n_one (by omega), m1_, n_xor, n_and, n_and, n_and, z_if (by omega) k1, z_if (by omega) k2]
  have e : ok1_ (b1_ cs n) n x S l = true ↔ (∀ z : Nat, z < n → b1_ cs n x z = true → z = l) ∧ ∀ z : Nat, z < n → b1_ cs n z x = true → S.testBit z = false := decide_eq_true_iff
  by_cases h1 : ∀ z : Nat, z < n → b1_ cs n x z = true → z = l
  · rw [if_pos h1]
    by_cases h2 : ∀ z : Nat, z < n → b1_ cs n z x = true → S.testBit z = false
    · rw [if_pos h2, if_pos (e.mpr ⟨h1, h2⟩)]
    · rw [if_neg h2, if_neg (fun h => h2 (e.mp h).2)]
  · rw [if_neg h1, if_neg (fun h => h1 (e.mp h).1)]
theorem fst0 : fs_ok n 0 σ (fun _ => true) := by
  intro x a b g hx
  show _ = if true = true then a else b
  rw [if_pos (show nI 0 = (0 : Int32) from rfl), if_pos rfl]
theorem fst1 (hn : n ≤ 9) (hp : ∀ x : Nat, x < 9 → ∃ q : Nat, q < 512 ∧ σ 86 x = nI q ∧ ∀ y : Nat, q.testBit y = decide ((x, y) ∈ cs)) : fs_ok n 1 σ (fs1_ (b1_ cs n) n) := by
  intro x a b g hx
  obtain ⟨p, p1, p2, p3⟩ := hp x (by omega)
  have k1 : p &&& (2 ^ n - 1) = 0 ↔ fs1_ (b1_ cs n) n x = true := by
    rw [and0_]
    unfold fs1_
    rw [decide_eq_true_eq]
    constructor
    · intro h z hz
      cases hB : b1_ cs n x z
      · rfl
      · have hB' : x < n ∧ z < n ∧ (x, z) ∈ cs := of_decide_eq_true hB
        have h1 := h z (by rw [p3 z]; exact decide_eq_true hB'.2.2)
        rw [Nat.testBit_two_pow_sub_one, decide_eq_true hz] at h1
        exact absurd h1 (by decide)
    · intro h i hi
      rw [p3 i, decide_eq_true_eq] at hi
      rw [Nat.testBit_two_pow_sub_one]
      by_cases hin : i < n
      · have h1 := h i hin
        rw [show b1_ cs n x i = true from decide_eq_true ⟨hx, hin, hi⟩] at h1
        exact absurd h1 (by decide)
      · exact decide_eq_false hin
  have l1 : p &&& (2 ^ n - 1) < 512 := Nat.lt_of_le_of_lt Nat.and_le_left p1
  rw [if_neg (show ¬ nI 1 = (0 : Int32) from n10), if_neg (nI_in (by omega) (by decide)), nI_clamp (by omega), w_ne (by decide), p2, n_and, z_if (by omega) k1]
theorem mem_j {c : Nat × Nat} : (∃ j : Nat, j < cs.length ∧ cs[j]? = some c) ↔ c ∈ cs := by
  rw [List.mem_iff_getElem?]
  constructor
  · rintro ⟨j, _, h⟩; exact ⟨j, h⟩
  · rintro ⟨j, h⟩
    obtain ⟨hj, _⟩ := List.getElem?_eq_some_iff.mp h
    exact ⟨j, hj, h⟩
theorem dk_0 {g : Nat → Int32} (hn : n ≤ 9) (hg : ∀ k : Nat, k < 196 → g k = 0) {R : Nat → Nat → Prop} (hR : ∀ v u : Nat, ¬ R v u) : dk_ n g R := fun v hv => ⟨0, Nat.pow_pos (by decide), hg v (by omega), fun u => by
  rw [Nat.zero_testBit]
  exact ⟨fun e => absurd e (by decide), fun e => absurd e.2 (hR v u)⟩⟩
theorem c_side (hF : 300000 ≤ F) (hn : n ≤ 9) (h1n : 1 ≤ n) (h : cp_ok σ cs) (hne : ∀ c : Nat × Nat, c ∈ cs → c.1 ≠ c.2) : ∃ (r : Int32) (g : Nat → Int32), f_X7_rowsSideBySide F (nI n) σ = some (r, nd_row σ 58 g) ∧ ∀ T : Nat → Nat → Nat, dp_ (ok0_ (a0_ cs n) n) (fun _ => true) n T → nI (pz_ (fun _ _ _ => true) (T (2 ^ n - 1)) 0 0 n) = r := by
  obtain ⟨g0, e1, e2, _⟩ := e_fill (F := F) (σ := σ) (a := 58) (n := 196) (v := 0) hF (by decide)
  obtain ⟨g1, q1, q2⟩ := c_10 (F := F) (σ := σ) hn h cs.length 0 F g0 (by omega) (by have := h.1; omega) (dk_0 hn e2 (fun v u e => by
    obtain ⟨j, j1, _⟩ := e
    exact absurd j1 (Nat.not_lt_zero j)))
  have hA := dk_A (A := a0_ cs n) q2 (fun v u hv hu => by
    have e : a0_ cs n v u = true ↔ (v < n ∧ u < n ∧ ((v, u) ∈ cs ∨ (u, v) ∈ cs)) := decide_eq_true_iff
    rw [e, ← mem_j (c := (v, u)), ← mem_j (c := (u, v))]
    constructor
    · rintro ⟨_, _, ⟨j, j1, j2⟩ | ⟨j, j1, j2⟩⟩
      · exact ⟨j, j1, Or.inl j2⟩
      · exact ⟨j, j1, Or.inr j2⟩
    · rintro ⟨j, j1, j2 | j2⟩
      · exact ⟨hv, hu, Or.inl ⟨j, j1, j2⟩⟩
      · exact ⟨hv, hu, Or.inr ⟨j, j1, j2⟩⟩)
  have hd : ds_ (nd_row σ 58 g1) n (fun v => bn_ (a0_ cs n v) n) := fun v hv => ⟨by rw [w_eq]; exact hA v hv, bn_lt _ n⟩
  have hm : ma_ (a0_ cs n) n (fun v => bn_ (a0_ cs n v) n) := fun v hv => ⟨bn_lt _ n, fun u hu => by
    show (bn_ (a0_ cs n v) n).testBit u = _
    rw [bn_tb, decide_eq_true hu, Bool.true_and]⟩
  have hsg : sg_ (a0_ cs n) := ⟨fun u v e => by
    have e' : u < n ∧ v < n ∧ ((u, v) ∈ cs ∨ (v, u) ∈ cs) := of_decide_eq_true e
    exact decide_eq_true ⟨e'.2.1, e'.1, e'.2.2.symm⟩, fun u => decide_eq_false (fun e => by
    rcases e.2.2 with k | k
    · exact hne _ k rfl
    · exact hne _ k rfl)⟩
  have ho : so_ (a0_ cs n) n (ok0_ (a0_ cs n) n) (fun _ => true) := ⟨fun x S l _ _ => decide_eq_true_iff, fun _ _ => rfl⟩
  have hstart : f_X7_rowsSideBySide F (nI n) σ = f_X7_rowsSideBySide_109 F F (nI n) (nI 0) (nI 0) (nI 0) (nI 0) (nI 0) (nd_row σ 58 g1) := by
    unfold f_X7_rowsSideBySide
    rw [e1, n_bind]
    exact q1
  by_cases hdeg : ∀ v : Nat, v < n → cn_ (a0_ cs n v) n ≤ 2
  · obtain ⟨g', en', S', s1, s2, s3, s4⟩ := c_109 hF hn hsg hm hd hdeg n 0 F 0 0 0 (by omega) (by omega) gI_0 (fun i hi => absurd hi (Nat.not_lt_zero i)) (Nat.le_refl 0)
    refine ⟨_, g1, hstart.trans s4, fun T hT => ?_⟩
    obtain ⟨z1, z2⟩ := r0_end hsg hT ho hdeg h1n s1 s2 s3
    by_cases he : smv_ (fun v => cn_ (a0_ cs n v) n) n / 2 = n - g'
    · rw [if_pos he, z1 he]
    · rw [if_neg he, z2 he]
      rfl
  · obtain ⟨v, hv, hdv⟩ : ∃ v : Nat, v < n ∧ 2 < cn_ (a0_ cs n v) n := by
      apply Classical.byContradiction
      intro hc
      apply hdeg
      intro v hv
      apply Classical.byContradiction
      intro h2
      exact hc ⟨v, hv, by omega⟩
    refine ⟨0, g1, hstart.trans (c_109b hF hn hm hd hv hdv v 0 F _ _ _ _ (by omega) (by omega)), fun T hT => ?_⟩
    rw [r0_deg hsg hT ho hv hdv]
    rfl
theorem c_behind (hF : 300000 ≤ F) (hn : n ≤ 9) (h1n : 1 ≤ n) (h : cp_ok σ cs) (hne : ∀ c : Nat × Nat, c ∈ cs → c.1 ≠ c.2) : ∃ (r : Int32) (g : Nat → Int32), f_X7_rowsBehind F (nI n) σ = some (r, nd_row σ 58 g) ∧ ∀ T : Nat → Nat → Nat, dp_ (ok1_ (b1_ cs n) n) (fs1_ (b1_ cs n) n) n T → nI (pz_ (fun _ _ _ => true) (T (2 ^ n - 1)) 0 0 n) = r := by
  obtain ⟨g0, e1, e2, _⟩ := e_fill (F := F) (σ := σ) (a := 58) (n := 196) (v := 0) hF (by decide)
  obtain ⟨g1, q1, q2⟩ := c_10b (F := F) (σ := σ) hn h cs.length 0 F g0 (by omega) (by have := h.1; omega) (dk_0 hn e2 (fun v u e => by
    obtain ⟨j, j1, _⟩ := e
    exact absurd j1 (Nat.not_lt_zero j)))
  have hA := dk_A (A := fun p y => b1_ cs n y p) q2 (fun v u hv hu => by
    have e : b1_ cs n u v = true ↔ (u < n ∧ v < n ∧ (u, v) ∈ cs) := decide_eq_true_iff
    show b1_ cs n u v = true ↔ _
    rw [e, ← mem_j (c := (u, v))]
    exact ⟨fun k => k.2.2, fun k => ⟨hu, hv, k⟩⟩)
  have hd : ds_ (nd_row σ 58 g1) n (fun p => bn_ (fun y => b1_ cs n y p) n) := fun v hv => ⟨by rw [w_eq]; exact hA v hv, bn_lt _ n⟩
  have hm : mb_ (b1_ cs n) n (fun p => bn_ (fun y => b1_ cs n y p) n) := fun v hv => ⟨bn_lt _ n, fun u hu => by
    show (bn_ (fun y => b1_ cs n y v) n).testBit u = _
    rw [bn_tb, decide_eq_true hu, Bool.true_and]⟩
  have hB : ∀ y p : Nat, b1_ cs n y p = true → y < n ∧ p < n := fun y p e => by
    have e' : y < n ∧ p < n ∧ (y, p) ∈ cs := of_decide_eq_true e
    exact ⟨e'.1, e'.2.1⟩
  have ho : sp_ (b1_ cs n) n (ok1_ (b1_ cs n) n) (fs1_ (b1_ cs n) n) := ⟨fun x S l _ _ => decide_eq_true_iff, fun x _ => decide_eq_true_iff, fun x => decide_eq_false (fun e => hne _ e.2.2 rfl), hB⟩
  have hstart : f_X7_rowsBehind F (nI n) σ = f_X7_rowsBehind_70 F F (nI n) (nI 0) (nI 0) (nI 0) (nd_row σ 58 g1) := by
    unfold f_X7_rowsBehind
    rw [e1, n_bind]
    exact q1
  rcases c_70 hF hn hm hd hB n 0 F 0 (by omega) (by omega) (Nat.pow_pos (by decide)) (fun y => by
    rw [Nat.zero_testBit]
    exact ⟨fun e => absurd e (by decide), fun ⟨p, p1, _⟩ => absurd p1 (Nat.not_lt_zero p)⟩) ⟨fun p hp => absurd hp (Nat.not_lt_zero p), fun y p p' hp => absurd hp (Nat.not_lt_zero p), fun p hp => absurd hp (Nat.not_lt_zero p)⟩ with ⟨bad, z⟩ | ⟨good, z⟩
  · refine ⟨0, g1, hstart.trans z, fun T hT => ?_⟩
    rw [r1_0 hT ho hm bad]
    rfl
  · refine ⟨_, g1, hstart.trans z, fun T hT => ?_⟩
    rw [r1_end hT ho hm h1n good.1 (fun y p p' k1 k2 => good.2.1 y p p' (hB y p k1).2 (hB y p' k2).2 k1 k2) good.2.2]
end RO
theorem op_rows {F : Nat} (hF : 300000 ≤ F) (x1 x2 : Int32) : op_ (f_X10_rows F x1 x2) (f_X11_rows F x1 x2) := op_sc (fun σ m0 hI => by
  have hf0 : fr_ sc_S sc_K σ (nd_up σ 60 0 0) := (by repeat first | exact fr_rf | (refine fr_up57 ?_ (by decide)) | (refine fr_up ?_ (by decide) (by decide)) | (refine fr_row ?_ (by decide) (by decide)))
  have no : f_X10_rows F x1 x2 σ = some (-1, σ) → f_X11_rows F x1 x2 σ = some (-1, nd_up σ 60 0 0) → ∃ (r : Int32) (τ ρ : nd_Mem), f_X10_rows F x1 x2 σ = some (r, τ) ∧ f_X11_rows F x1 x2 τ = some (r, ρ) ∧ fr_ sc_S sc_K σ ρ := fun e1 e2 => ⟨-1, σ, _, e1, e2, hf0⟩
  obtain ⟨⟨hn, hq1, hq2, hq3, hq4, hq5, hq6, hq7, hq8, hla, hpl, hfd, hsd⟩, hpa, htp, hpi, hfx⟩ := id hI
  obtain ⟨cs, c1, c2, c3, c4, c5⟩ := id hq2
  have hcp : cp_ok σ cs := ⟨c1, c2, fun i c hc => ⟨(c4 i c hc).1, (c4 i c hc).2.1, (c4 i c hc).2.2.2⟩⟩
  have hne : ∀ c : Nat × Nat, c ∈ cs → c.1 ≠ c.2 := fun c hc => by
    obtain ⟨j, _, hj⟩ := mem_j.mpr hc
    exact (c4 j c hj).2.2.1
  by_cases h1 : x1 < 2 ∨ 9 < x1
  · refine no ?_ ?_
    · unfold f_X10_rows f_X10_rows_11
      by_cases h2 : x1 < 2
      · rw [if_pos h2]
      · rw [if_neg h2, if_neg (fun e => by rcases h1 with k | k; exact h2 k; exact Int32.not_lt.mpr e k)]
    · unfold f_X11_rows f_X11_rows_26
      rw [n_let, e_isIn, n_bind, if_pos h1, if_pos rfl]
  · have h1a : ¬ x1 < 2 := fun e => h1 (Or.inl e)
    have h1b : ¬ (9 : Int32) < x1 := fun e => h1 (Or.inr e)
    obtain ⟨n, hn, rfl⟩ := rng 9 (by decide) (show ¬ x1 < 0 by grind) h1b
    have h2n : 2 ≤ n := by
      apply Classical.byContradiction
      intro hc
      exact h1a (show nI n < (2 : Int32) from nI_lt (b := 2) (by omega) (by decide))
    have h9 : nI n ≤ (9 : Int32) := Int32.not_lt.mp h1b
    have hp1 : 0 < 2 ^ n := Nat.pow_pos (by decide)
    have hall : ((1 : Int32) <<< (nI n &&& 31)) - (1 : Int32) = nI (2 ^ n - 1) := by
      rw [show (1 : Int32) <<< (nI n &&& 31) = nI (2 ^ n) from n_one (by omega)]
      exact n_sub (b := 1) hp1
    by_cases h2 : x2 < 0 ∨ 1 < x2
    · refine no ?_ ?_
      · unfold f_X10_rows
        rw [if_neg h1a, if_pos h9, if_neg (fun e => by rw [e] at h2; exact absurd h2 (by decide)), if_neg (fun e => by rw [e] at h2; exact absurd h2 (by decide))]
      · unfold f_X11_rows f_X11_rows_26
        rw [n_let, e_isIn, n_bind, if_neg h1, if_neg n10, e_isIn, n_bind, if_pos h2, if_pos rfl]
    · have h2c : x2 = 0 ∨ x2 = 1 := by
        have k1 : ¬ x2 < 0 := fun e => h2 (Or.inl e)
        have k2 : ¬ (1 : Int32) < x2 := fun e => h2 (Or.inr e)
        grind
      rcases h2c with rfl | rfl
      · obtain ⟨r, g, e1, e2⟩ := c_side (F := F) hF hn (by omega) hcp hne
        obtain ⟨g', T, z1, z2⟩ := mr_rows (F := F) (w := 0) (σ := nd_up (nd_row σ 58 g) 60 0 0) hF hn (by omega) (can0 (cs := cs) hn (fun x hx => (c5 x hx).1)) fst0
        refine ⟨r, nd_row σ 58 g, _, ?_, ?_, ((by repeat first | exact fr_rf | (refine fr_up57 ?_ (by decide)) | (refine fr_up ?_ (by decide) (by decide)) | (refine fr_row ?_ (by decide) (by decide))) : fr_ sc_S sc_K σ (nd_row (nd_up (nd_row σ 58 g) 60 0 0) 88 g'))⟩
        · unfold f_X10_rows
          rw [if_neg h1a, if_pos h9, if_pos rfl, e1, n_bind]
        · unfold f_X11_rows
          rw [n_let, e_isIn, n_bind, if_neg h1, if_neg n10, e_isIn, n_bind, if_neg h2, if_neg n10, hall, ← e2 T z2]
          exact z1
      · obtain ⟨r, g, e1, e2⟩ := c_behind (F := F) hF hn (by omega) hcp hne
        obtain ⟨g', T, z1, z2⟩ := mr_rows (F := F) (w := 1) (σ := nd_up (nd_row σ 58 g) 60 0 0) hF hn (by omega) (can1 (cs := cs) hn (fun x hx => (c5 x hx).2.1) (fun x hx => (c5 x hx).2.2)) (fst1 (cs := cs) hn (fun x hx => (c5 x hx).2.1))
        refine ⟨r, nd_row σ 58 g, _, ?_, ?_, ((by repeat first | exact fr_rf | (refine fr_up57 ?_ (by decide)) | (refine fr_up ?_ (by decide) (by decide)) | (refine fr_row ?_ (by decide) (by decide))) : fr_ sc_S sc_K σ (nd_row (nd_up (nd_row σ 58 g) 60 0 0) 88 g'))⟩
        · unfold f_X10_rows
          rw [if_neg h1a, if_pos h9, if_neg n10, if_pos rfl, e1, n_bind]
        · unfold f_X11_rows
          rw [n_let, e_isIn, n_bind, if_neg h1, if_neg n10, e_isIn, n_bind, if_neg h2, if_neg n10, hall, ← e2 T z2]
          exact z1)
