/-! rows: the class's loops -/
def dk_ (n : Nat) (g : Nat → Int32) (R : Nat → Nat → Prop) : Prop := ∀ v : Nat, v < n → ∃ m : Nat, m < 2 ^ n ∧ g v = nI m ∧ ∀ u : Nat, m.testBit u = true ↔ u < n ∧ R v u
theorem bc_all : ∀ x : Fin 512, (f_J6_bitCount_0f7a4 0 (nI x.val) (fun _ _ => 0)).map (fun p => p.1) = some (nI (bs_ x.val 9)) := by decide +kernel
section RC
variable {F n : Nat} {σ τ : nd_Mem} {A : Nat → Nat → Bool} {m : Nat → Nat}
theorem bc_N {x : Nat} (hx : x < 512) : f_J6_bitCount_0f7a4 F (nI x) σ = some (nI (bs_ x 9), σ) := by
  have h := bc_all ⟨x, hx⟩
  unfold f_J6_bitCount_0f7a4 at h ⊢
  simp only [Option.map_some, Option.some.injEq] at h
  rw [h]
theorem bs_cn {P : Nat → Bool} {x : Nat} : ∀ k : Nat, (∀ i : Nat, i < k → x.testBit i = P i) → bs_ x k = cn_ P k := by
  intro k
  induction k with
  | zero => intro _; rfl
  | succ k ih =>
    intro h
    show bs_ x k + (if x.testBit k = true then 1 else 0) = cn_ P k + if P k = true then 1 else 0
    rw [ih (fun i hi => h i (by omega)), h k (by omega)]
theorem bs_up {x : Nat} (hx : x < 2 ^ n) : ∀ d : Nat, bs_ x (n + d) = bs_ x n := by
  intro d
  induction d with
  | zero => rfl
  | succ d ih =>
    show bs_ x (n + d) + (if x.testBit (n + d) = true then 1 else 0) = bs_ x n
    rw [ih, if_neg (fun e => by have := tb_big hx e; omega), Nat.add_zero]
theorem bc_A (hn : n ≤ 9) {P : Nat → Bool} {x : Nat} (hx : x < 2 ^ n) (h : ∀ i : Nat, i < n → x.testBit i = P i) : f_J6_bitCount_0f7a4 F (nI x) σ = some (nI (cn_ P n), σ) := by
  have h9 := p9_ hn
  rw [bc_N (by omega), show bs_ x 9 = cn_ P n from ?_]
  rw [show (9 : Nat) = n + (9 - n) by omega, bs_up hx]
  exact bs_cn n h
theorem c_join (hn : n ≤ 9) {a b : Nat} (ha : a < 9) (hb : b < 9) {g : Nat → Int32} {R : Nat → Nat → Prop} (h : dk_ n g R) : ∃ g' : Nat → Int32, f_X7_join F (nI a) (nI b) (nI n) (nd_row σ 58 g) = some (0, nd_row σ 58 g') ∧ dk_ n g' (fun v u => R v u ∨ (v = a ∧ u = b)) := by
  unfold f_X7_join
  rw [if_neg (nI_pos (by omega))]
  by_cases han : a < n
  · rw [if_neg (nI_ge han (by omega)), if_neg (nI_pos (by omega))]
    by_cases hbn : b < n
    · obtain ⟨k, k1, k2, k3⟩ := h a han
      rw [if_neg (nI_ge hbn (by omega)), if_neg (nI_in (by omega) (by decide)), if_neg (nI_in (by omega) (by decide)), nI_clamp (by omega), n_let, w_eq, up_row, k2, show (1 : Int32) <<< (nI b &&& 31) = nI (2 ^ b) from n_one (by omega), n_or]
      refine ⟨_, rfl, fun v hv => ?_⟩
      by_cases hva : v = a
      · rw [hva, upd_eq]
        refine ⟨k ||| 2 ^ b, Nat.or_lt_two_pow k1 (Nat.pow_lt_pow_right (by decide) hbn), rfl, fun u => ?_⟩
        rw [Nat.testBit_or, Bool.or_eq_true, k3 u, Nat.testBit_two_pow, decide_eq_true_eq]
        constructor
        · rintro (⟨e1, e2⟩ | e)
          · exact ⟨e1, Or.inl e2⟩
          · rw [← e]; exact ⟨hbn, Or.inr ⟨rfl, rfl⟩⟩
        · rintro ⟨e1, e2 | e2⟩
          · exact Or.inl ⟨e1, e2⟩
          · exact Or.inr e2.2.symm
      · rw [upd_ne hva]
        obtain ⟨q, q1, q2, q3⟩ := h v hv
        refine ⟨q, q1, q2, fun u => ?_⟩
        rw [q3 u]
        constructor
        · rintro ⟨e1, e2⟩; exact ⟨e1, Or.inl e2⟩
        · rintro ⟨e1, e2 | e2⟩
          · exact ⟨e1, e2⟩
          · exact absurd e2.1 hva
    · rw [if_pos (nI_le (by omega) (by omega))]
      refine ⟨g, rfl, fun v hv => ?_⟩
      obtain ⟨q, q1, q2, q3⟩ := h v hv
      refine ⟨q, q1, q2, fun u => ?_⟩
      rw [q3 u]
      constructor
      · rintro ⟨e1, e2⟩; exact ⟨e1, Or.inl e2⟩
      · rintro ⟨e1, e2 | e2⟩
        · exact ⟨e1, e2⟩
        · exact absurd (by rw [← e2.2]; exact e1) hbn
  · rw [if_pos (nI_le (by omega) (by omega))]
    refine ⟨g, rfl, fun v hv => ?_⟩
    obtain ⟨q, q1, q2, q3⟩ := h v hv
    refine ⟨q, q1, q2, fun u => ?_⟩
    rw [q3 u]
    constructor
    · rintro ⟨e1, e2⟩; exact ⟨e1, Or.inl e2⟩
    · rintro ⟨e1, e2 | e2⟩
      · exact ⟨e1, e2⟩
      · exact absurd (by rw [← e2.1]; exact hv) han
theorem dk_cg {g : Nat → Int32} {R R' : Nat → Nat → Prop} (h : dk_ n g R) (hr : ∀ v u : Nat, R v u ↔ R' v u) : dk_ n g R' := fun v hv => by
  obtain ⟨q, q1, q2, q3⟩ := h v hv
  exact ⟨q, q1, q2, fun u => by rw [q3 u, hr v u]⟩
theorem dk_A {g : Nat → Int32} {R : Nat → Nat → Prop} (h : dk_ n g R) (hr : ∀ v u : Nat, v < n → u < n → (A v u = true ↔ R v u)) : ∀ v : Nat, v < n → g v = nI (bn_ (A v) n) := fun v hv => by
  obtain ⟨q, q1, q2, q3⟩ := h v hv
  rw [q2]
  congr 1
  apply Nat.eq_of_testBit_eq
  intro i
  rw [bn_tb, Bool.eq_iff_iff, q3 i, Bool.and_eq_true, decide_eq_true_eq]
  constructor
  · rintro ⟨e1, e2⟩; exact ⟨e1, (hr v i hv e1).mpr e2⟩
  · rintro ⟨e1, e2⟩; exact ⟨e1, (hr v i hv e1).mp e2⟩
/-- a couple of the list -/
def cp_ok (σ : nd_Mem) (cs : List (Nat × Nat)) : Prop := cs.length ≤ 6 ∧ σ 15 1 = nI cs.length ∧ ∀ (i : Nat) (c : Nat × Nat), cs[i]? = some c → c.1 < 9 ∧ c.2 < 9 ∧ σ 16 i = nI (16 * c.1 + c.2)
theorem c_at {cs : List (Nat × Nat)} (h : cp_ok σ cs) {i a b : Nat} (hc : cs[i]? = some (a, b)) (g : Nat → Int32) : f_X4_at F 15 16 6 (nI i) (nd_row σ 58 g) = some (nI (16 * a + b), nd_row σ 58 g) := by
  obtain ⟨h1, h2, h3⟩ := h
  obtain ⟨c1, c2, c3⟩ := h3 i (a, b) hc
  obtain ⟨hi, _⟩ := List.getElem?_eq_some_iff.mp hc
  rw [e_at (n := cs.length) (show nd_row σ 58 g 15 1 = nI cs.length by rw [w_ne (by decide)]; exact h2) hi h1 (by decide), w_ne (by decide), c3]
theorem c_d16 {a b : Nat} (ha : a < 9) (hb : b < 9) : nI (16 * a + b) / (16 : Int32) = nI a := by
  rw [show (16 : Int32) = nI 16 from rfl, n_div (by omega) (by omega), show (16 * a + b) / 16 = a by omega]
theorem c_m16 {a b : Nat} (ha : a < 9) (hb : b < 9) : q_rem (nI (16 * a + b)) (16 : Int32) = nI b := by
  rw [show (16 : Int32) = nI 16 from rfl, n_rem (by omega) (by omega), show (16 * a + b) % 16 = b by omega]
theorem c_10 (hn : n ≤ 9) {cs : List (Nat × Nat)} (h : cp_ok σ cs) : ∀ (d i f : Nat) (g : Nat → Int32), i + d = cs.length → d < f → dk_ n g (fun v u => ∃ j : Nat, j < i ∧ (cs[j]? = some (v, u) ∨ cs[j]? = some (u, v))) → ∃ g' : Nat → Int32, f_X7_rowsSideBySide_10 F f (nI n) (nI i) (nd_row σ 58 g) = f_X7_rowsSideBySide_109 F F (nI n) 0 0 0 0 0 (nd_row σ 58 g') ∧ dk_ n g' (fun v u => ∃ j : Nat, j < cs.length ∧ (cs[j]? = some (v, u) ∨ cs[j]? = some (u, v))) := by
  have hl := h.1
  intro d
  induction d with
  | zero =>
    intro i f g hi hf hg
    obtain ⟨f, rfl⟩ : ∃ g, f = g + 1 := ⟨f - 1, by omega⟩
    have : i = cs.length := by omega
    subst this
    refine ⟨g, ?_, hg⟩
    show f_X7_rowsSideBySide_10_b F _ _ _ _ = _
    unfold f_X7_rowsSideBySide_10_b
    rw [if_pos (by rw [w_ne (by decide), h.2.1]; exact nI_le (Nat.le_refl _) (by omega))]
  | succ d ih =>
    intro i f g hi hf hg
    obtain ⟨f, rfl⟩ : ∃ g, f = g + 1 := ⟨f - 1, by omega⟩
    have hil : i < cs.length := by omega
    obtain ⟨⟨a, b⟩, hc⟩ : ∃ c, cs[i]? = some c := ⟨cs[i], List.getElem?_eq_getElem hil⟩
    obtain ⟨c1, c2, c3⟩ := h.2.2 i (a, b) hc
    have c1 : a < 9 := c1
    have c2 : b < 9 := c2
    obtain ⟨g1, p1, p2⟩ := c_join (F := F) (σ := σ) hn c1 c2 hg
    obtain ⟨g2, q1, q2⟩ := c_join (F := F) (σ := σ) hn c2 c1 p2
    obtain ⟨g3, s1, s2⟩ := ih (i + 1) f g2 (by omega) (by omega) (dk_cg q2 (fun v u => by
      constructor
      · rintro ((⟨j, j1, j2⟩ | ⟨e1, e2⟩) | ⟨e1, e2⟩)
        · exact ⟨j, by omega, j2⟩
        · exact ⟨i, by omega, Or.inl (by rw [e1, e2]; exact hc)⟩
        · exact ⟨i, by omega, Or.inr (by rw [e1, e2]; exact hc)⟩
      · rintro ⟨j, j1, j2⟩
        by_cases hji : j = i
        · rw [hji, hc] at j2
          rcases j2 with e | e
          · have e' := Option.some.inj e
            rw [Prod.mk.injEq] at e'
            exact Or.inl (Or.inr ⟨e'.1.symm, e'.2.symm⟩)
          · have e' := Option.some.inj e
            rw [Prod.mk.injEq] at e'
            exact Or.inr ⟨e'.2.symm, e'.1.symm⟩
        · exact Or.inl (Or.inl ⟨j, by omega, j2⟩)))
    refine ⟨g3, ?_, s2⟩
    show f_X7_rowsSideBySide_10_b F _ _ _ _ = _
    unfold f_X7_rowsSideBySide_10_b
    rw [if_neg (by rw [w_ne (by decide), h.2.1]; exact nI_ge hil (by omega)), c_at h hc, n_bind, c_at h hc, n_bind, c_d16 c1 c2, c_m16 c1 c2, p1, n_bind, c_at h hc, n_bind, c_at h hc, n_bind, c_d16 c1 c2, c_m16 c1 c2, q1, n_bind, nI_1]
    exact s1
theorem c_10b (hn : n ≤ 9) {cs : List (Nat × Nat)} (h : cp_ok σ cs) : ∀ (d i f : Nat) (g : Nat → Int32), i + d = cs.length → d < f → dk_ n g (fun v u => ∃ j : Nat, j < i ∧ cs[j]? = some (u, v)) → ∃ g' : Nat → Int32, f_X7_rowsBehind_10 F f (nI n) (nI i) (nd_row σ 58 g) = f_X7_rowsBehind_70 F F (nI n) 0 0 0 (nd_row σ 58 g') ∧ dk_ n g' (fun v u => ∃ j : Nat, j < cs.length ∧ cs[j]? = some (u, v)) := by
  have hl := h.1
  intro d
  induction d with
  | zero =>
    intro i f g hi hf hg
    obtain ⟨f, rfl⟩ : ∃ g, f = g + 1 := ⟨f - 1, by omega⟩
    have : i = cs.length := by omega
    subst this
    refine ⟨g, ?_, hg⟩
    show f_X7_rowsBehind_10_b F _ _ _ _ = _
    unfold f_X7_rowsBehind_10_b
    rw [if_pos (by rw [w_ne (by decide), h.2.1]; exact nI_le (Nat.le_refl _) (by omega))]
  | succ d ih =>
    intro i f g hi hf hg
    obtain ⟨f, rfl⟩ : ∃ g, f = g + 1 := ⟨f - 1, by omega⟩
    have hil : i < cs.length := by omega
    obtain ⟨⟨a, b⟩, hc⟩ : ∃ c, cs[i]? = some c := ⟨cs[i], List.getElem?_eq_getElem hil⟩
    obtain ⟨c1, c2, c3⟩ := h.2.2 i (a, b) hc
    have c1 : a < 9 := c1
    have c2 : b < 9 := c2
    obtain ⟨g2, q1, q2⟩ := c_join (F := F) (σ := σ) hn c2 c1 hg
    obtain ⟨g3, s1, s2⟩ := ih (i + 1) f g2 (by omega) (by omega) (dk_cg q2 (fun v u => by
      constructor
      · rintro (⟨j, j1, j2⟩ | ⟨e1, e2⟩)
        · exact ⟨j, by omega, j2⟩
        · exact ⟨i, by omega, by rw [e1, e2]; exact hc⟩
      · rintro ⟨j, j1, j2⟩
        by_cases hji : j = i
        · rw [hji, hc] at j2
          have e' := Option.some.inj j2
          rw [Prod.mk.injEq] at e'
          exact Or.inr ⟨e'.2.symm, e'.1.symm⟩
        · exact Or.inl ⟨j, by omega, j2⟩))
    refine ⟨g3, ?_, s2⟩
    show f_X7_rowsBehind_10_b F _ _ _ _ = _
    unfold f_X7_rowsBehind_10_b
    rw [if_neg (by rw [w_ne (by decide), h.2.1]; exact nI_ge hil (by omega)), c_at h hc, n_bind, c_at h hc, n_bind, c_m16 c1 c2, c_d16 c1 c2, q1, n_bind, nI_1]
    exact s1
/-- the desk -/
def ds_ (τ : nd_Mem) (n : Nat) (m : Nat → Nat) : Prop := ∀ v : Nat, v < n → τ 58 v = nI (m v) ∧ m v < 2 ^ n
theorem sw_b (hd : ds_ τ n m) {g : Nat} (hg : g < 2 ^ n) {k : Nat} (hk : k ≤ n) : sw_ m g k < 2 ^ n := sw_inv (I := fun x => x < 2 ^ n) (fun _ j hj h _ => Nat.or_lt_two_pow h (hd j hj).2) hg k hk
theorem c_16 (hn : n ≤ 9) (hd : ds_ τ n m) {g k : Nat} (hg : g < 2 ^ n) {rec7 : Int32 → Int32 → Int32 → nd_Mem → nd_Res} : ∀ d j f : Nat, j + d = n → d < f → f_X7_groupOf_16 F rec7 f (nI n) (nI (sw_ m g j)) (nI k) (nI j) τ = rec7 (nI n) (nI (sw_ m g n)) (nI (k + 1)) τ := by
  have h9 := p9_ hn
  intro d
  induction d with
  | zero =>
    intro j f hj hf
    obtain ⟨f, rfl⟩ : ∃ g, f = g + 1 := ⟨f - 1, by omega⟩
    show f_X7_groupOf_16_b F rec7 _ _ _ _ _ _ = _
    unfold f_X7_groupOf_16_b
    rw [if_pos (nI_le (by omega) (by omega)), nI_1, show j = n by omega]
  | succ d ih =>
    intro j f hj hf
    obtain ⟨f, rfl⟩ : ∃ g, f = g + 1 := ⟨f - 1, by omega⟩
    have hb := sw_b hd hg (show j ≤ n by omega)
    have e := n_bit (k := j) (a := sw_ m g j) (by omega) (by omega)
    have es : sw_ m g (j + 1) = if (sw_ m g j).testBit j = true then sw_ m g j ||| m j else sw_ m g j := rfl
    have i1 := ih (j + 1) f (by omega) (by omega)
    show f_X7_groupOf_16_b F rec7 _ _ _ _ _ _ = _
    unfold f_X7_groupOf_16_b f_X7_groupOf_42
    rw [if_neg (nI_ge (by omega) (by omega))]
    by_cases hbit : (sw_ m g j).testBit j = true
    · rw [if_pos hbit] at es
      rw [if_pos (show ((nI (sw_ m g j) >>> (nI j &&& 31)) &&& 1) = 1 from e.mpr hbit), if_neg (nI_in (by omega) (by decide)), nI_clamp (by omega), (hd j (by omega)).1, n_or, nI_1, ← es]
      exact i1
    · rw [if_neg hbit] at es
      rw [if_neg (show ¬ ((nI (sw_ m g j) >>> (nI j &&& 31)) &&& 1) = 1 from fun h => hbit (e.mp h)), nI_1, ← es]
      exact i1
theorem c_7 (hF : 300000 ≤ F) (hn : n ≤ 9) (hd : ds_ τ n m) {g : Nat} (hg : g < 2 ^ n) : ∀ d k f : Nat, k + d = n → d < f → f_X7_groupOf_7 F f (nI n) (nI (rdv_ m n g k)) (nI k) τ = some (nI (rdv_ m n g n), τ) := by
  intro d
  induction d with
  | zero =>
    intro k f hk hf
    obtain ⟨f, rfl⟩ : ∃ g, f = g + 1 := ⟨f - 1, by omega⟩
    show f_X7_groupOf_7_b F _ _ _ _ _ = _
    unfold f_X7_groupOf_7_b
    rw [if_pos (nI_le (by omega) (by omega)), show k = n by omega]
  | succ d ih =>
    intro k f hk hf
    obtain ⟨f, rfl⟩ : ∃ g, f = g + 1 := ⟨f - 1, by omega⟩
    show f_X7_groupOf_7_b F _ _ _ _ _ = _
    unfold f_X7_groupOf_7_b
    rw [if_neg (nI_ge (by omega) (by omega))]
    exact (c_16 (rec7 := f_X7_groupOf_7 F f) (k := k) hn hd (rd_lt (fun j hj => (hd j hj).2) hg k) n 0 F (by omega) (by omega)).trans (ih (k + 1) f (by omega) (by omega))
theorem c_group (hF : 300000 ≤ F) (hn : n ≤ 9) (hd : ds_ τ n m) {w : Nat} (hw : w < n) : f_X7_groupOf F (nI w) (nI n) τ = some (nI (rdv_ m n (2 ^ w) n), τ) := by
  unfold f_X7_groupOf
  rw [show (1 : Int32) <<< (nI w &&& 31) = nI (2 ^ w) from n_one (by omega)]
  exact c_7 hF hn hd (Nat.pow_lt_pow_right (by decide) hw) n 0 F (by omega) (by omega)
theorem c_19 (hn : n ≤ 9) (hd : ds_ τ n m) {g k w : Nat} (hg : g < 2 ^ n) {rec10 : Int32 → Int32 → Int32 → Int32 → nd_Mem → nd_Res} : ∀ d j f : Nat, j + d = n → d < f → f_X7_comesBack_19 F rec10 f (nI w) (nI n) (nI (sw_ m g j)) (nI k) (nI j) τ = rec10 (nI w) (nI n) (nI (sw_ m g n)) (nI (k + 1)) τ := by
  have h9 := p9_ hn
  intro d
  induction d with
  | zero =>
    intro j f hj hf
    obtain ⟨f, rfl⟩ : ∃ g, f = g + 1 := ⟨f - 1, by omega⟩
    show f_X7_comesBack_19_b F rec10 _ _ _ _ _ _ _ = _
    unfold f_X7_comesBack_19_b
    rw [if_pos (nI_le (by omega) (by omega)), nI_1, show j = n by omega]
  | succ d ih =>
    intro j f hj hf
    obtain ⟨f, rfl⟩ : ∃ g, f = g + 1 := ⟨f - 1, by omega⟩
    have hb := sw_b hd hg (show j ≤ n by omega)
    have e := n_bit (k := j) (a := sw_ m g j) (by omega) (by omega)
    have es : sw_ m g (j + 1) = if (sw_ m g j).testBit j = true then sw_ m g j ||| m j else sw_ m g j := rfl
    have i1 := ih (j + 1) f (by omega) (by omega)
    show f_X7_comesBack_19_b F rec10 _ _ _ _ _ _ _ = _
    unfold f_X7_comesBack_19_b f_X7_comesBack_45
    rw [if_neg (nI_ge (by omega) (by omega))]
    by_cases hbit : (sw_ m g j).testBit j = true
    · rw [if_pos hbit] at es
      rw [if_pos (show ((nI (sw_ m g j) >>> (nI j &&& 31)) &&& 1) = 1 from e.mpr hbit), if_neg (nI_in (by omega) (by decide)), nI_clamp (by omega), (hd j (by omega)).1, n_or, nI_1, ← es]
      exact i1
    · rw [if_neg hbit] at es
      rw [if_neg (show ¬ ((nI (sw_ m g j) >>> (nI j &&& 31)) &&& 1) = 1 from fun h => hbit (e.mp h)), nI_1, ← es]
      exact i1
theorem c_10r (hF : 300000 ≤ F) (hn : n ≤ 9) (hd : ds_ τ n m) {g w : Nat} (hg : g < 2 ^ n) (hw : w < n) : ∀ d k f : Nat, k + d = n → d < f → f_X7_comesBack_10 F f (nI w) (nI n) (nI (rdv_ m n g k)) (nI k) τ = some (if (rdv_ m n g n).testBit w = true then 1 else 0, τ) := by
  have h9 := p9_ hn
  intro d
  induction d with
  | zero =>
    intro k f hk hf
    obtain ⟨f, rfl⟩ : ∃ g, f = g + 1 := ⟨f - 1, by omega⟩
    have hlt := rd_lt (fun j hj => (hd j hj).2) hg n
    have e := n_bit (k := w) (a := rdv_ m n g n) (by omega) (by omega)
    show f_X7_comesBack_10_b F _ _ _ _ _ _ = _
    unfold f_X7_comesBack_10_b
    rw [if_pos (nI_le (by omega) (by omega)), show k = n by omega]
    by_cases hbit : (rdv_ m n g n).testBit w = true
    · rw [if_pos hbit, if_pos (show ((nI (rdv_ m n g n) >>> (nI w &&& 31)) &&& 1) = 1 from e.mpr hbit)]
    · rw [if_neg hbit, if_neg (show ¬ ((nI (rdv_ m n g n) >>> (nI w &&& 31)) &&& 1) = 1 from fun h => hbit (e.mp h))]
  | succ d ih =>
    intro k f hk hf
    obtain ⟨f, rfl⟩ : ∃ g, f = g + 1 := ⟨f - 1, by omega⟩
    show f_X7_comesBack_10_b F _ _ _ _ _ _ = _
    unfold f_X7_comesBack_10_b
    rw [if_neg (nI_ge (by omega) (by omega))]
    exact (c_19 (rec10 := f_X7_comesBack_10 F f) (k := k) (w := w) hn hd (rd_lt (fun j hj => (hd j hj).2) hg k) n 0 F (by omega) (by omega)).trans (ih (k + 1) f (by omega) (by omega))
theorem c_back (hF : 300000 ≤ F) (hn : n ≤ 9) (hd : ds_ τ n m) {w : Nat} (hw : w < n) : f_X7_comesBack F (nI w) (nI n) τ = some (if (rdv_ m n (m w) n).testBit w = true then 1 else 0, τ) := by
  unfold f_X7_comesBack
  rw [if_neg (nI_in (by omega) (by decide)), nI_clamp (by omega), (hd w hw).1]
  exact c_10r hF hn hd (hd w hw).2 hw n 0 F (by omega) (by omega)
theorem c_fac_ {k : Nat} (hk : k ≤ 9) : ∀ d i f : Nat, i + d = k → d < f → f_X7_factorial_4 F f (nI k) (nI (fac_ i)) (nI (i + 1)) σ = some (nI (fac_ k), σ) := by
  intro d
  induction d with
  | zero =>
    intro i f hi hf
    obtain ⟨f, rfl⟩ : ∃ g, f = g + 1 := ⟨f - 1, by omega⟩
    show f_X7_factorial_4_b F _ _ _ _ _ = _
    unfold f_X7_factorial_4_b
    rw [if_pos (nI_lt (by omega) (by omega)), show i = k by omega]
  | succ d ih =>
    intro i f hi hf
    obtain ⟨f, rfl⟩ : ∃ g, f = g + 1 := ⟨f - 1, by omega⟩
    show f_X7_factorial_4_b F _ _ _ _ _ = _
    unfold f_X7_factorial_4_b
    rw [if_neg (nI_nlt (by omega) (by omega)), n_mul, nI_1, Nat.mul_comm]
    exact ih (i + 1) f (by omega) (by omega)
theorem c_fac (hF : 300000 ≤ F) {k : Nat} (hk : k ≤ 9) : f_X7_factorial F (nI k) σ = some (nI (fac_ k), σ) := by
  unfold f_X7_factorial
  by_cases h0 : k = 0
  · subst h0
    obtain ⟨f, hf⟩ : ∃ f, F = f + 1 := ⟨F - 1, by omega⟩
    rw [hf]
    show f_X7_factorial_4_b (f + 1) _ _ _ _ _ = _
    unfold f_X7_factorial_4_b
    rw [if_pos (by decide)]
    rfl
  · exact c_fac_ hk (k - 1) 1 F (by omega) (by omega)
end RC
