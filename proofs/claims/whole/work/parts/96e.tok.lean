/-! text: tokens -/
def txr_ (P : Nat → Bool) : Nat → Nat → Nat
  | 0, s => s
  | d + 1, s => if P s = true then txr_ P d (s + 1) else s
def isl_ (x : Nat) : Bool := decide ((97 ≤ x ∧ x ≤ 122) ∨ (65 ≤ x ∧ x ≤ 90))
def isd_ (x : Nat) : Bool := decide (48 ≤ x ∧ x ≤ 57)
def isb_ (x : Nat) : Bool := decide (x = 32 ∨ x = 10)
def iss_ (x : Nat) : Bool := decide (x = 59 ∨ x = 43 ∨ x = 45 ∨ x = 42 ∨ x = 47 ∨ x = 40 ∨ x = 41 ∨ x = 60 ∨ x = 61 ∨ x = 62)
/-- what digits come to -/
def nvf_ (t : Nat → Nat) : Nat → Nat → Nat → Nat
  | 0, _, v => v
  | d + 1, s, v => nvf_ t d (s + 1) (if v ≤ 9999 then v * 10 + (t s - 48) else v)
/-- the words, all of them -/
def wl_ : List (List Nat) := [[103, 111, 101, 115], [98, 101, 97, 114, 115], [98, 114, 105, 110, 103, 115], [119, 104, 101, 110], [111, 114], [97, 110, 100], [110, 111, 116], [103, 105, 114, 108, 115], [98, 111, 121, 115], [99, 111, 117, 112, 108, 101, 115], [100, 111, 119, 114, 121], [119, 105, 100, 111, 119], [110, 117, 109, 98, 101, 114], [115, 105, 100, 101], [106, 117, 103], [103, 97, 112, 115], [103, 101, 110, 101, 114, 97, 116, 105, 111, 110], [105, 110], [103, 105, 114, 108], [98, 111, 121], [104, 111, 117, 115, 101], [99, 111, 109, 102, 111, 114, 116], [103, 105, 118, 101], [102, 101, 117, 100]]
def wps_ : List Nat := [0, 5, 11, 18, 23, 26, 30, 34, 40, 45, 53, 59, 65, 72, 77, 81, 86, 97, 100, 105, 109, 115, 123, 128, 133]
/-- the words of a text -/
def kls_ : List (List Nat) := [[0, 1, 2, 3, 4, 5, 6, 7, 8, 9, 10, 11, 12, 13, 14, 15, 16], [17, 18, 19, 11, 21, 22, 14], [20, 23], [20, 13]]
def cst_ : List (List Nat) := [[103, 111, 101, 115, 32, 98, 101, 97, 114, 115, 32, 98, 114, 105, 110, 103, 115, 32, 119, 104, 101, 110, 32, 111, 114, 32, 97, 110, 100, 32, 110, 111, 116, 32, 103, 105, 114, 108, 115, 32, 98, 111, 121, 115, 32, 99, 111, 117, 112, 108, 101, 115, 32, 100, 111, 119, 114, 121, 32, 119, 105, 100, 111, 119, 32, 110, 117, 109, 98, 101, 114, 32, 115, 105, 100, 101, 32, 106, 117, 103, 32, 103, 97, 112, 115, 32, 103, 101, 110, 101, 114, 97, 116, 105, 111, 110], [105, 110, 32, 103, 105, 114, 108, 32, 98, 111, 121, 32, 119, 105, 100, 111, 119, 32, 99, 111, 109, 102, 111, 114, 116, 32, 103, 105, 118, 101, 32, 106, 117, 103], [104, 111, 117, 115, 101, 32, 102, 101, 117, 100], [104, 111, 117, 115, 101, 32, 115, 105, 100, 101]]
def kps_ : List (List Nat) := [[0, 5, 11, 18, 23, 26, 30, 34, 40, 45, 53, 59, 65, 72, 77, 81, 86], [0, 3, 8, 12, 18, 26, 31], [0, 6], [0, 6]]
def wif_ (s : List Nat) : List (List Nat) → Nat
  | [] => 0
  | w :: l => if w = s then 0 else wif_ s l + 1
def wjf_ (s : Nat) : List Nat → Nat
  | [] => 0
  | w :: l => if w = s then 0 else wjf_ s l + 1
def seg_ (t : Nat → Nat) (p q : Nat) : List Nat := (List.range (q - p)).map (fun i => t (p + i))
/-- where a token ends, which word it is, what kind, what value; where the next one begins -/
def tqe_ (t : Nat → Nat) (z p : Nat) : Nat := if z ≤ p then p else if isl_ (t p) = true then txr_ (fun s => isl_ (t s)) (z - p) p else if isd_ (t p) = true then txr_ (fun s => isd_ (t s)) (z - p) p else p + 1
def twd_ (t : Nat → Nat) (z p : Nat) : Nat := wif_ (seg_ t p (tqe_ t z p)) wl_
def tk_ (t : Nat → Nat) (z p : Nat) : Nat := if z ≤ p then 0 else if isl_ (t p) = true then (if twd_ t z p < 24 then 2 else 1) else if isd_ (t p) = true then (if tqe_ t z p - p ≤ 4 then 3 else 1) else if iss_ (t p) = true then 4 else 1
def tv_ (t : Nat → Nat) (z p : Nat) : Nat := if isl_ (t p) = true then twd_ t z p else if isd_ (t p) = true then nvf_ t (tqe_ t z p - p) p 0 else t p
def tn_ (t : Nat → Nat) (z s : Nat) : Nat := txr_ (fun i => isb_ (t i)) (z - s) s
def kws_ (k : Nat) : List (List Nat) := (kls_.getD k []).map (fun w => wl_.getD w [])
section TK
variable {P : Nat → Bool} {t : Nat → Nat} {z : Nat}
theorem txr_le : ∀ d s : Nat, s ≤ txr_ P d s ∧ txr_ P d s ≤ s + d := by
  intro d
  induction d with
  | zero => intro s; exact ⟨Nat.le_refl s, Nat.le_refl s⟩
  | succ d ih =>
    intro s
    show s ≤ (if P s = true then txr_ P d (s + 1) else s) ∧ (if P s = true then txr_ P d (s + 1) else s) ≤ s + (d + 1)
    by_cases h : P s = true
    · rw [if_pos h]
      have := ih (s + 1)
      omega
    · rw [if_neg h]
      omega
theorem txr_all : ∀ d s i : Nat, s ≤ i → i < txr_ P d s → P i = true := by
  intro d
  induction d with
  | zero =>
    intro s i h1 h2
    have h2 : i < s := h2
    omega
  | succ d ih =>
    intro s i h1 h2
    have h2 : i < (if P s = true then txr_ P d (s + 1) else s) := h2
    by_cases h : P s = true
    · rw [if_pos h] at h2
      by_cases hi : i = s
      · rw [hi]; exact h
      · exact ih (s + 1) i (by omega) h2
    · rw [if_neg h] at h2
      omega
theorem txr_end : ∀ d s : Nat, txr_ P d s < s + d → P (txr_ P d s) = false := by
  intro d
  induction d with
  | zero =>
    intro s h
    have h : s < s + 0 := h
    omega
  | succ d ih =>
    intro s h
    have h : (if P s = true then txr_ P d (s + 1) else s) < s + (d + 1) := h
    show P (if P s = true then txr_ P d (s + 1) else s) = false
    by_cases hb : P s = true
    · rw [if_pos hb] at h ⊢
      exact ih (s + 1) (by omega)
    · rw [if_neg hb]
      cases hp : P s
      · rfl
      · exact absurd hp hb
theorem txr_pos {d s : Nat} (h : P s = true) : s < txr_ P (d + 1) s := by
  show s < if P s = true then txr_ P d (s + 1) else s
  rw [if_pos h]
  have := (txr_le (P := P) d (s + 1)).1
  omega
theorem tn_le {s : Nat} (h : s ≤ z) : s ≤ tn_ t z s ∧ tn_ t z s ≤ z := by
  have := txr_le (P := fun i => isb_ (t i)) (z - s) s
  unfold tn_
  omega
theorem tn_no {s : Nat} (h : s ≤ z) (hp : tn_ t z s < z) : isb_ (t (tn_ t z s)) = false := txr_end (P := fun i => isb_ (t i)) (z - s) s (by
  have : txr_ (fun i => isb_ (t i)) (z - s) s < z := hp
  omega)
theorem tq_le {p : Nat} (h : p ≤ z) : p ≤ tqe_ t z p ∧ tqe_ t z p ≤ z ∧ (p < z → p < tqe_ t z p) := by
  unfold tqe_
  by_cases h0 : z ≤ p
  · rw [if_pos h0]; omega
  · rw [if_neg h0]
    obtain ⟨d, hd⟩ : ∃ d, z - p = d + 1 := ⟨z - p - 1, by omega⟩
    by_cases h1 : isl_ (t p) = true
    · rw [if_pos h1]
      have a := txr_le (P := fun s => isl_ (t s)) (z - p) p
      have b := txr_pos (P := fun s => isl_ (t s)) (d := d) (s := p) h1
      rw [← hd] at b
      omega
    · rw [if_neg h1]
      by_cases h2 : isd_ (t p) = true
      · rw [if_pos h2]
        have a := txr_le (P := fun s => isd_ (t s)) (z - p) p
        have b := txr_pos (P := fun s => isd_ (t s)) (d := d) (s := p) h2
        rw [← hd] at b
        omega
      · rw [if_neg h2]; omega
theorem wif_hit {s : List Nat} : ∀ (l : List (List Nat)) (j : Nat), (∀ i : Nat, i < j → l.getD i [] ≠ s) → j < l.length → l.getD j [] = s → wif_ s l = j := by
  intro l
  induction l with
  | nil => intro j _ h _; exact absurd h (Nat.not_lt_zero j)
  | cons w l ih =>
    intro j h1 h2 h3
    show (if w = s then 0 else wif_ s l + 1) = j
    cases j with
    | zero =>
      have h3 : w = s := h3
      rw [if_pos h3]
    | succ j =>
      have hw : ¬ w = s := h1 0 (by omega)
      rw [if_neg hw, ih j (fun i hi => h1 (i + 1) (by omega)) (by have : j + 1 < l.length + 1 := h2; omega) h3]
theorem wif_no {s : List Nat} : ∀ (l : List (List Nat)), (∀ i : Nat, i < l.length → l.getD i [] ≠ s) → wif_ s l = l.length := by
  intro l
  induction l with
  | nil => intro _; rfl
  | cons w l ih =>
    intro h
    show (if w = s then 0 else wif_ s l + 1) = l.length + 1
    have hw : ¬ w = s := h 0 (by show 0 < l.length + 1; omega)
    rw [if_neg hw, ih (fun i hi => h (i + 1) (by show i + 1 < l.length + 1; omega))]
theorem wif_at {s : List Nat} : ∀ (l : List (List Nat)), wif_ s l < l.length → l.getD (wif_ s l) [] = s := by
  intro l
  induction l with
  | nil => intro h; exact absurd h (Nat.not_lt_zero _)
  | cons w l ih =>
    intro h
    have h : (if w = s then 0 else wif_ s l + 1) < l.length + 1 := h
    show (w :: l).getD (if w = s then 0 else wif_ s l + 1) [] = s
    by_cases hw : w = s
    · rw [if_pos hw]; exact hw
    · rw [if_neg hw] at h ⊢
      exact ih (by omega)
theorem wif_nm {s : List Nat} : ∀ (l : List (List Nat)), l.length ≤ wif_ s l → ∀ i : Nat, i < l.length → l.getD i [] ≠ s := by
  intro l
  induction l with
  | nil => intro _ i hi; exact absurd hi (Nat.not_lt_zero i)
  | cons w l ih =>
    intro h i hi
    have h : l.length + 1 ≤ if w = s then 0 else wif_ s l + 1 := h
    by_cases hw : w = s
    · rw [if_pos hw] at h; omega
    · rw [if_neg hw] at h
      cases i with
      | zero => exact hw
      | succ i => exact ih (by omega) i (by have : i + 1 < l.length + 1 := hi; omega)
theorem seg_eq {a b : Nat} {w : List Nat} : seg_ t a b = w ↔ w.length = b - a ∧ ∀ m : Nat, m < b - a → t (a + m) = w.getD m 0 := by
  constructor
  · intro h
    subst h
    refine ⟨by simp [seg_], fun m hm => ?_⟩
    simp [seg_, hm]
  · rintro ⟨h1, h2⟩
    apply List.ext_getElem
    · simp [seg_, h1]
    · intro i h3 h4
      have h5 : i < b - a := by omega
      have h6 := h2 i h5
      rw [List.getD_eq_getElem?_getD, List.getElem?_eq_getElem h4] at h6
      simp only [seg_, List.getElem_map, List.getElem_range]
      exact h6
/-- which word of a text -/
theorem kw_ok : ∀ k : Fin 4, ∀ w : Fin 24, wif_ (wl_.getD w.val []) (kws_ k.val) = wjf_ w.val (kls_.getD k.val []) := by decide +kernel
theorem kw_in : ∀ k : Fin 4, ∀ j : Fin 17, j.val < (kws_ k.val).length → ∃ w : Fin 24, (kws_ k.val).getD j.val [] = wl_.getD w.val [] := by decide +kernel
theorem kw_len : ∀ k : Fin 4, (kws_ k.val).length ≤ 17 ∧ (kws_ k.val).length = (kls_.getD k.val []).length := by decide +kernel
theorem kw_wd {k : Nat} (hk : k < 4) {s : List Nat} : (wif_ s wl_ < 24 → wif_ s (kws_ k) = wjf_ (wif_ s wl_) (kls_.getD k [])) ∧ (24 ≤ wif_ s wl_ → wif_ s (kws_ k) = (kws_ k).length) := by
  refine ⟨fun h => ?_, fun h => ?_⟩
  · have h1 := wif_at wl_ h
    have h2 := kw_ok ⟨k, hk⟩ ⟨wif_ s wl_, h⟩
    rw [h1] at h2
    exact h2
  · apply wif_no
    intro i hi e
    have hl := (kw_len ⟨k, hk⟩).1
    obtain ⟨w, hw⟩ := kw_in ⟨k, hk⟩ ⟨i, by have : (kws_ k).length ≤ 17 := hl; omega⟩ hi
    have hw : (kws_ k).getD i [] = wl_.getD w.val [] := hw
    rw [e] at hw
    exact wif_nm wl_ h w.val w.isLt hw.symm
end TK
