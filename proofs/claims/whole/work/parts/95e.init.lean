/-! the beginning -/
set_option maxRecDepth 20000 in
theorem e_initM {F : Nat} {σ : nd_Mem} : ∃ ρ : nd_Mem, f_X11_init F σ = some (0, ρ) ∧ (∀ i : Nat, i < 134 → ρ 66 i = nI (iv_words.getD i 0)) ∧ ρ 60 = upd (σ 60) 30 (-1) ∧ (∀ i ∈ [61, 62, 63, 64, 65, 67, 68, 69, 70, 71, 72, 73, 74, 75, 76, 77, 78, 79, 80, 81, 82, 83, 84, 85, 86, 87, 88, 89, 90, 91, 92, 93, 94, 95, 96, 97, 98, 99], ρ i = fun _ => 0) ∧ ∀ i ∈ [0, 1, 2, 3, 4, 5, 6, 7, 8, 9, 10, 11, 13, 14, 15, 16, 17, 18, 19, 20, 21, 22, 23, 24, 38, 47, 51, 55, 59], ρ i = σ i := by
  refine ⟨_, rfl, ?_, ?_, ?_, ?_⟩
  · intro i hi
    match i, hi with
    | 0, _ => rfl
    | 1, _ => rfl
    | 2, _ => rfl
    | 3, _ => rfl
    | 4, _ => rfl
    | 5, _ => rfl
    | 6, _ => rfl
    | 7, _ => rfl
    | 8, _ => rfl
    | 9, _ => rfl
    | 10, _ => rfl
    | 11, _ => rfl
    | 12, _ => rfl
    | 13, _ => rfl
    | 14, _ => rfl
    | 15, _ => rfl
    | 16, _ => rfl
    | 17, _ => rfl
    | 18, _ => rfl
    | 19, _ => rfl
    | 20, _ => rfl
    | 21, _ => rfl
    | 22, _ => rfl
    | 23, _ => rfl
    | 24, _ => rfl
    | 25, _ => rfl
    | 26, _ => rfl
    | 27, _ => rfl
    | 28, _ => rfl
    | 29, _ => rfl
    | 30, _ => rfl
    | 31, _ => rfl
    | 32, _ => rfl
    | 33, _ => rfl
    | 34, _ => rfl
    | 35, _ => rfl
    | 36, _ => rfl
    | 37, _ => rfl
    | 38, _ => rfl
    | 39, _ => rfl
    | 40, _ => rfl
    | 41, _ => rfl
    | 42, _ => rfl
    | 43, _ => rfl
    | 44, _ => rfl
    | 45, _ => rfl
    | 46, _ => rfl
    | 47, _ => rfl
    | 48, _ => rfl
    | 49, _ => rfl
    | 50, _ => rfl
    | 51, _ => rfl
    | 52, _ => rfl
    | 53, _ => rfl
    | 54, _ => rfl
    | 55, _ => rfl
    | 56, _ => rfl
    | 57, _ => rfl
    | 58, _ => rfl
    | 59, _ => rfl
    | 60, _ => rfl
    | 61, _ => rfl
    | 62, _ => rfl
    | 63, _ => rfl
    | 64, _ => rfl
    | 65, _ => rfl
    | 66, _ => rfl
    | 67, _ => rfl
    | 68, _ => rfl
    | 69, _ => rfl
    | 70, _ => rfl
    | 71, _ => rfl
    | 72, _ => rfl
    | 73, _ => rfl
    | 74, _ => rfl
    | 75, _ => rfl
    | 76, _ => rfl
    | 77, _ => rfl
    | 78, _ => rfl
    | 79, _ => rfl
    | 80, _ => rfl
    | 81, _ => rfl
    | 82, _ => rfl
    | 83, _ => rfl
    | 84, _ => rfl
    | 85, _ => rfl
    | 86, _ => rfl
    | 87, _ => rfl
    | 88, _ => rfl
    | 89, _ => rfl
    | 90, _ => rfl
    | 91, _ => rfl
    | 92, _ => rfl
    | 93, _ => rfl
    | 94, _ => rfl
    | 95, _ => rfl
    | 96, _ => rfl
    | 97, _ => rfl
    | 98, _ => rfl
    | 99, _ => rfl
    | 100, _ => rfl
    | 101, _ => rfl
    | 102, _ => rfl
    | 103, _ => rfl
    | 104, _ => rfl
    | 105, _ => rfl
    | 106, _ => rfl
    | 107, _ => rfl
    | 108, _ => rfl
    | 109, _ => rfl
    | 110, _ => rfl
    | 111, _ => rfl
    | 112, _ => rfl
    | 113, _ => rfl
    | 114, _ => rfl
    | 115, _ => rfl
    | 116, _ => rfl
    | 117, _ => rfl
    | 118, _ => rfl
    | 119, _ => rfl
    | 120, _ => rfl
    | 121, _ => rfl
    | 122, _ => rfl
    | 123, _ => rfl
    | 124, _ => rfl
    | 125, _ => rfl
    | 126, _ => rfl
    | 127, _ => rfl
    | 128, _ => rfl
    | 129, _ => rfl
    | 130, _ => rfl
    | 131, _ => rfl
    | 132, _ => rfl
    | 133, _ => rfl
    | k + 134, h => exact absurd h (by omega)
  · rfl
  · intro i hi
    simp only [List.mem_cons, List.not_mem_nil, or_false] at hi
    rcases hi with rfl | rfl | rfl | rfl | rfl | rfl | rfl | rfl | rfl | rfl | rfl | rfl | rfl | rfl | rfl | rfl | rfl | rfl | rfl | rfl | rfl | rfl | rfl | rfl | rfl | rfl | rfl | rfl | rfl | rfl | rfl | rfl | rfl | rfl | rfl | rfl | rfl | rfl <;> rfl
  · intro i hi
    simp only [List.mem_cons, List.not_mem_nil, or_false] at hi
    rcases hi with rfl | rfl | rfl | rfl | rfl | rfl | rfl | rfl | rfl | rfl | rfl | rfl | rfl | rfl | rfl | rfl | rfl | rfl | rfl | rfl | rfl | rfl | rfl | rfl | rfl | rfl | rfl | rfl | rfl <;> rfl
/-! what a run of doors is worth -/
def W_ (j : Nat) : Nat := iv_worth.getD j 0
def lf_ (n : Nat) : Nat → Nat
  | 0 => 0
  | d + 1 => lf_ n d ||| 2 ^ (W_ (d - 2) ^^^ W_ (n - d - 3))
theorem W_le : ∀ j : Fin 19, W_ j.val ≤ 4 := by decide
section WRT
variable {F : Nat} {σ : nd_Mem} {n : Nat}
theorem e_wr {a c : Nat} (ha : a ≤ 18) (hc : c ≤ 18) (hs : ∀ j : Nat, j < n → σ 59 j = nI (W_ j)) (hac : a - c < n) : f_X7_worthOfRun F (nI a - nI c) σ = some (nI (W_ (a - c)), σ) := by
  unfold f_X7_worthOfRun f_X7_worthOfRun_19
  by_cases h : c < a
  · rw [n_sub (by omega), if_neg (nI_nle (by omega) (by omega)), if_neg (show ¬ (18 : Int32) < nI (a - c) from nI_nlt (a := 18) (by omega) (by omega)), if_neg (nI_in (by omega) (by decide)), nI_clamp (by omega), hs _ hac]
  · have hz : a - c = 0 := by omega
    rw [hz, sub_neg_ (by omega), if_pos (by
      by_cases h0 : c - a = 0
      · rw [h0]; decide
      · exact Int32.le_of_lt (neg_lt_ (by omega) (by omega)))]
    rfl
theorem e_lf (hn : n ≤ 18) (hs : ∀ j : Nat, j < n → σ 59 j = nI (W_ j)) : ∀ (k d f : Nat), d + k = n → k < f → f_X7_worthOf_4 F f (nI n) (nI (lf_ n d)) (nI d) σ = f_X7_worthOf_39 F F (nI (lf_ n n)) 0 σ := by
  intro k
  induction k with
  | zero =>
    intro d f hd hf
    obtain ⟨f, rfl⟩ : ∃ g, f = g + 1 := ⟨f - 1, by omega⟩
    have : d = n := by omega
    subst this
    show f_X7_worthOf_4_b F _ _ _ _ σ = _
    unfold f_X7_worthOf_4_b
    rw [if_pos (nI_le (Nat.le_refl d) (by omega))]
  | succ k ih =>
    intro d f hd hf
    obtain ⟨f, rfl⟩ : ∃ g, f = g + 1 := ⟨f - 1, by omega⟩
    have w1 := W_le ⟨d - 2, by omega⟩
    have w2 := W_le ⟨n - d - 3, by omega⟩
    have wx : W_ (d - 2) ^^^ W_ (n - d - 3) < 2 ^ 3 := Nat.xor_lt_two_pow (by dsimp only at w1; omega) (by dsimp only at w2; omega)
    show f_X7_worthOf_4_b F _ _ _ _ σ = _
    unfold f_X7_worthOf_4_b
    rw [if_neg (nI_ge (by omega) (by omega)), show (2 : Int32) = nI 2 from rfl, e_wr (n := n) (by omega) (by omega) hs (by omega), n_bind, n_sub (by omega), show (3 : Int32) = nI 3 from rfl, e_wr (n := n) (by omega) (by omega) hs (by omega), n_bind, n_xor, show (31 : Int32) = nI 31 from rfl, show (1 : Int32) = nI 1 from rfl, n_one (by omega), n_or, n_add]
    exact ih (d + 1) f (by omega) (by omega)
theorem e_mex {m w : Nat} (hm : m < 256) (hw : w < 31) (h1 : ∀ i : Nat, i < w → m.testBit i = true) (h2 : m.testBit w = false) : ∀ (d i f : Nat), i + d = w → d < f → f_X7_worthOf_39 F f (nI m) (nI i) σ = some (nI w, σ) := by
  intro d
  induction d with
  | zero =>
    intro i f hi hf
    obtain ⟨f, rfl⟩ : ∃ g, f = g + 1 := ⟨f - 1, by omega⟩
    have : i = w := by omega
    subst this
    show f_X7_worthOf_39_b F _ _ _ σ = _
    unfold f_X7_worthOf_39_b f_X7_worthOf_60
    have hb : ¬ ((nI m >>> (nI i &&& 31)) &&& (1 : Int32)) = 1 := by
      intro e
      have := (n_bit (k := i) (a := m) (by omega) (by omega)).mp e
      rw [h2] at this
      exact absurd this (by decide)
    rw [if_neg (show ¬ (31 : Int32) ≤ nI i from nI_ge (b := 31) hw (by decide)), if_neg hb]
  | succ d ih =>
    intro i f hi hf
    obtain ⟨f, rfl⟩ : ∃ g, f = g + 1 := ⟨f - 1, by omega⟩
    show f_X7_worthOf_39_b F _ _ _ σ = _
    unfold f_X7_worthOf_39_b
    have hb : ((nI m >>> (nI i &&& 31)) &&& (1 : Int32)) = 1 := (n_bit (k := i) (a := m) (by omega) (by omega)).mpr (h1 i (by omega))
    rw [if_neg (show ¬ (31 : Int32) ≤ nI i from nI_ge (b := 31) (by omega) (by decide)), if_pos hb, nI_1, ih (i + 1) f (by omega) (by omega)]
theorem W_ok : ∀ n : Fin 19, 0 < n.val → lf_ n.val n.val < 256 ∧ (∀ i : Fin 5, i.val < W_ n.val → (lf_ n.val n.val).testBit i.val = true) ∧ (lf_ n.val n.val).testBit (W_ n.val) = false := by decide +kernel
theorem e_worth (hF : 300000 ≤ F) (h0 : 0 < n) (hn : n ≤ 18) (hs : ∀ j : Nat, j < n → σ 59 j = nI (W_ j)) : f_X7_worthOf F (nI n) σ = some (nI (W_ n), σ) := by
  obtain ⟨a, b, c⟩ := W_ok ⟨n, by omega⟩ h0
  have hw := W_le ⟨n, by omega⟩
  dsimp only at a b c hw
  unfold f_X7_worthOf
  have := e_lf (F := F) (σ := σ) hn hs n 0 F (by omega) (by omega)
  rw [show (0 : Int32) = nI 0 from rfl]
  rw [show nI (lf_ n 0) = nI 0 from rfl] at this
  rw [this]
  exact e_mex a (by omega) (fun i hi => b ⟨i, by omega⟩ hi) c (W_ n) 0 F (by omega) (by omega)
end WRT
theorem e_worths {F : Nat} {σ : nd_Mem} (hF : 300000 ≤ F) : ∃ g : Nat → Int32, f_X7_init F σ = some (0, nd_row (nd_row σ 58 (fun _ => 0)) 59 g) ∧ ∀ j : Nat, j < 19 → g j = nI (W_ j) := by
  unfold f_X7_init
  rw [n_let, n_let]
  obtain ⟨β, hβ⟩ : ∃ x : nd_Mem, x = nd_row σ 58 (fun _ => 0) := ⟨_, rfl⟩
  rw [show nd_row σ (57 + 1) (fun _ => 0) = β from hβ.symm]
  obtain ⟨g0, hg0⟩ : ∃ g : Nat → Int32, g = fun _ => 0 := ⟨_, rfl⟩
  rw [← hg0]
  have p0 : ∀ j : Nat, j < 1 → g0 j = nI (W_ j) := fun j hj => by
    have : j = 0 := by omega
    subst this
    rw [hg0]
    rfl
  have e1 := e_worth (F := F) (σ := nd_row β 59 g0) (n := 1) hF (by decide) (by decide) (fun j hj => by rw [w_eq]; exact p0 j hj)
  obtain ⟨g1, hg1⟩ : ∃ g : Nat → Int32, g = upd g0 1 (nI (W_ 1)) := ⟨_, rfl⟩
  have p1 : ∀ j : Nat, j < 2 → g1 j = nI (W_ j) := fun j hj => by
    rw [hg1]
    by_cases h : j = 1
    · subst h; rw [upd_eq]
    · rw [upd_ne h]; exact p0 j (by omega)
  have e2 := e_worth (F := F) (σ := nd_row β 59 g1) (n := 2) hF (by decide) (by decide) (fun j hj => by rw [w_eq]; exact p1 j hj)
  obtain ⟨g2, hg2⟩ : ∃ g : Nat → Int32, g = upd g1 2 (nI (W_ 2)) := ⟨_, rfl⟩
  have p2 : ∀ j : Nat, j < 3 → g2 j = nI (W_ j) := fun j hj => by
    rw [hg2]
    by_cases h : j = 2
    · subst h; rw [upd_eq]
    · rw [upd_ne h]; exact p1 j (by omega)
  have e3 := e_worth (F := F) (σ := nd_row β 59 g2) (n := 3) hF (by decide) (by decide) (fun j hj => by rw [w_eq]; exact p2 j hj)
  obtain ⟨g3, hg3⟩ : ∃ g : Nat → Int32, g = upd g2 3 (nI (W_ 3)) := ⟨_, rfl⟩
  have p3 : ∀ j : Nat, j < 4 → g3 j = nI (W_ j) := fun j hj => by
    rw [hg3]
    by_cases h : j = 3
    · subst h; rw [upd_eq]
    · rw [upd_ne h]; exact p2 j (by omega)
  have e4 := e_worth (F := F) (σ := nd_row β 59 g3) (n := 4) hF (by decide) (by decide) (fun j hj => by rw [w_eq]; exact p3 j hj)
  obtain ⟨g4, hg4⟩ : ∃ g : Nat → Int32, g = upd g3 4 (nI (W_ 4)) := ⟨_, rfl⟩
  have p4 : ∀ j : Nat, j < 5 → g4 j = nI (W_ j) := fun j hj => by
    rw [hg4]
    by_cases h : j = 4
    · subst h; rw [upd_eq]
    · rw [upd_ne h]; exact p3 j (by omega)
  have e5 := e_worth (F := F) (σ := nd_row β 59 g4) (n := 5) hF (by decide) (by decide) (fun j hj => by rw [w_eq]; exact p4 j hj)
  obtain ⟨g5, hg5⟩ : ∃ g : Nat → Int32, g = upd g4 5 (nI (W_ 5)) := ⟨_, rfl⟩
  have p5 : ∀ j : Nat, j < 6 → g5 j = nI (W_ j) := fun j hj => by
    rw [hg5]
    by_cases h : j = 5
    · subst h; rw [upd_eq]
    · rw [upd_ne h]; exact p4 j (by omega)
  have e6 := e_worth (F := F) (σ := nd_row β 59 g5) (n := 6) hF (by decide) (by decide) (fun j hj => by rw [w_eq]; exact p5 j hj)
  obtain ⟨g6, hg6⟩ : ∃ g : Nat → Int32, g = upd g5 6 (nI (W_ 6)) := ⟨_, rfl⟩
  have p6 : ∀ j : Nat, j < 7 → g6 j = nI (W_ j) := fun j hj => by
    rw [hg6]
    by_cases h : j = 6
    · subst h; rw [upd_eq]
    · rw [upd_ne h]; exact p5 j (by omega)
  have e7 := e_worth (F := F) (σ := nd_row β 59 g6) (n := 7) hF (by decide) (by decide) (fun j hj => by rw [w_eq]; exact p6 j hj)
  obtain ⟨g7, hg7⟩ : ∃ g : Nat → Int32, g = upd g6 7 (nI (W_ 7)) := ⟨_, rfl⟩
  have p7 : ∀ j : Nat, j < 8 → g7 j = nI (W_ j) := fun j hj => by
    rw [hg7]
    by_cases h : j = 7
    · subst h; rw [upd_eq]
    · rw [upd_ne h]; exact p6 j (by omega)
  have e8 := e_worth (F := F) (σ := nd_row β 59 g7) (n := 8) hF (by decide) (by decide) (fun j hj => by rw [w_eq]; exact p7 j hj)
  obtain ⟨g8, hg8⟩ : ∃ g : Nat → Int32, g = upd g7 8 (nI (W_ 8)) := ⟨_, rfl⟩
  have p8 : ∀ j : Nat, j < 9 → g8 j = nI (W_ j) := fun j hj => by
    rw [hg8]
    by_cases h : j = 8
    · subst h; rw [upd_eq]
    · rw [upd_ne h]; exact p7 j (by omega)
  have e9 := e_worth (F := F) (σ := nd_row β 59 g8) (n := 9) hF (by decide) (by decide) (fun j hj => by rw [w_eq]; exact p8 j hj)
  obtain ⟨g9, hg9⟩ : ∃ g : Nat → Int32, g = upd g8 9 (nI (W_ 9)) := ⟨_, rfl⟩
  have p9 : ∀ j : Nat, j < 10 → g9 j = nI (W_ j) := fun j hj => by
    rw [hg9]
    by_cases h : j = 9
    · subst h; rw [upd_eq]
    · rw [upd_ne h]; exact p8 j (by omega)
  have e10 := e_worth (F := F) (σ := nd_row β 59 g9) (n := 10) hF (by decide) (by decide) (fun j hj => by rw [w_eq]; exact p9 j hj)
  obtain ⟨g10, hg10⟩ : ∃ g : Nat → Int32, g = upd g9 10 (nI (W_ 10)) := ⟨_, rfl⟩
  have p10 : ∀ j : Nat, j < 11 → g10 j = nI (W_ j) := fun j hj => by
    rw [hg10]
    by_cases h : j = 10
    · subst h; rw [upd_eq]
    · rw [upd_ne h]; exact p9 j (by omega)
  have e11 := e_worth (F := F) (σ := nd_row β 59 g10) (n := 11) hF (by decide) (by decide) (fun j hj => by rw [w_eq]; exact p10 j hj)
  obtain ⟨g11, hg11⟩ : ∃ g : Nat → Int32, g = upd g10 11 (nI (W_ 11)) := ⟨_, rfl⟩
  have p11 : ∀ j : Nat, j < 12 → g11 j = nI (W_ j) := fun j hj => by
    rw [hg11]
    by_cases h : j = 11
    · subst h; rw [upd_eq]
    · rw [upd_ne h]; exact p10 j (by omega)
  have e12 := e_worth (F := F) (σ := nd_row β 59 g11) (n := 12) hF (by decide) (by decide) (fun j hj => by rw [w_eq]; exact p11 j hj)
  obtain ⟨g12, hg12⟩ : ∃ g : Nat → Int32, g = upd g11 12 (nI (W_ 12)) := ⟨_, rfl⟩
  have p12 : ∀ j : Nat, j < 13 → g12 j = nI (W_ j) := fun j hj => by
    rw [hg12]
    by_cases h : j = 12
    · subst h; rw [upd_eq]
    · rw [upd_ne h]; exact p11 j (by omega)
  have e13 := e_worth (F := F) (σ := nd_row β 59 g12) (n := 13) hF (by decide) (by decide) (fun j hj => by rw [w_eq]; exact p12 j hj)
  obtain ⟨g13, hg13⟩ : ∃ g : Nat → Int32, g = upd g12 13 (nI (W_ 13)) := ⟨_, rfl⟩
  have p13 : ∀ j : Nat, j < 14 → g13 j = nI (W_ j) := fun j hj => by
    rw [hg13]
    by_cases h : j = 13
    · subst h; rw [upd_eq]
    · rw [upd_ne h]; exact p12 j (by omega)
  have e14 := e_worth (F := F) (σ := nd_row β 59 g13) (n := 14) hF (by decide) (by decide) (fun j hj => by rw [w_eq]; exact p13 j hj)
  obtain ⟨g14, hg14⟩ : ∃ g : Nat → Int32, g = upd g13 14 (nI (W_ 14)) := ⟨_, rfl⟩
  have p14 : ∀ j : Nat, j < 15 → g14 j = nI (W_ j) := fun j hj => by
    rw [hg14]
    by_cases h : j = 14
    · subst h; rw [upd_eq]
    · rw [upd_ne h]; exact p13 j (by omega)
  have e15 := e_worth (F := F) (σ := nd_row β 59 g14) (n := 15) hF (by decide) (by decide) (fun j hj => by rw [w_eq]; exact p14 j hj)
  obtain ⟨g15, hg15⟩ : ∃ g : Nat → Int32, g = upd g14 15 (nI (W_ 15)) := ⟨_, rfl⟩
  have p15 : ∀ j : Nat, j < 16 → g15 j = nI (W_ j) := fun j hj => by
    rw [hg15]
    by_cases h : j = 15
    · subst h; rw [upd_eq]
    · rw [upd_ne h]; exact p14 j (by omega)
  have e16 := e_worth (F := F) (σ := nd_row β 59 g15) (n := 16) hF (by decide) (by decide) (fun j hj => by rw [w_eq]; exact p15 j hj)
  obtain ⟨g16, hg16⟩ : ∃ g : Nat → Int32, g = upd g15 16 (nI (W_ 16)) := ⟨_, rfl⟩
  have p16 : ∀ j : Nat, j < 17 → g16 j = nI (W_ j) := fun j hj => by
    rw [hg16]
    by_cases h : j = 16
    · subst h; rw [upd_eq]
    · rw [upd_ne h]; exact p15 j (by omega)
  have e17 := e_worth (F := F) (σ := nd_row β 59 g16) (n := 17) hF (by decide) (by decide) (fun j hj => by rw [w_eq]; exact p16 j hj)
  obtain ⟨g17, hg17⟩ : ∃ g : Nat → Int32, g = upd g16 17 (nI (W_ 17)) := ⟨_, rfl⟩
  have p17 : ∀ j : Nat, j < 18 → g17 j = nI (W_ j) := fun j hj => by
    rw [hg17]
    by_cases h : j = 17
    · subst h; rw [upd_eq]
    · rw [upd_ne h]; exact p16 j (by omega)
  have e18 := e_worth (F := F) (σ := nd_row β 59 g17) (n := 18) hF (by decide) (by decide) (fun j hj => by rw [w_eq]; exact p17 j hj)
  obtain ⟨g18, hg18⟩ : ∃ g : Nat → Int32, g = upd g17 18 (nI (W_ 18)) := ⟨_, rfl⟩
  have p18 : ∀ j : Nat, j < 19 → g18 j = nI (W_ j) := fun j hj => by
    rw [hg18]
    by_cases h : j = 18
    · subst h; rw [upd_eq]
    · rw [upd_ne h]; exact p17 j (by omega)
  refine ⟨g18, ?_, p18⟩
  show nd_bind (f_X7_worthOf F (nI 1) (nd_row β 59 g0)) _ = _
  rw [e1, n_bind, n_let, show (1 : Int32).toNatClampNeg = 1 by decide, show (57 + 2 : Nat) = 59 from rfl, up_row, ← hg1]
  show nd_bind (f_X7_worthOf F (nI 2) (nd_row β 59 g1)) _ = _
  rw [e2, n_bind, n_let, show (2 : Int32).toNatClampNeg = 2 by decide, up_row, ← hg2]
  show nd_bind (f_X7_worthOf F (nI 3) (nd_row β 59 g2)) _ = _
  rw [e3, n_bind, n_let, show (3 : Int32).toNatClampNeg = 3 by decide, up_row, ← hg3]
  show nd_bind (f_X7_worthOf F (nI 4) (nd_row β 59 g3)) _ = _
  rw [e4, n_bind, n_let, show (4 : Int32).toNatClampNeg = 4 by decide, up_row, ← hg4]
  show nd_bind (f_X7_worthOf F (nI 5) (nd_row β 59 g4)) _ = _
  rw [e5, n_bind, n_let, show (5 : Int32).toNatClampNeg = 5 by decide, up_row, ← hg5]
  show nd_bind (f_X7_worthOf F (nI 6) (nd_row β 59 g5)) _ = _
  rw [e6, n_bind, n_let, show (6 : Int32).toNatClampNeg = 6 by decide, up_row, ← hg6]
  show nd_bind (f_X7_worthOf F (nI 7) (nd_row β 59 g6)) _ = _
  rw [e7, n_bind, n_let, show (7 : Int32).toNatClampNeg = 7 by decide, up_row, ← hg7]
  show nd_bind (f_X7_worthOf F (nI 8) (nd_row β 59 g7)) _ = _
  rw [e8, n_bind, n_let, show (8 : Int32).toNatClampNeg = 8 by decide, up_row, ← hg8]
  show nd_bind (f_X7_worthOf F (nI 9) (nd_row β 59 g8)) _ = _
  rw [e9, n_bind, n_let, show (9 : Int32).toNatClampNeg = 9 by decide, up_row, ← hg9]
  show nd_bind (f_X7_worthOf F (nI 10) (nd_row β 59 g9)) _ = _
  rw [e10, n_bind, n_let, show (10 : Int32).toNatClampNeg = 10 by decide, up_row, ← hg10]
  show nd_bind (f_X7_worthOf F (nI 11) (nd_row β 59 g10)) _ = _
  rw [e11, n_bind, n_let, show (11 : Int32).toNatClampNeg = 11 by decide, up_row, ← hg11]
  show nd_bind (f_X7_worthOf F (nI 12) (nd_row β 59 g11)) _ = _
  rw [e12, n_bind, n_let, show (12 : Int32).toNatClampNeg = 12 by decide, up_row, ← hg12]
  show nd_bind (f_X7_worthOf F (nI 13) (nd_row β 59 g12)) _ = _
  rw [e13, n_bind, n_let, show (13 : Int32).toNatClampNeg = 13 by decide, up_row, ← hg13]
  show nd_bind (f_X7_worthOf F (nI 14) (nd_row β 59 g13)) _ = _
  rw [e14, n_bind, n_let, show (14 : Int32).toNatClampNeg = 14 by decide, up_row, ← hg14]
  show nd_bind (f_X7_worthOf F (nI 15) (nd_row β 59 g14)) _ = _
  rw [e15, n_bind, n_let, show (15 : Int32).toNatClampNeg = 15 by decide, up_row, ← hg15]
  show nd_bind (f_X7_worthOf F (nI 16) (nd_row β 59 g15)) _ = _
  rw [e16, n_bind, n_let, show (16 : Int32).toNatClampNeg = 16 by decide, up_row, ← hg16]
  show nd_bind (f_X7_worthOf F (nI 17) (nd_row β 59 g16)) _ = _
  rw [e17, n_bind, n_let, show (17 : Int32).toNatClampNeg = 17 by decide, up_row, ← hg17]
  show nd_bind (f_X7_worthOf F (nI 18) (nd_row β 59 g17)) _ = _
  rw [e18, n_bind, n_let, show (18 : Int32).toNatClampNeg = 18 by decide, up_row, ← hg18]
theorem i_6 {F b : Nat} {σ : nd_Mem} : f_X6_init F b σ = some (0, nd_up (nd_row σ (b + 1) (fun _ => 0)) (b + 0) 2 (-1)) := rfl
theorem i_4 {F b : Nat} {σ : nd_Mem} : f_X4_init F b σ = some (0, nd_up (nd_row σ (b + 1) (fun _ => 0)) (b + 0) 1 0) := rfl
theorem i_9 {F b p1 p2 p3 : Nat} {σ : nd_Mem} : f_X9_init F b p1 p2 p3 0 σ = some (0, nd_row (nd_up σ (b + 0) 3 0) (b + 1) (fun _ => 0)) := by
  unfold f_X9_init
  rw [if_neg (by decide)]
  rfl
theorem i_9' {F b p1 p2 p3 : Nat} {σ : nd_Mem} : f_X9_init F b p1 p2 p3 1 σ = some (0, nd_row (nd_up σ (b + 0) 3 1) (b + 1) (fun _ => 0)) := by
  unfold f_X9_init
  rw [if_neg (by decide)]
  rfl
theorem i_5 {F b : Nat} {σ : nd_Mem} : ∃ τ : nd_Mem, f_X5_init F b σ = some (0, τ) ∧ τ = nd_row (nd_up (nd_row (nd_row (nd_up (nd_row (nd_row (nd_up (nd_row (nd_row σ (b + 1) (fun _ => 0)) (b + 1 + 1) (fun _ => 0)) (b + 1 + 0) 1 0) (b + 3) (fun _ => 0)) (b + 3 + 1) (fun _ => 0)) (b + 3 + 0) 1 0) (b + 5) (fun _ => 0)) (b + 5 + 1) (fun _ => 0)) (b + 5 + 0) 1 0) (b + 7) (fun _ => 0) := ⟨_, rfl, rfl⟩
/-- a cell that holds nothing but one number -/
abbrev one_ (k : Nat) (v : Int32) : Nat → Int32 := upd (fun _ => 0) k v
theorem e_rules {F : Nat} {σ : nd_Mem} : ∃ τ : nd_Mem, f_X5_init F 3 (nd_row σ 3 (fun _ => 0)) = some (0, τ) ∧ fr_ [3, 4, 5, 6, 7, 8, 9, 10] [] σ τ ∧ τ 3 = (fun _ => 0) ∧ (τ 4 1 = 0 ∧ τ 6 1 = 0 ∧ τ 8 1 = 0) ∧ τ 10 = fun _ => 0 := by
  refine ⟨_, rfl, ?_, rfl, ⟨rfl, rfl, rfl⟩, rfl⟩
  exact (by repeat first | exact fr_rf | (refine fr_up57 ?_ (by decide)) | (refine fr_up ?_ (by decide) (by decide)) | (refine fr_row ?_ (by decide) (by decide)))
theorem e_toldI {F : Nat} {σ : nd_Mem} (hF : 300000 ≤ F) : ∃ τ : nd_Mem, f_X8_init F 12 σ = some (0, τ) ∧ fr_ [13, 14, 15, 16, 17, 18, 19, 20, 21, 22, 23] [] σ τ ∧ (τ 13 1 = 0 ∧ τ 15 1 = 0 ∧ τ 17 1 = 0 ∧ τ 19 1 = 0 ∧ τ 21 1 = 0) ∧ ∀ k : Nat, k < 10 → τ 23 k = -1 := by
  unfold f_X8_init
  simp only [n_let, i_4, n_bind]
  obtain ⟨g, e1, e2, _⟩ := e_fill (F := F) (σ := _) (a := 12 + 11) (n := 10) (v := -1) hF (by decide)
  rw [e1]
  refine ⟨_, rfl, ?_, ⟨rfl, rfl, rfl, rfl, rfl⟩, fun k hk => e2 k hk⟩
  exact (by repeat first | exact fr_rf | (refine fr_up57 ?_ (by decide)) | (refine fr_up ?_ (by decide) (by decide)) | (refine fr_row ?_ (by decide) (by decide)))
theorem e_pastI {F : Nat} {σ : nd_Mem} : ∃ τ : nd_Mem, f_X1_init F 24 σ = some (0, τ) ∧ fr_ [26, 27, 28, 29, 30, 31, 32, 33, 34, 35, 36, 37] [] σ τ := by
  refine ⟨_, rfl, ?_⟩
  exact (by repeat first | exact fr_rf | (refine fr_up57 ?_ (by decide)) | (refine fr_up ?_ (by decide) (by decide)) | (refine fr_row ?_ (by decide) (by decide)))
theorem e_readI {F : Nat} {σ : nd_Mem} : ∃ τ : nd_Mem, f_X3_init F 38 (nd_row σ 38 (fun _ => 0)) = some (0, τ) ∧ fr_ [38, 39, 40, 41, 42, 43, 44, 45, 46, 47, 48, 49, 50] [] σ τ ∧ τ 38 = one_ 4 (-1) := by
  refine ⟨_, rfl, ?_, rfl⟩
  exact (by repeat first | exact fr_rf | (refine fr_up57 ?_ (by decide)) | (refine fr_up ?_ (by decide) (by decide)) | (refine fr_row ?_ (by decide) (by decide)))
theorem e_initC {F : Nat} (hF : 300000 ≤ F) : ∃ τ : nd_Mem, f_X10_init F (nd_row (fun _ _ => 0) 0 (fun _ => 0)) = some (0, τ) ∧ τ 0 10 = 0 ∧ τ 1 = one_ 2 (-1) ∧ τ 3 = (fun _ => 0) ∧ (τ 4 1 = 0 ∧ τ 6 1 = 0 ∧ τ 8 1 = 0) ∧ τ 10 = (fun _ => 0) ∧ τ 11 = (fun _ => 0) ∧ (τ 13 1 = 0 ∧ τ 15 1 = 0 ∧ τ 17 1 = 0 ∧ τ 19 1 = 0 ∧ τ 21 1 = 0) ∧ (∀ k : Nat, k < 10 → τ 23 k = -1) ∧ τ 24 = (fun _ => 0) ∧ τ 38 = one_ 4 (-1) ∧ τ 51 3 = 0 ∧ τ 55 3 = 1 ∧ ∀ j : Nat, j < 19 → τ 59 j = nI (W_ j) := by
  obtain ⟨z, hz⟩ : ∃ z : nd_Mem, z = nd_row (fun _ _ => 0) 0 (fun _ => 0) := ⟨_, rfl⟩
  have z0 : z 0 10 = 0 := by rw [hz]; rfl
  obtain ⟨t1, h1⟩ : ∃ t : nd_Mem, t = nd_up (nd_row (nd_row z 1 (fun _ => 0)) 2 (fun _ => 0)) 1 2 (-1) := ⟨_, rfl⟩
  obtain ⟨t2, a1, a2, a3, a4, a5⟩ := e_rules (F := F) (σ := t1)
  obtain ⟨t3, h3⟩ : ∃ t : nd_Mem, t = nd_row (nd_row t2 11 (fun _ => 0)) 12 (fun _ => 0) := ⟨_, rfl⟩
  obtain ⟨t4, b1, b2, b3, b4⟩ := e_toldI (F := F) (σ := t3) hF
  obtain ⟨t5, c1, c2⟩ := e_pastI (F := F) (σ := nd_row t4 24 (fun _ => 0))
  obtain ⟨t6, d1, d2, d3⟩ := e_readI (F := F) (σ := t5)
  obtain ⟨t7, h7⟩ : ∃ t : nd_Mem, t = nd_row (nd_up (nd_row t6 51 (fun _ => 0)) 51 3 0) 52 (fun _ => 0) := ⟨_, rfl⟩
  obtain ⟨t8, h8⟩ : ∃ t : nd_Mem, t = nd_up (nd_row (nd_row t7 53 (fun _ => 0)) 54 (fun _ => 0)) 53 2 (-1) := ⟨_, rfl⟩
  obtain ⟨t9, h9⟩ : ∃ t : nd_Mem, t = nd_row (nd_up (nd_row t8 55 (fun _ => 0)) 55 3 1) 56 (fun _ => 0) := ⟨_, rfl⟩
  obtain ⟨g, w1, w2⟩ := e_worths (F := F) (σ := nd_row t9 57 (fun _ => 0)) hF
  have n9 : ∀ i : Nat, i < 57 → (nd_row (nd_row (nd_row t9 57 (fun _ => 0)) 58 (fun _ => 0)) 59 g) i = t9 i := fun i hi => by rw [nd_row_ne (by omega), nd_row_ne (by omega), nd_row_ne (by omega)]
  have n8 : ∀ i : Nat, i < 55 → t9 i = t8 i := fun i hi => by rw [h9, nd_row_ne (by omega), nd_up_ne (by omega), nd_row_ne (by omega)]
  have n7 : ∀ i : Nat, i < 53 → t8 i = t7 i := fun i hi => by rw [h8, nd_up_ne (by omega), nd_row_ne (by omega), nd_row_ne (by omega)]
  have n6 : ∀ i : Nat, i < 48 → t7 i = t6 i := fun i hi => by rw [h7, nd_row_ne (by omega), nd_up_ne (by omega), nd_row_ne (by omega)]
  have n5 : ∀ i : Nat, i < 38 → t6 i = t5 i := fun i hi => d2.1 i (by simp only [List.mem_cons, List.not_mem_nil, or_false]; omega) (by omega)
  have n4 : ∀ i : Nat, i < 24 → t5 i = t4 i := fun i hi => by rw [c2.1 i (by simp only [List.mem_cons, List.not_mem_nil, or_false]; omega) (by omega), nd_row_ne (by omega)]
  have m4 : ∀ i : Nat, i < 24 → (nd_row (nd_row (nd_row t9 57 (fun _ => 0)) 58 (fun _ => 0)) 59 g) i = t4 i := fun i hi => by rw [n9 i (by omega), n8 i (by omega), n7 i (by omega), n6 i (by omega), n5 i (by omega), n4 i hi]
  have n3 : ∀ i : Nat, i < 13 → t4 i = t3 i := fun i hi => b2.1 i (by simp only [List.mem_cons, List.not_mem_nil, or_false]; omega) (by omega)
  have n2 : ∀ i : Nat, i < 11 → t3 i = t2 i := fun i hi => by rw [h3, nd_row_ne (by omega), nd_row_ne (by omega)]
  have n1 : ∀ i : Nat, i < 3 → t2 i = t1 i := fun i hi => a2.1 i (by simp only [List.mem_cons, List.not_mem_nil, or_false]; omega) (by omega)
  have f0 : (nd_row (nd_row (nd_row t9 57 (fun _ => 0)) 58 (fun _ => 0)) 59 g) 0 10 = 0 := by
    rw [m4 0 (by decide), n3 0 (by decide), n2 0 (by decide), n1 0 (by decide), h1, u_ne1 (by decide), w_ne (by decide), w_ne (by decide)]
    exact z0
  refine ⟨nd_row (nd_row (nd_row t9 57 (fun _ => 0)) 58 (fun _ => 0)) 59 g, ?_, f0, ?_, ?_, ⟨?_, ?_, ?_⟩, ?_, ?_, ⟨?_, ?_, ?_, ?_, ?_⟩, fun k hk => ?_, ?_, ?_, ?_, ?_, fun j hj => ?_⟩
  · rw [← hz]
    unfold f_X10_init
    rw [n_let, i_6, n_bind, n_let]
    show nd_bind (f_X5_init F 3 (nd_row (nd_up (nd_row (nd_row z 1 (fun _ => 0)) 2 (fun _ => 0)) 1 2 (-1)) 3 (fun _ => 0))) _ = _
    rw [← h1, a1, n_bind, n_let, n_let]
    show nd_bind (f_X8_init F 12 (nd_row (nd_row t2 11 (fun _ => 0)) 12 (fun _ => 0))) _ = _
    rw [← h3, b1, n_bind, n_let]
    show nd_bind (f_X1_init F 24 (nd_row t4 24 (fun _ => 0))) _ = _
    rw [c1, n_bind, n_let]
    show nd_bind (f_X3_init F 38 (nd_row t5 38 (fun _ => 0))) _ = _
    rw [d1, n_bind, n_let, i_9, n_bind, n_let]
    show nd_bind (f_X6_init F 53 (nd_row (nd_row (nd_up (nd_row t6 51 (fun _ => 0)) 51 3 0) 52 (fun _ => 0)) 53 (fun _ => 0))) _ = _
    rw [← h7, i_6, n_bind, n_let, i_9', n_bind, n_let]
    show nd_bind (f_X7_init F (nd_row (nd_row (nd_up (nd_row (nd_up (nd_row (nd_row t7 53 (fun _ => 0)) 54 (fun _ => 0)) 53 2 (-1)) 55 (fun _ => 0)) 55 3 1) 56 (fun _ => 0)) 57 (fun _ => 0))) _ = _
    rw [← h8, ← h9, w1, n_bind, if_neg (fun e => e f0)]
  · rw [m4 1 (by decide), n3 1 (by decide), n2 1 (by decide), n1 1 (by decide), h1, nd_up_at, nd_row_ne (by decide), nd_row_at]
  · rw [m4 3 (by decide), n3 3 (by decide), n2 3 (by decide)]
    exact a3
  · rw [m4 4 (by decide), n3 4 (by decide), n2 4 (by decide)]
    exact a4.1
  · rw [m4 6 (by decide), n3 6 (by decide), n2 6 (by decide)]
    exact a4.2.1
  · rw [m4 8 (by decide), n3 8 (by decide), n2 8 (by decide)]
    exact a4.2.2
  · rw [m4 10 (by decide), n3 10 (by decide), n2 10 (by decide)]
    exact a5
  · rw [m4 11 (by decide), n3 11 (by decide), h3, nd_row_ne (by decide), nd_row_at]
  · rw [m4 13 (by decide)]; exact b3.1
  · rw [m4 15 (by decide)]; exact b3.2.1
  · rw [m4 17 (by decide)]; exact b3.2.2.1
  · rw [m4 19 (by decide)]; exact b3.2.2.2.1
  · rw [m4 21 (by decide)]; exact b3.2.2.2.2
  · rw [m4 23 (by decide)]; exact b4 k hk
  · rw [n9 24 (by decide), n8 24 (by decide), n7 24 (by decide), n6 24 (by decide), n5 24 (by decide), c2.1 24 (by decide) (by decide), nd_row_at]
  · rw [n9 38 (by decide), n8 38 (by decide), n7 38 (by decide), n6 38 (by decide)]
    exact d3
  · rw [n9 51 (by decide), n8 51 (by decide), n7 51 (by decide), h7, w_ne (by decide), u_eq]
  · rw [n9 55 (by decide), h9, w_ne (by decide), u_eq]
  · rw [w_eq]; exact w2 j hj
theorem law_init {F : Nat} (hF : 300000 ≤ F) : ∃ (r s : Int32) (τ ρ : nd_Mem), f_X10_init F (nd_row (fun _ _ => 0) 0 (fun _ => 0)) = some (r, τ) ∧ f_X11_init F (nd_row τ 60 (fun _ => 0)) = some (s, ρ) ∧ iv_I 0 ρ ∧ ρ 0 10 = 0 := by
  obtain ⟨τ, e1, t0, t1, t3, ⟨t4, t6, t8⟩, t10, t11, ⟨t13, t15, t17, t19, t21⟩, t23, t24, t38, t48, t52, t56⟩ := e_initC (F := F) hF
  obtain ⟨ρ, e2, m63, m57, mz, mc⟩ := e_initM (F := F) (σ := nd_row τ 60 (fun _ => 0))
  have c : ∀ i ∈ [0, 1, 2, 3, 4, 5, 6, 7, 8, 9, 10, 11, 13, 14, 15, 16, 17, 18, 19, 20, 21, 22, 23, 24, 38, 47, 51, 55, 59], ρ i = τ i := fun i hi => by
    rw [mc i hi, nd_row_ne (by
      intro e
      rw [e] at hi
      exact absurd hi (by decide))]
  have s57 : ∀ j : Nat, j ≠ 30 → ρ 60 j = 0 := fun j hj => by
    rw [m57, upd_ne hj, w_eq]
  have z : ∀ (i : Nat) (k : Nat), i ∈ [61, 62, 63, 64, 65, 67, 68, 69, 70, 71, 72, 73, 74, 75, 76, 77, 78, 79, 80, 81, 82, 83, 84, 85, 86, 87, 88, 89, 90, 91, 92, 93, 94, 95, 96, 97, 98, 99] → ρ i k = 0 := fun i k hi => by rw [mz i hi]
  refine ⟨0, 0, τ, ρ, e1, e2, ⟨⟨⟨by omega, s57 6 (by decide)⟩, ?_, ?_, ?_, ?_, ?_, ?_, ?_, ?_, ?_, ?_, ?_, ?_⟩, ?_, ?_, ?_, ?_⟩, ?_⟩
  · exact ⟨0, by omega, by rw [c 13 (by decide)]; exact t13, s57 40 (by decide), fun i hi => absurd hi (Nat.not_lt_zero i)⟩
  · refine ⟨[], by simp, by rw [c 15 (by decide)]; exact t15, s57 45 (by decide), fun i x hx => by simp at hx, fun x hx => ⟨⟨0, by omega, z 85 x (by decide), fun y => by simp⟩, ⟨0, by omega, z 86 x (by decide), fun y => by simp⟩, ⟨0, by omega, z 87 x (by decide), fun y => by simp⟩⟩⟩
  · exact ⟨0, by omega, by rw [c 17 (by decide)]; exact t17, s57 50 (by decide), fun i hi => absurd hi (Nat.not_lt_zero i)⟩
  · exact ⟨0, by omega, by rw [c 19 (by decide)]; exact t19, s57 54 (by decide), fun i hi => absurd hi (Nat.not_lt_zero i)⟩
  · exact ⟨0, by omega, by rw [c 21 (by decide)]; exact t21, s57 61 (by decide), fun i hi => absurd hi (Nat.not_lt_zero i)⟩
  · intro i hi
    left
    exact ⟨by rw [c 23 (by decide)]; exact t23 i hi, z 95 i (by decide)⟩
  · show iv_S (ρ 1) (ρ 2) (ρ 61) 0
    rw [c 1 (by decide), t1]
    refine ⟨rfl, by rw [z 61 3 (by decide)]; rfl, by rw [z 61 4 (by decide)]; rfl, by rw [z 61 5 (by decide)]; rfl, by rw [z 61 0 (by decide)]; rfl, by rw [z 61 1 (by decide)]; rfl, by rw [z 61 2 (by decide)]; rfl, by rw [z 61 2 (by decide)]; decide, fun _ => ⟨rfl, z 61 6 (by decide)⟩, fun h => absurd h (Nat.lt_irrefl 0), fun h hh => absurd hh (Nat.not_lt_zero h)⟩
  · intro i hi
    rw [c 11 (by decide), t11, z 64 i (by decide)]
  · exact ⟨0, 0, by omega, by omega, by rw [c 4 (by decide)]; exact t4, by rw [c 6 (by decide)]; exact t6, z 67 0 (by decide), fun l hl => absurd hl (Nat.not_lt_zero l), fun i hi => absurd hi (Nat.not_lt_zero i)⟩
  · exact ⟨0, by omega, by rw [c 8 (by decide)]; exact t8, s57 31 (by decide), fun j hj => absurd hj (Nat.not_lt_zero j)⟩
  · refine ⟨by rw [c 3 (by decide), t3, s57 33 (by decide)], fun h hh => ⟨0, by omega, by rw [c 10 (by decide), t10]; rfl, z 76 h (by decide)⟩⟩
  · refine ⟨by rw [c 3 (by decide), t3, s57 35 (by decide)], 0, by omega, by rw [c 3 (by decide), t3]; rfl, fun h hh => by rw [z 77 h (by decide), Nat.zero_testBit]; rfl⟩
  · exact ⟨0, 0, by omega, by omega, by rw [c 24 (by decide), t24]; rfl, s57 3 (by decide), by rw [c 24 (by decide), t24]; rfl, fun j hj => absurd hj (Nat.not_lt_zero j)⟩
  · refine ⟨by rw [c 38 (by decide), t38, s57 29 (by decide)]; rfl, by rw [c 38 (by decide), t38, m57, upd_eq]; rfl, 0, by omega, by rw [c 38 (by decide), t38]; rfl, s57 9 (by decide), fun i hi => absurd hi (Nat.not_lt_zero i)⟩
  · left
    exact ⟨by rw [c 0 (by decide)]; exact t0, s57 66 (by decide)⟩
  · refine ⟨fun i hi => ?_, m63, by rw [c 51 (by decide)]; exact t48, by rw [c 55 (by decide)]; exact t52, s57 5 (by decide)⟩
    rw [c 59 (by decide)]
    exact t56 i hi
  · rw [c 0 (by decide)]; exact t0
