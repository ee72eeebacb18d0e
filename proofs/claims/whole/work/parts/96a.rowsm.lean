/-! rows: the reference's loops -/
section RL
variable {F n w : Nat} {σ : nd_Mem} {okq : Nat → Nat → Nat → Bool} {fs : Nat → Bool}
theorem ix9 (S l : Nat) : (9 : Int32) * nI S + nI l = nI (9 * S + l) := by
  rw [show (9 : Int32) = nI 9 from rfl, n_mul, n_add]
theorem p9_ (hn : n ≤ 9) : 2 ^ n ≤ 512 := (Nat.pow_le_pow_right (by decide) hn : 2 ^ n ≤ 2 ^ 9)
def cs_ok (F n w : Nat) (σ : nd_Mem) (okq : Nat → Nat → Nat → Bool) : Prop := ∀ (x S l : Nat) (g : Nat → Int32), x < n → l < n → S < 2 ^ n → f_X11_canStand F (nI x) (nI S) (nI l) (nI (2 ^ n - 1)) (nI w) (nd_row σ 88 g) = some (if okq x S l = true then 1 else 0, nd_row σ 88 g)
theorem mr_143 (hn : n ≤ 9) (hcan : cs_ok F n w σ okq) {rec110 : Int32 → Int32 → Int32 → Int32 → nd_Mem → nd_Res} {rec119 : Int32 → Int32 → Int32 → Int32 → Int32 → nd_Mem → nd_Res} {S l : Nat} (hS : S < 2 ^ n) (hl : l < n) : ∀ (d x f v : Nat) (g : Nat → Int32) (T : Nat → Nat → Nat), x + d = n → d < f → tb_ n g T → iT_ okq fs n T S l x → T S l = v → ∃ (g' : Nat → Int32) (T' : Nat → Nat → Nat), f_X11_rows_143 F rec110 rec119 f (nI n) (nI w) (nI (2 ^ n - 1)) (nI S) (nI l) (nI v) (nI x) (nd_row σ 88 g) = rec119 (nI n) (nI w) (nI (2 ^ n - 1)) (nI S) (nI (l + 1)) (nd_row σ 88 g') ∧ tb_ n g' T' ∧ iT_ okq fs n T' S (l + 1) 0 := by
  have h9 := p9_ hn
  intro d
  induction d with
  | zero =>
    intro x f v g T hx hf ht hi hv
    obtain ⟨f, rfl⟩ : ∃ g, f = g + 1 := ⟨f - 1, by omega⟩
    refine ⟨g, T, ?_, ht, iT_l hi (by omega)⟩
    show f_X11_rows_143_b F rec110 rec119 _ _ _ _ _ _ _ _ _ = _
    unfold f_X11_rows_143_b f_X11_rows_225
    rw [if_pos (nI_le (by omega) (by omega)), nI_1]
  | succ d ih =>
    intro x f v g T hx hf ht hi hv
    obtain ⟨f, rfl⟩ : ∃ g, f = g + 1 := ⟨f - 1, by omega⟩
    have hvb : v ≤ 1000000000 := by
      rw [← hv]
      exact Nat.le_trans (iT_le hn hi S (Nat.le_refl S) hS l hl) (Nat.pow_le_pow_right (by decide) (bs_k S 9) : 10 ^ bs_ S 9 ≤ 10 ^ 9)
    show ∃ (g' : Nat → Int32) (T' : Nat → Nat → Nat), f_X11_rows_143_b F rec110 rec119 _ _ _ _ _ _ _ _ _ = _ ∧ _ ∧ _
    unfold f_X11_rows_143_b
    rw [if_neg (nI_ge (by omega) (by omega))]
    by_cases hv0 : v = 0
    · refine ⟨g, T, ?_, ht, iT_z hi (by rw [hv]; exact hv0)⟩
      rw [hv0, if_pos (show nI 0 ≤ (0 : Int32) by decide)]
      unfold f_X11_rows_225
      rw [nI_1]
    · rw [if_neg (show ¬ nI v ≤ (0 : Int32) from nI_ge (a := 0) (by omega) (by omega)), hs_bit (by omega) (by omega), n_bind]
      by_cases hb : S.testBit x = true
      · rw [if_pos hb, if_neg n10]
        unfold f_X11_rows_219
        rw [nI_1]
        exact ih (x + 1) f v g T (by omega) (by omega) ht (iT_no hi (Or.inl hb)) hv
      · have hb' : S.testBit x = false := by
          cases hh : S.testBit x
          · rfl
          · exact absurd hh hb
        rw [if_neg hb, if_pos rfl, hcan x S l g (by omega) hl hS, n_bind]
        by_cases ho : okq x S l = true
        · have hlt : S ||| 2 ^ x < 2 ^ n := Nat.or_lt_two_pow hS (Nat.pow_lt_pow_right (by decide) (by omega))
          rw [if_pos ho, if_neg n10, show nI S ||| ((1 : Int32) <<< (nI x &&& 31)) = nI (S ||| 2 ^ x) by rw [show (1 : Int32) <<< (nI x &&& 31) = nI (2 ^ x) from n_one (by omega), n_or], ix9, if_neg (nI_in (by omega) (by decide)), if_neg (nI_in (by omega) (by decide)), nI_clamp (by omega), n_let, w_eq, up_row, ht _ x hlt (by omega), n_add]
          unfold f_X11_rows_219
          rw [nI_1]
          refine ih (x + 1) f v _ (fun s y => if s = (S ||| 2 ^ x) ∧ y = x then T s y + T S l else T s y) (by omega) (by omega) ?_ (iT_add hi (by omega) hb' ho) ?_
          · intro s y hs hy
            show upd g (9 * (S ||| 2 ^ x) + x) (nI (T (S ||| 2 ^ x) x + v)) (9 * s + y) = nI (if s = (S ||| 2 ^ x) ∧ y = x then T s y + T S l else T s y)
            by_cases hc : s = (S ||| 2 ^ x) ∧ y = x
            · rw [if_pos hc, hc.1, hc.2, upd_eq, hv]
            · rw [if_neg hc, upd_ne (fun e => hc ⟨by omega, by omega⟩)]
              exact ht s y hs hy
          · show (if S = (S ||| 2 ^ x) ∧ l = x then T S l + T S l else T S l) = v
            have hgt := or_gt hb'
            rw [if_neg (fun e => by omega)]
            exact hv
        · rw [if_neg ho, if_pos rfl]
          unfold f_X11_rows_219
          rw [nI_1]
          exact ih (x + 1) f v g T (by omega) (by omega) ht (iT_no hi (Or.inr (by
            cases hh : okq x S l
            · rfl
            · exact absurd hh ho))) hv
theorem mr_119 (hF : 300000 ≤ F) (hn : n ≤ 9) (hcan : cs_ok F n w σ okq) {rec110 : Int32 → Int32 → Int32 → Int32 → nd_Mem → nd_Res} {S : Nat} (hS : S < 2 ^ n) : ∀ (d l f : Nat) (g : Nat → Int32) (T : Nat → Nat → Nat), l + d = n → d < f → tb_ n g T → iT_ okq fs n T S l 0 → ∃ (g' : Nat → Int32) (T' : Nat → Nat → Nat), f_X11_rows_119 F rec110 f (nI n) (nI w) (nI (2 ^ n - 1)) (nI S) (nI l) (nd_row σ 88 g) = rec110 (nI n) (nI w) (nI (2 ^ n - 1)) (nI (S + 1)) (nd_row σ 88 g') ∧ tb_ n g' T' ∧ iT_ okq fs n T' (S + 1) 0 0 := by
  have h9 := p9_ hn
  intro d
  induction d with
  | zero =>
    intro l f g T hl hf ht hi
    obtain ⟨f, rfl⟩ : ∃ g, f = g + 1 := ⟨f - 1, by omega⟩
    refine ⟨g, T, ?_, ht, iT_S hi (by omega)⟩
    show f_X11_rows_119_b F rec110 _ _ _ _ _ _ _ = _
    unfold f_X11_rows_119_b
    rw [if_pos (nI_le (by omega) (by omega)), nI_1]
  | succ d ih =>
    intro l f g T hl hf ht hi
    obtain ⟨f, rfl⟩ : ∃ g, f = g + 1 := ⟨f - 1, by omega⟩
    obtain ⟨g1, T1, e1, e2, e3⟩ := mr_143 (rec110 := rec110) (rec119 := f_X11_rows_119 F rec110 f) hn hcan hS (show l < n by omega) n 0 F (T S l) g T (by omega) (by omega) ht hi rfl
    obtain ⟨g2, T2, q1, q2, q3⟩ := ih (l + 1) f g1 T1 (by omega) (by omega) e2 e3
    refine ⟨g2, T2, ?_, q2, q3⟩
    show f_X11_rows_119_b F rec110 _ _ _ _ _ _ _ = _
    unfold f_X11_rows_119_b
    rw [if_neg (nI_ge (by omega) (by omega)), ix9, if_neg (nI_in (by omega) (by decide)), nI_clamp (by omega), w_eq, ht S l hS (by omega)]
    exact e1.trans q1
theorem mr_243 (hn : n ≤ 9) {g : Nat → Int32} {T : Nat → Nat → Nat} (ht : tb_ n g T) : ∀ d l f : Nat, l + d = n → d < f → f_X11_rows_243 F f (nI n) (nI (2 ^ n - 1)) (nI (pz_ (fun _ _ _ => true) (T (2 ^ n - 1)) 0 0 l)) (nI l) (nd_row σ 88 g) = some (nI (pz_ (fun _ _ _ => true) (T (2 ^ n - 1)) 0 0 n), nd_row σ 88 g) := by
  have h9 := p9_ hn
  have hp : 0 < 2 ^ n := Nat.pow_pos (by decide)
  intro d
  induction d with
  | zero =>
    intro l f hl hf
    obtain ⟨f, rfl⟩ : ∃ g, f = g + 1 := ⟨f - 1, by omega⟩
    show f_X11_rows_243_b F _ _ _ _ _ _ = _
    unfold f_X11_rows_243_b
    rw [if_pos (nI_le (by omega) (by omega)), show l = n by omega]
  | succ d ih =>
    intro l f hl hf
    obtain ⟨f, rfl⟩ : ∃ g, f = g + 1 := ⟨f - 1, by omega⟩
    show f_X11_rows_243_b F _ _ _ _ _ _ = _
    unfold f_X11_rows_243_b
    have e : pz_ (fun _ _ _ => true) (T (2 ^ n - 1)) 0 0 (l + 1) = pz_ (fun _ _ _ => true) (T (2 ^ n - 1)) 0 0 l + T (2 ^ n - 1) l := by
      show pz_ (fun _ _ _ => true) (T (2 ^ n - 1)) 0 0 l + (if true = true then T (2 ^ n - 1) l else 0) = _
      rw [if_pos rfl]
    rw [if_neg (nI_ge (by omega) (by omega)), ix9, if_neg (nI_in (by omega) (by decide)), nI_clamp (by omega), w_eq, ht (2 ^ n - 1) l (by omega) (by omega), n_add, nI_1, ← e]
    exact ih (l + 1) f (by omega) (by omega)
theorem mr_110 (hF : 300000 ≤ F) (hn : n ≤ 9) (hcan : cs_ok F n w σ okq) : ∀ (d S f : Nat) (g : Nat → Int32) (T : Nat → Nat → Nat), S + d = 2 ^ n - 1 → d < f → tb_ n g T → iT_ okq fs n T S 0 0 → ∃ (g' : Nat → Int32) (T' : Nat → Nat → Nat), f_X11_rows_110 F f (nI n) (nI w) (nI (2 ^ n - 1)) (nI S) (nd_row σ 88 g) = some (nI (pz_ (fun _ _ _ => true) (T' (2 ^ n - 1)) 0 0 n), nd_row σ 88 g') ∧ dp_ okq fs n T' := by
  have h9 := p9_ hn
  have hp : 0 < 2 ^ n := Nat.pow_pos (by decide)
  intro d
  induction d with
  | zero =>
    intro S f g T hS hf ht hi
    obtain ⟨f, rfl⟩ : ∃ g, f = g + 1 := ⟨f - 1, by omega⟩
    refine ⟨g, T, ?_, iT_dp hi (by omega)⟩
    show f_X11_rows_110_b F _ _ _ _ _ _ = _
    unfold f_X11_rows_110_b
    rw [if_pos (nI_le (by omega) (by omega))]
    exact mr_243 hn ht n 0 F (by omega) (by omega)
  | succ d ih =>
    intro S f g T hS hf ht hi
    obtain ⟨f, rfl⟩ : ∃ g, f = g + 1 := ⟨f - 1, by omega⟩
    obtain ⟨g1, T1, e1, e2, e3⟩ := mr_119 (rec110 := f_X11_rows_110 F f) hF hn hcan (show S < 2 ^ n by omega) n 0 F g T (by omega) (by omega) ht hi
    obtain ⟨g2, T2, q1, q2⟩ := ih (S + 1) f g1 T1 (by omega) (by omega) e2 e3
    refine ⟨g2, T2, ?_, q2⟩
    show f_X11_rows_110_b F _ _ _ _ _ _ = _
    unfold f_X11_rows_110_b
    rw [if_neg (nI_ge (by omega) (by omega))]
    exact e1.trans q1
def T0_ (fs : Nat → Bool) (x s y : Nat) : Nat := if s = 2 ^ y ∧ y < x ∧ fs y = true then 1 else 0
theorem iT_ini : iT_ okq fs n (T0_ fs n) 1 0 0 := by
  have z : ∀ s y : Nat, s.testBit y = false → T0_ fs n s y = 0 := fun s y h => if_neg (fun e => by
    rw [e.1, Nat.testBit_two_pow, decide_eq_true rfl] at h
    exact absurd h (by decide))
  refine ⟨fun s y _ _ h => z s y h, fun s y h1 h2 h3 => ?_⟩
  have hz : (if s < 1 then pz_ okq (T0_ fs n s) s y n else if s = 1 then pz_ okq (T0_ fs n s) s y (if y < 0 then 0 + 1 else 0) else 0) = 0 := by
    by_cases hs : s < 1
    · rw [if_pos hs]
      have : s = 0 := by omega
      subst this
      exact pz_0 n (fun l _ _ => z 0 l (Nat.zero_testBit l))
    · rw [if_neg hs, if_neg (Nat.not_lt_zero y)]
      by_cases hs1 : s = 1
      · rw [if_pos hs1]; rfl
      · rw [if_neg hs1]
  rw [hz, Nat.add_zero]
  show (if (s ||| 2 ^ y) = 2 ^ y ∧ y < n ∧ fs y = true then 1 else 0) = if s = 0 ∧ fs y = true then 1 else 0
  by_cases hs : s = 0 ∧ fs y = true
  · rw [if_pos hs, if_pos ⟨by rw [hs.1, Nat.zero_or], h2, hs.2⟩]
  · rw [if_neg hs, if_neg (fun e => hs ⟨or_inj h3 (Nat.zero_testBit y) (by rw [e.1, Nat.zero_or]), e.2.2⟩)]
def fs_ok (n w : Nat) (σ : nd_Mem) (fs : Nat → Bool) : Prop := ∀ (x : Nat) (a b : nd_Res) (g : Nat → Int32), x < n → (if nI w = 0 then a else (if nI x < 0 ∨ 9 ≤ (nI x).toNatClampNeg then none else (if ((nd_row σ 88 g 86 (nI x).toNatClampNeg) &&& nI (2 ^ n - 1)) = 0 then a else b))) = if fs x = true then a else b
theorem mr_63 (hF : 300000 ≤ F) (hn : n ≤ 9) (h1n : 1 ≤ n) (hcan : cs_ok F n w σ okq) (hfs : fs_ok n w σ fs) : ∀ (d x f : Nat) (g : Nat → Int32), x + d = n → d < f → tb_ n g (T0_ fs x) → ∃ (g' : Nat → Int32) (T' : Nat → Nat → Nat), f_X11_rows_63 F f (nI n) (nI w) (nI (2 ^ n - 1)) (nI x) (nd_row σ 88 g) = some (nI (pz_ (fun _ _ _ => true) (T' (2 ^ n - 1)) 0 0 n), nd_row σ 88 g') ∧ dp_ okq fs n T' := by
  have h9 := p9_ hn
  have hp : 1 < 2 ^ n := Nat.one_lt_two_pow (by omega)
  intro d
  induction d with
  | zero =>
    intro x f g hx hf ht
    obtain ⟨f, rfl⟩ : ∃ g, f = g + 1 := ⟨f - 1, by omega⟩
    have : x = n := by omega
    subst this
    show ∃ (g' : Nat → Int32) (T' : Nat → Nat → Nat), f_X11_rows_63_b F _ _ _ _ _ _ = _ ∧ _
    unfold f_X11_rows_63_b
    rw [if_pos (nI_le (Nat.le_refl _) (by omega))]
    exact mr_110 hF hn hcan (2 ^ x - 1 - 1) 1 F g (T0_ fs x) (by omega) (by omega) ht iT_ini
  | succ d ih =>
    intro x f g hx hf ht
    obtain ⟨f, rfl⟩ : ∃ g, f = g + 1 := ⟨f - 1, by omega⟩
    show ∃ (g' : Nat → Int32) (T' : Nat → Nat → Nat), f_X11_rows_63_b F _ _ _ _ _ _ = _ ∧ _
    unfold f_X11_rows_63_b
    rw [if_neg (nI_ge (by omega) (by omega)), hfs x _ _ g (by omega)]
    have hx2 : 2 ^ x < 2 ^ n := Nat.pow_lt_pow_right (by decide) (by omega)
    by_cases hfx : fs x = true
    · rw [if_pos hfx]
      unfold f_X11_rows_85 f_X11_rows_101
      rw [show (1 : Int32) <<< (nI x &&& 31) = nI (2 ^ x) from n_one (by omega), ix9, if_neg (nI_in (by omega) (by decide)), nI_clamp (by omega), n_let, up_row, nI_1]
      refine ih (x + 1) f _ (by omega) (by omega) (fun s y hs hy => ?_)
      show upd g (9 * 2 ^ x + x) 1 (9 * s + y) = nI (if s = 2 ^ y ∧ y < x + 1 ∧ fs y = true then 1 else 0)
      by_cases hc : s = 2 ^ x ∧ y = x
      · rw [hc.1, hc.2, upd_eq, if_pos ⟨rfl, Nat.lt_succ_self x, hfx⟩]
        rfl
      · rw [upd_ne (fun e => hc ⟨by omega, by omega⟩), ht s y hs hy]
        show nI (if s = 2 ^ y ∧ y < x ∧ fs y = true then 1 else 0) = _
        by_cases hq : s = 2 ^ y ∧ y < x ∧ fs y = true
        · rw [if_pos hq, if_pos ⟨hq.1, by omega, hq.2.2⟩]
        · rw [if_neg hq, if_neg (fun e => by
            by_cases hyx : y = x
            · exact hc ⟨by rw [e.1, hyx], hyx⟩
            · exact hq ⟨e.1, by omega, e.2.2⟩)]
    · rw [if_neg hfx]
      unfold f_X11_rows_101
      rw [nI_1]
      refine ih (x + 1) f g (by omega) (by omega) (fun s y hs hy => ?_)
      rw [ht s y hs hy]
      show nI (if s = 2 ^ y ∧ y < x ∧ fs y = true then 1 else 0) = nI (if s = 2 ^ y ∧ y < x + 1 ∧ fs y = true then 1 else 0)
      by_cases hq : s = 2 ^ y ∧ y < x ∧ fs y = true
      · rw [if_pos hq, if_pos ⟨hq.1, by omega, hq.2.2⟩]
      · rw [if_neg hq, if_neg (fun e => by
          by_cases hyx : y = x
          · exact hfx (by rw [← hyx]; exact e.2.2)
          · exact hq ⟨e.1, by omega, e.2.2⟩)]
theorem mr_37 (hn : n ≤ 9) : ∀ (d k f : Nat) (g : Nat → Int32), k + d = 9 * 2 ^ n → d < f → (∀ j : Nat, j < k → g j = 0) → ∃ g' : Nat → Int32, f_X11_rows_37 F f (nI n) (nI w) (nI (2 ^ n - 1)) (nI k) (nd_row σ 88 g) = f_X11_rows_63 F F (nI n) (nI w) (nI (2 ^ n - 1)) 0 (nd_row σ 88 g') ∧ ∀ j : Nat, j < 9 * 2 ^ n → g' j = 0 := by
  have h9 := p9_ hn
  have e9 : (9 : Int32) <<< (nI n &&& 31) = nI (9 * 2 ^ n) := by
    rw [show nI n &&& 31 = nI n from n_31 (by omega), show (9 : Int32) = nI 9 from rfl, n_shl (by omega), Nat.shiftLeft_eq]
  intro d
  induction d with
  | zero =>
    intro k f g hk hf hg
    obtain ⟨f, rfl⟩ : ∃ g, f = g + 1 := ⟨f - 1, by omega⟩
    refine ⟨g, ?_, fun j hj => hg j (by omega)⟩
    show f_X11_rows_37_b F _ _ _ _ _ _ = _
    unfold f_X11_rows_37_b
    rw [e9, if_pos (nI_le (by omega) (by omega))]
  | succ d ih =>
    intro k f g hk hf hg
    obtain ⟨f, rfl⟩ : ∃ g, f = g + 1 := ⟨f - 1, by omega⟩
    obtain ⟨g', q1, q2⟩ := ih (k + 1) f (upd g k 0) (by omega) (by omega) (fun j hj => by
      by_cases hjk : j = k
      · rw [hjk, upd_eq]
      · rw [upd_ne hjk]; exact hg j (by omega))
    refine ⟨g', ?_, q2⟩
    show f_X11_rows_37_b F _ _ _ _ _ _ = _
    unfold f_X11_rows_37_b
    rw [e9, if_neg (nI_ge (by omega) (by omega)), if_neg (nI_in (by omega) (by decide)), nI_clamp (by omega), n_let, up_row, nI_1]
    exact q1
theorem mr_rows (hF : 300000 ≤ F) (hn : n ≤ 9) (h1n : 1 ≤ n) (hcan : cs_ok F n w σ okq) (hfs : fs_ok n w σ fs) : ∃ (g' : Nat → Int32) (T' : Nat → Nat → Nat), f_X11_rows_37 F F (nI n) (nI w) (nI (2 ^ n - 1)) 0 σ = some (nI (pz_ (fun _ _ _ => true) (T' (2 ^ n - 1)) 0 0 n), nd_row σ 88 g') ∧ dp_ okq fs n T' := by
  have h9 := p9_ hn
  obtain ⟨g1, e1, e2⟩ := mr_37 (F := F) (w := w) (σ := σ) hn (9 * 2 ^ n) 0 F (σ 88) (by omega) (by omega) (fun j hj => absurd hj (Nat.not_lt_zero j))
  rw [row_id] at e1
  obtain ⟨g2, T2, q1, q2⟩ := mr_63 hF hn h1n hcan hfs n 0 F g1 (by omega) (by omega) (fun s y hs hy => by
    rw [e2 _ (by omega), show T0_ fs 0 s y = 0 from if_neg (fun e => absurd e.2.1 (Nat.not_lt_zero y))]
    rfl)
  exact ⟨g2, T2, e1.trans q1, q2⟩
end RL
