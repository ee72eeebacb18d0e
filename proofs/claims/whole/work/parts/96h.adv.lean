/-! text: the class reads a token -/
def cp_ (c : nd_Mem) (t : Nat → Nat) (z k : Nat) : Prop := z ≤ 400 ∧ (∀ i : Nat, i < z → t i < 256) ∧ c 38 2 = nI z ∧ (∀ i : Nat, i < z → c 47 i = nI (t i)) ∧ c 38 5 = nI k ∧ k < 4 ∧ c 38 3 = 0 ∧ c 38 4 = -1
def kx_ (t : Nat → Nat) (z k p : Nat) : Nat := wjf_ (tv_ t z p) (kls_.getD k [])
/-- where the tokens begin, one behind the other -/
def tkp_ (t : Nat → Nat) (z : Nat) : Nat → Nat
  | 0 => tn_ t z 0
  | j + 1 => tn_ t z (tqe_ t z (tkp_ t z j))
/-- what the class keeps of the token at p: its kind a and its value v -/
abbrev ctn_ (a v : Int32) (t : Nat → Nat) (z k p : Nat) : Prop := (tk_ t z p = 0 → a = 0) ∧ (tk_ t z p = 1 → a = 4) ∧ (tk_ t z p = 2 → kx_ t z k p < (kls_.getD k []).length → a = 1 ∧ v = nI (kx_ t z k p)) ∧ (tk_ t z p = 2 → ¬ kx_ t z k p < (kls_.getD k []).length → a = 4) ∧ (tk_ t z p = 3 → a = 2 ∧ v = nI (tv_ t z p)) ∧ (tk_ t z p = 4 → a = 3 ∧ v = nI (tv_ t z p))
/-- the class's rows of all tokens -/
def car_ (c : nd_Mem) (t : Nat → Nat) (z k : Nat) : Prop := ∃ N : Nat, N ≤ 400 ∧ tkp_ t z N = z ∧ (∀ j : Nat, j < N → tkp_ t z j < z) ∧ c 38 10 = nI (N + 1) ∧ ∀ j : Nat, j ≤ N → ctn_ (c 48 j) (c 49 j) t z k (tkp_ t z j) ∧ c 50 j = nI (tkp_ t z j)
def cb_ (c : nd_Mem) (t : Nat → Nat) (z k : Nat) : Prop := z ≤ 400 ∧ (∀ i : Nat, i < z → t i < 256) ∧ c 38 2 = nI z ∧ (∀ i : Nat, i < z → c 47 i = nI (t i)) ∧ c 38 5 = nI k ∧ k < 4 ∧ c 38 3 = 0 ∧ c 38 4 = -1 ∧ car_ c t z k
def ctk_ (c : nd_Mem) (t : Nat → Nat) (z k p : Nat) : Prop := (∃ j : Nat, j ≤ 400 ∧ tkp_ t z j = p ∧ (∀ i : Nat, i < j → tkp_ t z i < z) ∧ c 38 14 = nI (j + 1)) ∧ c 38 13 = nI p ∧ (tk_ t z p = 0 → c 38 11 = 0) ∧ (tk_ t z p = 1 → c 38 11 = 4) ∧ (tk_ t z p = 2 → kx_ t z k p < (kls_.getD k []).length → c 38 11 = 1 ∧ c 38 12 = nI (kx_ t z k p)) ∧ (tk_ t z p = 2 → ¬ kx_ t z k p < (kls_.getD k []).length → c 38 11 = 4) ∧ (tk_ t z p = 3 → c 38 11 = 2 ∧ c 38 12 = nI (tv_ t z p)) ∧ (tk_ t z p = 4 → c 38 11 = 3 ∧ c 38 12 = nI (tv_ t z p))
def fck_ (K : List Nat) (c c' : nd_Mem) : Prop := (∀ i : Nat, i ≠ 38 → c' i = c i) ∧ ∀ k : Nat, k ∉ K → c' 38 k = c 38 k
theorem fc_rf {K : List Nat} {c : nd_Mem} : fck_ K c c := ⟨fun _ _ => rfl, fun _ _ => rfl⟩
theorem fc_up {K : List Nat} {c c' : nd_Mem} {k : Nat} {v : Int32} (h : fck_ K c c') (hk : k ∈ K) : fck_ K c (nd_up c' 38 k v) := by
  refine ⟨fun i hi => ?_, fun j hj => ?_⟩
  · rw [nd_up_ne hi]; exact h.1 i hi
  · rw [u_ne2 (fun e => hj (by rw [e]; exact hk))]; exact h.2 j hj
theorem cp_up {c : nd_Mem} {t : Nat → Nat} {z k j : Nat} {v : Int32} (h : cp_ c t z k) (h2 : j ≠ 2) (h5 : j ≠ 5) (h3 : j ≠ 3) (h4 : j ≠ 4) : cp_ (nd_up c 38 j v) t z k := by
  obtain ⟨a1, a2, a3, a4, a5, a6⟩ := h
  exact ⟨a1, a2, by rw [u_ne2 (Ne.symm h2)]; exact a3, fun i hi => by rw [u_ne1 (by decide)]; exact a4 i hi, by rw [u_ne2 (Ne.symm h5)]; exact a5, a6.1, by rw [u_ne2 (Ne.symm h3)]; exact a6.2.1, by rw [u_ne2 (Ne.symm h4)]; exact a6.2.2⟩
theorem cst_ok : ∀ k : Fin 4, nd_ln.getD k.val 0 = (cst_.getD k.val []).length ∧ (cst_.getD k.val []).length ≤ 100 ∧ Int32.ofNat (nd_ln.getD k.val 0) >>> ((0 : Int32) &&& 31) = nI (cst_.getD k.val []).length := by decide +kernel
theorem chr_ok : ∀ k : Fin 4, ∀ i : Fin 100, i.val < (cst_.getD k.val []).length → ((((nd_by.getD k.val []).getD i.val 0) &&& (255 : Int32)).toUInt32 % 65536).toInt32 = nI ((cst_.getD k.val []).getD i.val 0) := by decide +kernel
theorem chr_nar : ∀ x : Fin 256, narrow .char (.int (nI x.val)) = .int (nI x.val) := fun x => by
  have h : ∀ x : Fin 256, ((nI x.val).toUInt32 % 65536).toInt32 = nI x.val := by decide +kernel
  have := h x
  simp [narrow, this]
theorem chr_lt : ∀ k : Fin 4, ∀ i : Fin 100, (cst_.getD k.val []).getD i.val 0 < 256 := by decide +kernel
theorem kd_ok : ∀ k : Fin 4, ∀ j : Fin 17, j.val < (kws_ k.val).length → ((kws_ k.val).getD j.val []).length ≤ 10 ∧ (∀ i : Fin 11, i.val < ((kws_ k.val).getD j.val []).length → (cst_.getD k.val []).getD ((kps_.getD k.val []).getD j.val 0 + i.val) 0 = ((kws_ k.val).getD j.val []).getD i.val 0 ∧ ((kws_ k.val).getD j.val []).getD i.val 0 ≠ 32 ∧ ((kws_ k.val).getD j.val []).getD i.val 0 < 256) ∧ (j.val + 1 < (kws_ k.val).length → (cst_.getD k.val []).getD ((kps_.getD k.val []).getD j.val 0 + ((kws_ k.val).getD j.val []).length) 0 = 32 ∧ (kps_.getD k.val []).getD (j.val + 1) 0 = (kps_.getD k.val []).getD j.val 0 + ((kws_ k.val).getD j.val []).length + 1) ∧ (j.val + 1 < (kws_ k.val).length → (kps_.getD k.val []).getD j.val 0 + ((kws_ k.val).getD j.val []).length < (cst_.getD k.val []).length) ∧ (j.val + 1 = (kws_ k.val).length → (kps_.getD k.val []).getD j.val 0 + ((kws_ k.val).getD j.val []).length = (cst_.getD k.val []).length) := by decide +kernel
theorem kp_0 : ∀ k : Fin 4, (kps_.getD k.val []).getD 0 0 = 0 ∧ 0 < (kws_ k.val).length := by decide +kernel
def mt_ (t : Nat → Nat) (p q : Nat) (w : List Nat) : Nat → Nat → Bool
  | 0, _ => true
  | d + 1, m => decide (p + m < q ∧ t (p + m) = w.getD m 0) && mt_ t p q w d (m + 1)
theorem mt_all {t : Nat → Nat} {p q : Nat} {w : List Nat} : ∀ d m : Nat, mt_ t p q w d m = true ↔ ∀ i : Nat, m ≤ i → i < m + d → p + i < q ∧ t (p + i) = w.getD i 0 := by
  intro d
  induction d with
  | zero => intro m; exact ⟨fun _ i h1 h2 => by omega, fun _ => rfl⟩
  | succ d ih =>
    intro m
    show (decide (p + m < q ∧ t (p + m) = w.getD m 0) && mt_ t p q w d (m + 1)) = true ↔ _
    rw [Bool.and_eq_true, decide_eq_true_eq, ih (m + 1)]
    constructor
    · rintro ⟨h1, h2⟩ i h3 h4
      by_cases hi : i = m
      · rw [hi]; exact h1
      · exact h2 i (by omega) (by omega)
    · intro h
      exact ⟨h m (Nat.le_refl m) (by omega), fun i h1 h2 => h i (by omega) (by omega)⟩
section CA
variable {F z k : Nat} {c γ : nd_Mem} {t : Nat → Nat}
theorem latN {i : Nat} : f_J0_isLatin1_aae02 F i γ = some (1, γ) := by
  unfold f_J0_isLatin1_aae02
  rw [if_neg (by decide), if_pos rfl]
theorem lenN (hk : k < 4) : f_J0_length_8abf5 F k γ = some (nI (cst_.getD k []).length, γ) := by
  have h := (cst_ok ⟨k, hk⟩).2.2
  have h : Int32.ofNat (nd_ln.getD k 0) >>> ((0 : Int32) &&& 31) = nI (cst_.getD k []).length := h
  have hc : f_J0_coder_7d493 F k γ = some (0, γ) := by
    unfold f_J0_coder_7d493
    rw [if_neg (by decide), if_neg (fun e => e (by rfl))]
  unfold f_J0_length_8abf5
  rw [hc, n_bind, h]
theorem chrN (hk : k < 4) {i : Nat} (hi : i < (cst_.getD k []).length) : f_J0_charAt_5068e F k (nI i) γ = some (nI ((cst_.getD k []).getD i 0), γ) := by
  obtain ⟨l1, l2, _⟩ := cst_ok ⟨k, hk⟩
  have l1 : nd_ln.getD k 0 = (cst_.getD k []).length := l1
  have l2 : (cst_.getD k []).length ≤ 100 := l2
  have hc := chr_ok ⟨k, hk⟩ ⟨i, by omega⟩ hi
  have hc : ((((nd_by.getD k []).getD i 0) &&& (255 : Int32)).toUInt32 % 65536).toInt32 = nI ((cst_.getD k []).getD i 0) := hc
  have hl : (cst_.getD k []).getD i 0 < 256 := chr_lt ⟨k, hk⟩ ⟨i, by omega⟩
  have hn := chr_nar ⟨(cst_.getD k []).getD i 0, hl⟩
  have hn : narrow .char (.int (nI ((cst_.getD k []).getD i 0))) = .int (nI ((cst_.getD k []).getD i 0)) := hn
  unfold f_J0_charAt_5068e f_J1_charAt_3b067 f_J0_checkIndex_df160 f_J3_checkIndex_8e157
  rw [latN, n_bind, if_neg n10, if_neg (nI_pos (by omega)), if_pos (show nI i < Int32.ofNat (nd_ln.getD k 0) from nI_lt (by omega) (by omega)), n_bind, n_bind, if_neg (nI_in (by omega) (by omega)), nI_clamp (by omega), hc, if_neg (fun e => e hn), n_bind, if_neg (fun e => e hn)]
/-- one word of the row of words -/
theorem c_w12 (hb : cp_ γ t z k) {p q : Nat} (hpq : p ≤ q) (hq : q ≤ z) {j : Nat} (hj : j < (kws_ k).length) : ∀ (d m f : Nat) (b : Bool), m + d = ((kws_ k).getD j []).length → d < f → ∃ f' : Nat, f ≤ f' + d ∧ f_X3_wordNumber_11 F f (nI p) (nI q) (nI j) (nI (p + m)) (if b = true then 1 else 0) (nI ((kps_.getD k []).getD j 0 + m)) γ = f_X3_wordNumber_11 F f' (nI p) (nI q) (nI j) (nI (p + ((kws_ k).getD j []).length)) (if (b && mt_ t p q ((kws_ k).getD j []) d m) = true then 1 else 0) (nI ((kps_.getD k []).getD j 0 + ((kws_ k).getD j []).length)) γ := by
  obtain ⟨hz, hbyte, b2, b47, b5, hk, _⟩ := hb
  obtain ⟨l1, l2, _⟩ := cst_ok ⟨k, hk⟩
  have l2 : (cst_.getD k []).length ≤ 100 := l2
  have hl17 : (kws_ k).length ≤ 17 := (kw_len ⟨k, hk⟩).1
  obtain ⟨k1, k2, k3, k4, k5⟩ := kd_ok ⟨k, hk⟩ ⟨j, by omega⟩ hj
  have k1 : ((kws_ k).getD j []).length ≤ 10 := k1
  have k2 : ∀ i : Fin 11, i.val < ((kws_ k).getD j []).length → (cst_.getD k []).getD ((kps_.getD k []).getD j 0 + i.val) 0 = ((kws_ k).getD j []).getD i.val 0 ∧ ((kws_ k).getD j []).getD i.val 0 ≠ 32 ∧ ((kws_ k).getD j []).getD i.val 0 < 256 := k2
  have kE : (kps_.getD k []).getD j 0 + ((kws_ k).getD j []).length ≤ (cst_.getD k []).length := by
    by_cases hlast : j + 1 = (kws_ k).length
    · have : (kps_.getD k []).getD j 0 + ((kws_ k).getD j []).length = (cst_.getD k []).length := k5 hlast
      omega
    · have : (kps_.getD k []).getD j 0 + ((kws_ k).getD j []).length < (cst_.getD k []).length := k4 (by show j + 1 < (kws_ k).length; omega)
      omega
  have h5 : (γ 38 5).toNatClampNeg = k := by rw [b5, nI_clamp (by omega)]
  intro d
  induction d with
  | zero =>
    intro m f b hm hf
    refine ⟨f, by omega, ?_⟩
    rw [show m = ((kws_ k).getD j []).length by omega]
    show _ = f_X3_wordNumber_11 F f (nI p) (nI q) (nI j) (nI (p + ((kws_ k).getD j []).length)) (if (b && true) = true then 1 else 0) _ γ
    rw [Bool.and_true]
  | succ d ih =>
    intro m f b hm hf
    obtain ⟨f, rfl⟩ : ∃ g, f = g + 1 := ⟨f - 1, by omega⟩
    obtain ⟨q1, q2, q3⟩ := k2 ⟨m, by omega⟩ (by show m < _; omega)
    have q1 : (cst_.getD k []).getD ((kps_.getD k []).getD j 0 + m) 0 = ((kws_ k).getD j []).getD m 0 := q1
    have q2 : ((kws_ k).getD j []).getD m 0 ≠ 32 := q2
    have q3 : ((kws_ k).getD j []).getD m 0 < 256 := q3
    obtain ⟨f', f1, f2⟩ := ih (m + 1) f (b && decide (p + m < q ∧ t (p + m) = ((kws_ k).getD j []).getD m 0)) (by omega) (by omega)
    refine ⟨f', by omega, ?_⟩
    have e : (b && mt_ t p q ((kws_ k).getD j []) (d + 1) m) = ((b && decide (p + m < q ∧ t (p + m) = ((kws_ k).getD j []).getD m 0)) && mt_ t p q ((kws_ k).getD j []) d (m + 1)) := (Bool.and_assoc _ _ _).symm
    rw [e, ← f2]
    have hch : ∀ τ : nd_Mem, f_J0_charAt_5068e F k (nI ((kps_.getD k []).getD j 0 + m)) τ = some (nI (((kws_ k).getD j []).getD m 0), τ) := fun τ => by
      rw [chrN hk (by omega), q1]
    show f_X3_wordNumber_11_b F _ _ _ _ _ _ _ _ = _
    unfold f_X3_wordNumber_11_b f_X3_wordNumber_71 f_X3_wordNumber_72 f_X3_wordNumber_102
    rw [h5, if_neg (by omega), lenN hk, n_bind, if_neg (nI_ge (by omega) (by omega)), h5, if_neg (by omega), hch, n_bind, if_neg (show ¬ nI (((kws_ k).getD j []).getD m 0) = (32 : Int32) from fun e => q2 ((nI_eq (b := 32) (by omega) (by decide)).mp e)), nI_1, nI_1]
    cases b
    · rw [if_neg (show ¬ false = true by decide), if_pos rfl, Bool.false_and, if_neg (show ¬ false = true by decide)]
      rfl
    · rw [if_pos rfl, if_neg n10, Bool.true_and]
      by_cases hpm : p + m < q
      · rw [if_neg (nI_ge hpm (by omega)), if_neg (nI_in (by omega) (by decide)), nI_clamp (by omega), h5, if_neg (by omega), hch, n_bind, b47 (p + m) (by omega)]
        by_cases hc : t (p + m) = ((kws_ k).getD j []).getD m 0
        · rw [if_pos (by rw [hc]), if_pos (decide_eq_true ⟨hpm, hc⟩)]
          rfl
        · rw [if_neg (fun e => hc ((nI_eq (by have := hbyte (p + m) (by omega); omega) (by omega)).mp e)), if_neg (show ¬ decide (p + m < q ∧ t (p + m) = ((kws_ k).getD j []).getD m 0) = true by rw [decide_eq_false (fun e => hc e.2)]; decide)]
          rfl
      · rw [if_pos (nI_le (by omega) (by omega)), if_neg (show ¬ decide (p + m < q ∧ t (p + m) = ((kws_ k).getD j []).getD m 0) = true by rw [decide_eq_false (fun e => hpm e.1)]; decide)]
        rfl
theorem c_wn (hb : cp_ γ t z k) {p q : Nat} (hpq : p ≤ q) (hq : q ≤ z) : ∀ d j f : Nat, j + d + 1 = (kws_ k).length → 12 * d + 12 < f → (∀ i : Nat, i < j → (kws_ k).getD i [] ≠ seg_ t p q) → f_X3_wordNumber_11 F f (nI p) (nI q) (nI j) (nI p) 1 (nI ((kps_.getD k []).getD j 0)) γ = some (if wif_ (seg_ t p q) (kws_ k) < (kws_ k).length then nI (wif_ (seg_ t p q) (kws_ k)) else -1, γ) := by
  have hb0 := hb
  obtain ⟨hz, hbyte, b2, b47, b5, hk, _⟩ := hb
  have l2 : (cst_.getD k []).length ≤ 100 := (cst_ok ⟨k, hk⟩).2.1
  have hl17 : (kws_ k).length ≤ 17 := (kw_len ⟨k, hk⟩).1
  have h5 : (γ 38 5).toNatClampNeg = k := by rw [b5, nI_clamp (by omega)]
  have sgm : ∀ j : Nat, (mt_ t p q ((kws_ k).getD j []) ((kws_ k).getD j []).length 0 = true ∧ p + ((kws_ k).getD j []).length = q) ↔ (kws_ k).getD j [] = seg_ t p q := fun j => by
    rw [eq_comm (a := (kws_ k).getD j []), seg_eq, mt_all]
    constructor
    · rintro ⟨h1, h2⟩
      exact ⟨by omega, fun m hm => (h1 m (Nat.zero_le m) (by omega)).2⟩
    · rintro ⟨h1, h2⟩
      exact ⟨fun i _ h3 => ⟨by omega, h2 i (by omega)⟩, by omega⟩
  have word : ∀ j f : Nat, j < (kws_ k).length → 11 < f → ∃ f' : Nat, f ≤ f' + 10 ∧ f_X3_wordNumber_11 F f (nI p) (nI q) (nI j) (nI p) 1 (nI ((kps_.getD k []).getD j 0)) γ = f_X3_wordNumber_11 F f' (nI p) (nI q) (nI j) (nI (p + ((kws_ k).getD j []).length)) (if mt_ t p q ((kws_ k).getD j []) ((kws_ k).getD j []).length 0 = true then 1 else 0) (nI ((kps_.getD k []).getD j 0 + ((kws_ k).getD j []).length)) γ := fun j f hj hf => by
    have k1 : ((kws_ k).getD j []).length ≤ 10 := (kd_ok ⟨k, hk⟩ ⟨j, by omega⟩ hj).1
    obtain ⟨f', f1, f2⟩ := c_w12 (F := F) hb0 hpq hq hj ((kws_ k).getD j []).length 0 f true (by omega) (by omega)
    exact ⟨f', by omega, f2⟩
  intro d
  induction d with
  | zero =>
    intro j f hj hf hno
    have hjl : j < (kws_ k).length := by omega
    obtain ⟨f', f1, f2⟩ := word j f hjl (by omega)
    have k1 : ((kws_ k).getD j []).length ≤ 10 := (kd_ok ⟨k, hk⟩ ⟨j, by omega⟩ hjl).1
    have k5 : (kps_.getD k []).getD j 0 + ((kws_ k).getD j []).length = (cst_.getD k []).length := (kd_ok ⟨k, hk⟩ ⟨j, by omega⟩ hjl).2.2.2.2 (by show j + 1 = (kws_ k).length; omega)
    rw [f2, k5]
    obtain ⟨f', rfl⟩ : ∃ g, f' = g + 1 := ⟨f' - 1, by omega⟩
    show f_X3_wordNumber_11_b F _ _ _ _ _ _ _ _ = _
    unfold f_X3_wordNumber_11_b f_X3_wordNumber_123
    rw [h5, if_neg (by omega), lenN hk, n_bind, if_pos (nI_le (Nat.le_refl _) (by omega))]
    by_cases hm : mt_ t p q ((kws_ k).getD j []) ((kws_ k).getD j []).length 0 = true ∧ p + ((kws_ k).getD j []).length = q
    · have hh := wif_hit (kws_ k) j hno hjl ((sgm j).mp hm)
      rw [if_pos hm.1, if_neg n10, if_pos (by rw [hm.2]), hh, if_pos hjl]
    · have hnn : wif_ (seg_ t p q) (kws_ k) = (kws_ k).length := wif_no _ (fun i hi => by
        by_cases hij : i = j
        · rw [hij]; exact fun e => hm ((sgm j).mpr e)
        · exact hno i (by omega))
      rw [hnn, if_neg (Nat.lt_irrefl _)]
      by_cases hb1 : mt_ t p q ((kws_ k).getD j []) ((kws_ k).getD j []).length 0 = true
      · rw [if_pos hb1, if_neg n10, if_neg (fun e => hm ⟨hb1, (nI_eq (by omega) (by omega)).mp e⟩)]
      · rw [if_neg hb1, if_pos rfl]
  | succ d ih =>
    intro j f hj hf hno
    have hjl : j < (kws_ k).length := by omega
    obtain ⟨f', f1, f2⟩ := word j f hjl (by omega)
    obtain ⟨k1, k2, k3, k4, k5⟩ := kd_ok ⟨k, hk⟩ ⟨j, by omega⟩ hjl
    have k1 : ((kws_ k).getD j []).length ≤ 10 := k1
    obtain ⟨k3a, k3b⟩ := k3 (by show j + 1 < (kws_ k).length; omega)
    have k3az : (cst_.getD k []).getD ((kps_.getD k []).getD j 0 + ((kws_ k).getD j []).length) 0 = 32 := k3a
    have k3bz : (kps_.getD k []).getD (j + 1) 0 = (kps_.getD k []).getD j 0 + ((kws_ k).getD j []).length + 1 := k3b
    have k4z : (kps_.getD k []).getD j 0 + ((kws_ k).getD j []).length < (cst_.getD k []).length := k4 (by show j + 1 < (kws_ k).length; omega)
    rw [f2]
    obtain ⟨f', rfl⟩ : ∃ g, f' = g + 1 := ⟨f' - 1, by omega⟩
    show f_X3_wordNumber_11_b F _ _ _ _ _ _ _ _ = _
    unfold f_X3_wordNumber_11_b f_X3_wordNumber_93 f_X3_wordNumber_102
    rw [h5, if_neg (by omega), lenN hk, n_bind, if_neg (nI_ge k4z (by omega)), h5, if_neg (by omega), chrN hk k4z, k3az, n_bind, if_pos (show nI 32 = (32 : Int32) from rfl), nI_1, nI_1, ← k3bz]
    by_cases hm : mt_ t p q ((kws_ k).getD j []) ((kws_ k).getD j []).length 0 = true ∧ p + ((kws_ k).getD j []).length = q
    · have hh := wif_hit (kws_ k) j hno hjl ((sgm j).mp hm)
      rw [if_pos hm.1, if_neg n10, if_pos (by rw [hm.2]), hh, if_pos hjl]
    · have nx := ih (j + 1) f' (by omega) (by omega) (fun i hi => by
        by_cases hij : i = j
        · rw [hij]; exact fun e => hm ((sgm j).mpr e)
        · exact hno i (by omega))
      by_cases hb1 : mt_ t p q ((kws_ k).getD j []) ((kws_ k).getD j []).length 0 = true
      · rw [if_pos hb1, if_neg n10, if_neg (fun e => hm ⟨hb1, (nI_eq (by omega) (by omega)).mp e⟩)]
        exact nx
      · rw [if_neg hb1, if_pos rfl]
        exact nx
theorem c_word (hF : 300000 ≤ F) (hb : cp_ γ t z k) {p q : Nat} (hpq : p ≤ q) (hq : q ≤ z) : f_X3_wordNumber F (nI p) (nI q) γ = some (if wif_ (seg_ t p q) (kws_ k) < (kws_ k).length then nI (wif_ (seg_ t p q) (kws_ k)) else -1, γ) := by
  have hk := hb.2.2.2.2.2.1
  have hl17 : (kws_ k).length ≤ 17 := (kw_len ⟨k, hk⟩).1
  have k0 : (kps_.getD k []).getD 0 0 = 0 := (kp_0 ⟨k, hk⟩).1
  have k1 : 0 < (kws_ k).length := (kp_0 ⟨k, hk⟩).2
  unfold f_X3_wordNumber
  have h := c_wn (F := F) hb hpq hq ((kws_ k).length - 1) 0 F (by omega) (by omega) (fun i hi => absurd hi (Nat.not_lt_zero i))
  rw [k0] at h
  exact h
end CA
