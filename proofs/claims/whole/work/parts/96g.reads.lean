/-! text: the reference's reads -/
theorem txc_ {σ : nd_Mem} {i k l : Nat} {a b : Int32} (h : k ≠ l) : nd_up (nd_up σ i k a) i l b = nd_up (nd_up σ i l b) i k a := by
  funext x y
  by_cases h1 : x = i
  · rw [h1]
    by_cases h2 : y = k
    · rw [h2, u_ne2 h, u_eq, u_eq]
    · by_cases h3 : y = l
      · rw [h3, u_eq, u_ne2 (Ne.symm h), u_eq]
      · rw [u_ne2 h3, u_ne2 h2, u_ne2 h2, u_ne2 h3]
  · rw [u_ne1 h1, u_ne1 h1, u_ne1 h1, u_ne1 h1]
section RD
variable {F z : Nat} {r ρ : nd_Mem} {t : Nat → Nat}
theorem tq_l {p : Nat} (hp : p < z) (h : isl_ (t p) = true) : tqe_ t z p = txr_ (fun s => isl_ (t s)) (z - (p + 1)) (p + 1) := by
  unfold tqe_
  rw [if_neg (by omega), if_pos h, show z - p = (z - (p + 1)) + 1 by omega]
  show (if isl_ (t p) = true then txr_ (fun s => isl_ (t s)) (z - (p + 1)) (p + 1) else p) = _
  rw [if_pos h]
theorem tq_d {p : Nat} (hp : p < z) (h0 : ¬ isl_ (t p) = true) (h : isd_ (t p) = true) : tqe_ t z p = txr_ (fun s => isd_ (t s)) (z - (p + 1)) (p + 1) := by
  unfold tqe_
  rw [if_neg (by omega), if_neg h0, if_pos h, show z - p = (z - (p + 1)) + 1 by omega]
  show (if isd_ (t p) = true then txr_ (fun s => isd_ (t s)) (z - (p + 1)) (p + 1) else p) = _
  rw [if_pos h]
theorem il_32 {x : Nat} (h : isl_ x = true) : x ≠ 32 := by
  have := of_decide_eq_true h
  omega
theorem m_95 (hF : 300000 ≤ F) (hb : rb_ ρ t z) {p : Nat} (h11 : ρ 60 11 = nI p) : ∀ d s f : Nat, s + d = z → d < f → p < s → (∀ i : Nat, p ≤ i → i < s → isl_ (t i) = true) → f_X11_reads_95 F f (nd_up ρ 60 10 (nI s)) = some (0, if wif_ (seg_ t p (txr_ (fun s => isl_ (t s)) d s)) wl_ < 24 then nd_up (nd_up (nd_up ρ 60 10 (nI (txr_ (fun s => isl_ (t s)) d s))) 60 13 (nI (wif_ (seg_ t p (txr_ (fun s => isl_ (t s)) d s)) wl_))) 60 12 2 else nd_up (nd_up ρ 60 10 (nI (txr_ (fun s => isl_ (t s)) d s))) 60 13 (-1)) := by
  have hz := hb.1
  have hbyte := hb.2.1
  have fin : ∀ (s : Nat) (rec : nd_Mem → nd_Res), p < s → s ≤ z → (∀ i : Nat, p ≤ i → i < s → isl_ (t i) = true) → (s < z → ¬ isl_ (t s) = true) → f_X11_reads_95_b F rec (nd_up ρ 60 10 (nI s)) = some (0, if wif_ (seg_ t p s) wl_ < 24 then nd_up (nd_up (nd_up ρ 60 10 (nI s)) 60 13 (nI (wif_ (seg_ t p s) wl_))) 60 12 2 else nd_up (nd_up ρ 60 10 (nI s)) 60 13 (-1)) := by
    intro s rec hps hsz hlet hend
    have hb' : rb_ (nd_up ρ 60 10 (nI s)) t z := rb_up hb (by decide)
    have hr : nd_bind (f_X11_isLetter F (if s < z then nI (t s) else -1) (nd_up ρ 60 10 (nI s))) = nd_bind (some (0, nd_up ρ 60 10 (nI s))) := by
      by_cases h : s < z
      · rw [if_pos h, letN (hbyte s h), if_neg (hend h)]
      · rw [if_neg h, letM]
    unfold f_X11_reads_95_b
    rw [u_eq, rawN hb' hsz, n_bind, hr, n_bind, if_pos rfl, show nd_up ρ 60 10 (nI s) 60 11 = nI p by rw [u_ne2 (by decide)]; exact h11, u_eq, m_word hF hps (by omega) hb'.2.2.2.2 (fun i h1 h2 => ⟨hb'.2.2.2.1 i (by omega), il_32 (hlet i h1 h2), hbyte i (by omega)⟩), n_bind, n_let, u_eq]
    by_cases hw : wif_ (seg_ t p s) wl_ < 24
    · rw [if_pos hw, if_pos hw, if_neg (li_m1 _ (by omega)), n_let]
    · rw [if_neg hw, if_neg hw, if_pos rfl]
  intro d
  induction d with
  | zero =>
    intro s f hs hf hps hlet
    obtain ⟨f, rfl⟩ : ∃ g, f = g + 1 := ⟨f - 1, by omega⟩
    show f_X11_reads_95_b F _ _ = _
    exact fin s _ hps (by omega) hlet (fun h => by omega)
  | succ d ih =>
    intro s f hs hf hps hlet
    obtain ⟨f, rfl⟩ : ∃ g, f = g + 1 := ⟨f - 1, by omega⟩
    have hb' : rb_ (nd_up ρ 60 10 (nI s)) t z := rb_up hb (by decide)
    by_cases hl : isl_ (t s) = true
    · have e : txr_ (fun s => isl_ (t s)) (d + 1) s = txr_ (fun s => isl_ (t s)) d (s + 1) := if_pos hl
      rw [e]
      show f_X11_reads_95_b F _ _ = _
      unfold f_X11_reads_95_b
      rw [u_eq, rawN hb' (by omega), n_bind, if_pos (show s < z by omega), letN (hbyte s (by omega)), n_bind, if_pos hl, if_neg n10, u_eq, nI_1, n_let, txu_]
      exact ih (s + 1) f (by omega) (by omega) (by omega) (fun i h1 h2 => by
        by_cases his : i = s
        · rw [his]; exact hl
        · exact hlet i h1 (by omega))
    · have e : txr_ (fun s => isl_ (t s)) (d + 1) s = s := if_neg hl
      rw [e]
      show f_X11_reads_95_b F _ _ = _
      exact fin s _ hps (by omega) hlet (fun _ => hl)
theorem tx13 {a b c : Int32} : nd_up (nd_up (nd_up ρ 60 13 a) 60 10 b) 60 13 c = nd_up (nd_up ρ 60 13 c) 60 10 b := by
  rw [txc_ (by decide : (10 : Nat) ≠ 13), txu_]
theorem m_171 (hb : rb_ ρ t z) {p : Nat} (h11 : ρ 60 11 = nI p) : ∀ d s f v : Nat, s + d = z → d < f → p < s → v ≤ 99999 → f_X11_reads_171 F f (nd_up (nd_up ρ 60 13 (nI v)) 60 10 (nI s)) = some (0, if txr_ (fun s => isd_ (t s)) d s - p ≤ 4 then nd_up (nd_up (nd_up ρ 60 13 (nI (nvf_ t (txr_ (fun s => isd_ (t s)) d s - s) s v))) 60 10 (nI (txr_ (fun s => isd_ (t s)) d s))) 60 12 3 else nd_up (nd_up ρ 60 13 (nI (nvf_ t (txr_ (fun s => isd_ (t s)) d s - s) s v))) 60 10 (nI (txr_ (fun s => isd_ (t s)) d s))) := by
  have hz := hb.1
  have hbyte := hb.2.1
  have fin : ∀ (s v : Nat) (rec : nd_Mem → nd_Res), p < s → s ≤ z → (s < z → ¬ isd_ (t s) = true) → f_X11_reads_171_b F rec (nd_up (nd_up ρ 60 13 (nI v)) 60 10 (nI s)) = some (0, if s - p ≤ 4 then nd_up (nd_up (nd_up ρ 60 13 (nI v)) 60 10 (nI s)) 60 12 3 else nd_up (nd_up ρ 60 13 (nI v)) 60 10 (nI s)) := by
    intro s v rec hps hsz hend
    have hb' : rb_ (nd_up (nd_up ρ 60 13 (nI v)) 60 10 (nI s)) t z := rb_up (rb_up hb (by decide)) (by decide)
    have hr : nd_bind (f_X11_isDigit F (if s < z then nI (t s) else -1) (nd_up (nd_up ρ 60 13 (nI v)) 60 10 (nI s))) = nd_bind (some (0, nd_up (nd_up ρ 60 13 (nI v)) 60 10 (nI s))) := by
      by_cases h : s < z
      · rw [if_pos h, digN (hbyte s h), if_neg (hend h)]
      · rw [if_neg h, digM]
    unfold f_X11_reads_171_b
    rw [u_eq, rawN hb' hsz, n_bind, hr, n_bind, if_pos rfl, show nd_up (nd_up ρ 60 13 (nI v)) 60 10 (nI s) 60 11 = nI p by rw [u_ne2 (by decide), u_ne2 (by decide)]; exact h11, u_eq, n_sub (by omega)]
    by_cases h4 : s - p ≤ 4
    · rw [if_pos h4, if_neg (show ¬ (5 : Int32) ≤ nI (s - p) from nI_ge (b := 5) (by omega) (by decide)), n_let]
    · rw [if_neg h4, if_pos (show (5 : Int32) ≤ nI (s - p) from nI_le (a := 5) (by omega) (by omega))]
  intro d
  induction d with
  | zero =>
    intro s f v hs hf hps hv
    obtain ⟨f, rfl⟩ : ∃ g, f = g + 1 := ⟨f - 1, by omega⟩
    show f_X11_reads_171_b F _ _ = some (0, if s - p ≤ 4 then nd_up (nd_up (nd_up ρ 60 13 (nI (nvf_ t (s - s) s v))) 60 10 (nI s)) 60 12 3 else nd_up (nd_up ρ 60 13 (nI (nvf_ t (s - s) s v))) 60 10 (nI s))
    rw [Nat.sub_self]
    exact fin s v _ hps (by omega) (fun h => by omega)
  | succ d ih =>
    intro s f v hs hf hps hv
    obtain ⟨f, rfl⟩ : ∃ g, f = g + 1 := ⟨f - 1, by omega⟩
    have hb' : rb_ (nd_up (nd_up ρ 60 13 (nI v)) 60 10 (nI s)) t z := rb_up (rb_up hb (by decide)) (by decide)
    by_cases hl : isd_ (t s) = true
    · have hd := of_decide_eq_true hl
      have e : txr_ (fun s => isd_ (t s)) (d + 1) s = txr_ (fun s => isd_ (t s)) d (s + 1) := if_pos hl
      have hq := (txr_le (P := fun s => isd_ (t s)) d (s + 1)).1
      rw [e]
      have ev : nvf_ t (txr_ (fun s => isd_ (t s)) d (s + 1) - s) s v = nvf_ t (txr_ (fun s => isd_ (t s)) d (s + 1) - (s + 1)) (s + 1) (if v ≤ 9999 then v * 10 + (t s - 48) else v) := by
        rw [show txr_ (fun s => isd_ (t s)) d (s + 1) - s = (txr_ (fun s => isd_ (t s)) d (s + 1) - (s + 1)) + 1 by omega]
        rfl
      rw [ev]
      show f_X11_reads_171_b F _ _ = _
      unfold f_X11_reads_171_b f_X11_reads_223
      rw [u_eq, rawN hb' (by omega), n_bind, if_pos (show s < z by omega), digN (hbyte s (by omega)), n_bind, if_pos hl, if_neg n10, show nd_up (nd_up ρ 60 13 (nI v)) 60 10 (nI s) 60 13 = nI v by rw [u_ne2 (by decide), u_eq], u_eq]
      by_cases hv9 : v ≤ 9999
      · rw [if_neg (show ¬ (10000 : Int32) ≤ nI v from nI_ge (b := 10000) (by omega) (by decide)), rawN hb' (by omega), n_bind, if_pos (show s < z by omega), n_let, tx13, u_eq, nI_1, n_let, txu_, if_pos hv9, show (10 : Int32) * nI v + nI (t s) - 48 = nI (v * 10 + (t s - 48)) by
          rw [show (10 : Int32) = nI 10 from rfl, n_mul, n_add, show (48 : Int32) = nI 48 from rfl, n_sub (by omega), show 10 * v + t s - 48 = v * 10 + (t s - 48) by omega]]
        exact ih (s + 1) f _ (by omega) (by omega) (by omega) (by omega)
      · rw [if_pos (show (10000 : Int32) ≤ nI v from nI_le (a := 10000) (by omega) (by omega)), n_let, tx13, u_eq, nI_1, n_let, txu_, if_neg hv9]
        exact ih (s + 1) f _ (by omega) (by omega) (by omega) (by omega)
    · have e : txr_ (fun s => isd_ (t s)) (d + 1) s = s := if_neg hl
      rw [e, Nat.sub_self]
      show f_X11_reads_171_b F _ _ = _
      exact fin s v _ hps (by omega) (fun _ => hl)
theorem m_skip (hb : rb_ r t z) : ∀ d s f : Nat, s + d = z → d < f → ∃ f' : Nat, f_X11_reads_0 F f (nd_up r 60 10 (nI s)) = f_X11_reads_0 F (f' + 1) (nd_up r 60 10 (nI (txr_ (fun i => isb_ (t i)) d s))) := by
  have hz := hb.1
  have hbyte := hb.2.1
  intro d
  induction d with
  | zero =>
    intro s f hs hf
    obtain ⟨f, rfl⟩ : ∃ g, f = g + 1 := ⟨f - 1, by omega⟩
    exact ⟨f, rfl⟩
  | succ d ih =>
    intro s f hs hf
    obtain ⟨f, rfl⟩ : ∃ g, f = g + 1 := ⟨f - 1, by omega⟩
    by_cases hl : isb_ (t s) = true
    · have e : txr_ (fun i => isb_ (t i)) (d + 1) s = txr_ (fun i => isb_ (t i)) d (s + 1) := if_pos hl
      obtain ⟨f', q⟩ := ih (s + 1) f (by omega) (by omega)
      refine ⟨f', ?_⟩
      rw [e, ← q]
      have hb' : rb_ (nd_up r 60 10 (nI s)) t z := rb_up hb (by decide)
      show f_X11_reads_0_b F _ _ = _
      unfold f_X11_reads_0_b f_X11_reads_26
      rw [u_eq, rawN hb' (by omega), n_bind, if_pos (show s < z by omega)]
      by_cases h32 : t s = 32
      · rw [if_pos (show nI (t s) = (32 : Int32) by rw [h32]; rfl), u_eq, nI_1, n_let, txu_]
      · have h10 : t s = 10 := by
          have := of_decide_eq_true hl
          omega
        rw [if_neg (show ¬ nI (t s) = (32 : Int32) from fun e => h32 ((nI_eq (b := 32) (by have := hbyte s (by omega); omega) (by decide)).mp e)), u_eq, rawN hb' (by omega), n_bind, if_pos (show s < z by omega), if_pos (show nI (t s) = (10 : Int32) by rw [h10]; rfl), u_eq, nI_1, n_let, txu_]
    · have e : txr_ (fun i => isb_ (t i)) (d + 1) s = s := if_neg hl
      rw [e]
      exact ⟨f, rfl⟩
theorem m_tok (hF : 300000 ≤ F) (hb : rb_ r t z) {p f : Nat} (hp : p ≤ z) (hnb : p < z → isb_ (t p) = false) : ∃ r' : nd_Mem, f_X11_reads_0 F (f + 1) (nd_up r 60 10 (nI p)) = some (0, r') ∧ rt_ r' t z p ∧ fr_ [] [10, 11, 12, 13] r r' := by
  have hz := hb.1
  have hbyte := hb.2.1
  have hb' : rb_ (nd_up r 60 10 (nI p)) t z := rb_up hb (by decide)
  have hb2 : rb_ (nd_up (nd_up (nd_up r 60 10 (nI p)) 60 11 (nI p)) 60 12 1) t z := rb_up (rb_up hb' (by decide)) (by decide)
  have g10 : nd_up (nd_up (nd_up r 60 10 (nI p)) 60 11 (nI p)) 60 12 1 60 10 = nI p := by rw [u_ne2 (by decide), u_ne2 (by decide), u_eq]
  by_cases hpz : p < z
  · have hx := hbyte p hpz
    have hnb' := hnb hpz
    have h32 : ¬ nI (t p) = (32 : Int32) := fun e => by
      have : t p = 32 := (nI_eq (b := 32) (by omega) (by decide)).mp e
      rw [this] at hnb'
      exact absurd hnb' (by decide)
    have h10 : ¬ nI (t p) = (10 : Int32) := fun e => by
      have : t p = 10 := (nI_eq (b := 10) (by omega) (by decide)).mp e
      rw [this] at hnb'
      exact absurd hnb' (by decide)
    have start : f_X11_reads_0 F (f + 1) (nd_up r 60 10 (nI p)) = (if isl_ (t p) = true then f_X11_reads_95 F F (nd_up (nd_up (nd_up (nd_up r 60 11 (nI p)) 60 12 1) 60 13 (nI (t p))) 60 10 (nI (p + 1))) else if isd_ (t p) = true then f_X11_reads_171 F F (nd_up (nd_up (nd_up (nd_up r 60 11 (nI p)) 60 12 1) 60 13 (nI (t p - 48))) 60 10 (nI (p + 1))) else if iss_ (t p) = true then some (0, nd_up (nd_up (nd_up (nd_up (nd_up r 60 11 (nI p)) 60 12 1) 60 13 (nI (t p))) 60 10 (nI (p + 1))) 60 12 4) else some (0, nd_up (nd_up (nd_up (nd_up r 60 11 (nI p)) 60 12 1) 60 13 (nI (t p))) 60 10 (nI (p + 1)))) := by
      have c1 : nd_up (nd_up (nd_up (nd_up (nd_up r 60 10 (nI p)) 60 11 (nI p)) 60 12 1) 60 10 (nI (p + 1))) 60 13 (nI (t p)) = nd_up (nd_up (nd_up (nd_up r 60 11 (nI p)) 60 12 1) 60 13 (nI (t p))) 60 10 (nI (p + 1)) := by
        rw [txc_ (by decide : (10 : Nat) ≠ 11), txc_ (by decide : (10 : Nat) ≠ 12), txu_, txc_ (by decide : (10 : Nat) ≠ 13)]
      show f_X11_reads_0_b F _ _ = _
      unfold f_X11_reads_0_b
      rw [u_eq, rawN hb' hp, n_bind, if_pos hpz, if_neg h32, u_eq, rawN hb' hp, n_bind, if_pos hpz, if_neg h10, u_eq, n_let, n_let, g10, rawN hb2 hp, n_bind, if_pos hpz, if_neg (li_m1 _ (by omega)), g10, nI_1, n_let, n_let, c1, letN hx, n_bind]
      by_cases h1 : isl_ (t p) = true
      · rw [if_pos h1, if_pos h1, if_neg n10]
      · rw [if_neg h1, if_neg h1, if_pos rfl, digN hx, n_bind]
        by_cases h2 : isd_ (t p) = true
        · have hd := of_decide_eq_true h2
          rw [if_pos h2, if_pos h2, if_neg n10, n_let, tx13, show nI (t p) - (48 : Int32) = nI (t p - 48) from n_sub (b := 48) (by omega)]
        · rw [if_neg h2, if_neg h2, if_pos rfl, sigN hx, n_bind]
          by_cases h3 : iss_ (t p) = true
          · rw [if_pos h3, if_pos h3, if_neg n10, n_let]
          · rw [if_neg h3, if_neg h3, if_pos rfl]
    have e12 : nd_up (nd_up r 60 11 (nI p)) 60 12 1 60 11 = nI p := by rw [u_ne2 (by decide), u_eq]
    by_cases h1 : isl_ (t p) = true
    · rw [if_pos h1] at start
      have q := m_95 (ρ := nd_up (nd_up (nd_up r 60 11 (nI p)) 60 12 1) 60 13 (nI (t p))) hF (rb_up (rb_up (rb_up hb (by decide)) (by decide)) (by decide)) (p := p) (by rw [u_ne2 (by decide), e12]) (z - (p + 1)) (p + 1) F (by omega) (by omega) (by omega) (fun i h3 h4 => by rw [show i = p by omega]; exact h1)
      rw [← tq_l hpz h1] at q
      have hk : tk_ t z p = if twd_ t z p < 24 then 2 else 1 := by
        unfold tk_
        rw [if_neg (by omega), if_pos h1]
      have hv : tv_ t z p = twd_ t z p := if_pos h1
      have hw : wif_ (seg_ t p (tqe_ t z p)) wl_ = twd_ t z p := rfl
      rw [hw] at q
      by_cases h24 : twd_ t z p < 24
      · rw [if_pos h24] at q hk
        refine ⟨_, start.trans q, ⟨?_, ?_, ?_, fun _ => ?_⟩, (by repeat first | exact fr_rf | (refine fr_up57 ?_ (by decide)) | (refine fr_up ?_ (by decide) (by decide)) | (refine fr_row ?_ (by decide) (by decide)))⟩
        · rw [u_ne2 (by decide), u_ne2 (by decide), u_eq]
        · rw [u_ne2 (by decide), u_ne2 (by decide), u_ne2 (by decide), u_ne2 (by decide), e12]
        · rw [u_eq, hk]; rfl
        · rw [u_ne2 (by decide), u_eq, hv]
      · rw [if_neg h24] at q hk
        refine ⟨_, start.trans q, ⟨?_, ?_, ?_, fun h => ?_⟩, (by repeat first | exact fr_rf | (refine fr_up57 ?_ (by decide)) | (refine fr_up ?_ (by decide) (by decide)) | (refine fr_row ?_ (by decide) (by decide)))⟩
        · rw [u_ne2 (by decide), u_eq]
        · rw [u_ne2 (by decide), u_ne2 (by decide), u_ne2 (by decide), e12]
        · rw [u_ne2 (by decide), u_ne2 (by decide), u_ne2 (by decide), u_eq, hk]; rfl
        · rw [hk] at h; omega
    · rw [if_neg h1] at start
      by_cases h2 : isd_ (t p) = true
      · have hd := of_decide_eq_true h2
        rw [if_pos h2] at start
        have q := m_171 (F := F) (ρ := nd_up (nd_up r 60 11 (nI p)) 60 12 1) (rb_up (rb_up hb (by decide)) (by decide)) (p := p) e12 (z - (p + 1)) (p + 1) F (t p - 48) (by omega) (by omega) (by omega) (by omega)
        rw [← tq_d hpz h1 h2] at q
        have hq := (tq_le (t := t) hp).2.2 hpz
        have hk : tk_ t z p = if tqe_ t z p - p ≤ 4 then 3 else 1 := by
          unfold tk_
          rw [if_neg (by omega), if_neg h1, if_pos h2]
        have hv : tv_ t z p = nvf_ t (tqe_ t z p - (p + 1)) (p + 1) (t p - 48) := by
          unfold tv_
          rw [if_neg h1, if_pos h2, show tqe_ t z p - p = (tqe_ t z p - (p + 1)) + 1 by omega]
          show nvf_ t (tqe_ t z p - (p + 1)) (p + 1) (if 0 ≤ 9999 then 0 * 10 + (t p - 48) else 0) = _
          rw [if_pos (by omega), Nat.zero_mul, Nat.zero_add]
        rw [← hv] at q
        by_cases h4 : tqe_ t z p - p ≤ 4
        · rw [if_pos h4] at q hk
          refine ⟨_, start.trans q, ⟨?_, ?_, ?_, fun _ => ?_⟩, (by repeat first | exact fr_rf | (refine fr_up57 ?_ (by decide)) | (refine fr_up ?_ (by decide) (by decide)) | (refine fr_row ?_ (by decide) (by decide)))⟩
          · rw [u_ne2 (by decide), u_eq]
          · rw [u_ne2 (by decide), u_ne2 (by decide), u_ne2 (by decide), e12]
          · rw [u_eq, hk]; rfl
          · rw [u_ne2 (by decide), u_ne2 (by decide), u_eq]
        · rw [if_neg h4] at q hk
          refine ⟨_, start.trans q, ⟨?_, ?_, ?_, fun h => ?_⟩, (by repeat first | exact fr_rf | (refine fr_up57 ?_ (by decide)) | (refine fr_up ?_ (by decide) (by decide)) | (refine fr_row ?_ (by decide) (by decide)))⟩
          · rw [u_eq]
          · rw [u_ne2 (by decide), u_ne2 (by decide), e12]
          · rw [u_ne2 (by decide), u_ne2 (by decide), u_eq, hk]; rfl
          · rw [hk] at h; omega
      · rw [if_neg h2] at start
        have hq : tqe_ t z p = p + 1 := by
          unfold tqe_
          rw [if_neg (by omega), if_neg h1, if_neg h2]
        have hv : tv_ t z p = t p := by
          unfold tv_
          rw [if_neg h1, if_neg h2]
        have hk : tk_ t z p = if iss_ (t p) = true then 4 else 1 := by
          unfold tk_
          rw [if_neg (by omega), if_neg h1, if_neg h2]
        by_cases h3 : iss_ (t p) = true
        · rw [if_pos h3] at start hk
          refine ⟨_, start, ⟨?_, ?_, ?_, fun _ => ?_⟩, (by repeat first | exact fr_rf | (refine fr_up57 ?_ (by decide)) | (refine fr_up ?_ (by decide) (by decide)) | (refine fr_row ?_ (by decide) (by decide)))⟩
          · rw [u_ne2 (by decide), u_eq, hq]
          · rw [u_ne2 (by decide), u_ne2 (by decide), u_ne2 (by decide), e12]
          · rw [u_eq, hk]; rfl
          · rw [u_ne2 (by decide), u_ne2 (by decide), u_eq, hv]
        · rw [if_neg h3] at start hk
          refine ⟨_, start, ⟨?_, ?_, ?_, fun h => ?_⟩, (by repeat first | exact fr_rf | (refine fr_up57 ?_ (by decide)) | (refine fr_up ?_ (by decide) (by decide)) | (refine fr_row ?_ (by decide) (by decide)))⟩
          · rw [u_eq, hq]
          · rw [u_ne2 (by decide), u_ne2 (by decide), e12]
          · rw [u_ne2 (by decide), u_ne2 (by decide), u_eq, hk]; rfl
          · rw [hk] at h; omega
  · have hk : tk_ t z p = 0 := if_pos (by omega)
    have hq : tqe_ t z p = p := if_pos (by omega)
    refine ⟨nd_up (nd_up (nd_up (nd_up r 60 10 (nI p)) 60 11 (nI p)) 60 12 1) 60 12 0, ?_, ⟨?_, ?_, ?_, fun h => ?_⟩, (by repeat first | exact fr_rf | (refine fr_up57 ?_ (by decide)) | (refine fr_up ?_ (by decide) (by decide)) | (refine fr_row ?_ (by decide) (by decide)))⟩
    · show f_X11_reads_0_b F _ _ = _
      unfold f_X11_reads_0_b
      rw [u_eq, rawN hb' hp, n_bind, if_neg hpz, if_neg (by decide), u_eq, rawN hb' hp, n_bind, if_neg hpz, if_neg (by decide), u_eq, n_let, n_let, g10, rawN hb2 hp, n_bind, if_neg hpz, if_pos rfl, n_let]
    · rw [u_ne2 (by decide), g10, hq]
    · rw [u_ne2 (by decide), u_ne2 (by decide), u_eq]
    · rw [u_eq, hk]; rfl
    · rw [hk] at h; omega
theorem m_reads (hF : 300000 ≤ F) (hb : rb_ r t z) {s : Nat} (hs : r 60 10 = nI s) (hsz : s ≤ z) : ∃ r' : nd_Mem, f_X11_reads F r = some (0, r') ∧ rt_ r' t z (tn_ t z s) ∧ fr_ [] [10, 11, 12, 13] r r' := by
  have hz := hb.1
  obtain ⟨f', q⟩ := m_skip (F := F) hb (z - s) s F (by omega) (by omega)
  obtain ⟨r', q1, q2, q3⟩ := m_tok (f := f') hF hb (tn_le (t := t) hsz).2 (fun h => tn_no hsz h)
  refine ⟨r', ?_, q2, q3⟩
  unfold f_X11_reads
  rw [show r = nd_up r 60 10 (nI s) from (up_same hs).symm, q]
  exact q1
end RD
