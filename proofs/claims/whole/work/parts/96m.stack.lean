/-! text: what waits -/
def skc_ (r : nd_Mem) : List Nat → Prop
  | [] => True
  | x :: S => r 74 S.length = nI x ∧ skc_ r S
def skk_ (r : nd_Mem) (S : List Nat) : Prop := r 60 26 = nI S.length ∧ skc_ r S
/-- a quiet move of the reference -/
def frq_ (n : Nat) (r r' : nd_Mem) : Prop := fr_ [72, 73, 74] [23, 24, 26] r r' ∧ ∀ i : Nat, i < 800 + n → r' 72 i = r 72 i ∧ r' 73 i = r 73 i
def frm_ (n : Nat) (r r' : nd_Mem) : Prop := fr_ [72, 73, 74] [10, 11, 12, 13, 23, 24, 26, 27, 28] r r' ∧ ∀ i : Nat, i < 800 + n → r' 72 i = r 72 i ∧ r' 73 i = r 73 i
section ST
variable {F z p n k m : Nat} {c r r' : nd_Mem} {t : Nat → Nat} {S : List Nat}
theorem skc_c : ∀ S : List Nat, (∀ i : Nat, i < S.length → r' 74 i = r 74 i) → skc_ r S → skc_ r' S := by
  intro S
  induction S with
  | nil => intro _ _; trivial
  | cons x S ih =>
    intro h hs
    refine ⟨?_, ih (fun i hi => h i (by show i < S.length + 1; omega)) hs.2⟩
    rw [h S.length (by show S.length < S.length + 1; omega)]
    exact hs.1
theorem frq_rf : frq_ n r r := ⟨fr_rf, fun _ _ => ⟨rfl, rfl⟩⟩
theorem frq_tr {r1 r2 r3 : nd_Mem} (h1 : frq_ n r1 r2) (h2 : frq_ m r2 r3) (hn : n ≤ m) : frq_ n r1 r3 := ⟨⟨fun i a b => (h2.1.1 i a b).trans (h1.1.1 i a b), fun j a => (h2.1.2 j a).trans (h1.1.2 j a)⟩, fun i hi => ⟨(h2.2 i (by omega)).1.trans (h1.2 i hi).1, (h2.2 i (by omega)).2.trans (h1.2 i hi).2⟩⟩
theorem frm_tr {r1 r2 r3 : nd_Mem} (h1 : frm_ n r1 r2) (h2 : frm_ m r2 r3) (hn : n ≤ m) : frm_ n r1 r3 := ⟨⟨fun i a b => (h2.1.1 i a b).trans (h1.1.1 i a b), fun j a => (h2.1.2 j a).trans (h1.1.2 j a)⟩, fun i hi => ⟨(h2.2 i (by omega)).1.trans (h1.2 i hi).1, (h2.2 i (by omega)).2.trans (h1.2 i hi).2⟩⟩
theorem frm_rf : frm_ n r r := ⟨fr_rf, fun _ _ => ⟨rfl, rfl⟩⟩
theorem frm_q (h : frq_ n r r') : frm_ n r r' := ⟨fr_w h.1 (fun i hi => hi) (fun j hj => by
  simp only [List.mem_cons, List.not_mem_nil, or_false] at hj ⊢
  omega), h.2⟩
theorem frm_r (h : frr_ n r r') : frm_ n r r' := ⟨fr_w h.1 (fun i hi => by
  simp only [List.mem_cons, List.not_mem_nil, or_false] at hi ⊢
  omega) (fun j hj => by
  simp only [List.mem_cons, List.not_mem_nil, or_false] at hj ⊢
  omega), h.2⟩
theorem ps_q (h : frq_ n r r') (hp : ps_k c r t z k p) : ps_k c r' t z k p := by
  obtain ⟨h1, h2, ⟨b1, b2, b3, b4, b5⟩, h4, h5⟩ := hp
  refine ⟨h1, h2, ⟨b1, b2, by rw [h.1.2 9 (by decide)]; exact b3, fun i hi => by rw [h.1.1 65 (by decide) (by decide)]; exact b4 i hi, fun i hi => by rw [h.1.1 66 (by decide) (by decide)]; exact b5 i hi⟩, ?_, h5⟩
  unfold rt_
  rw [h.1.2 10 (by decide), h.1.2 11 (by decide), h.1.2 12 (by decide), h.1.2 13 (by decide)]
  exact h4
theorem skk_r (h : frr_ n r r') (hs : skk_ r S) : skk_ r' S := ⟨by rw [h.1.2 26 (by decide)]; exact hs.1, skc_c S (fun i _ => by rw [h.1.1 74 (by decide) (by decide)]) hs.2⟩
theorem w_x {x : Nat} {y : Int32} (hy : y = nI x) (hs : skk_ r S) (hl : S.length < 40) (n : Nat) : ∃ r' : nd_Mem, f_X11_waits F y r = some (0, r') ∧ skk_ r' (x :: S) ∧ frq_ n r r' ∧ r' 60 23 = r 60 23 ∧ r' 60 24 = r 60 24 ∧ r' 72 = r 72 ∧ r' 73 = r 73 := by
  subst hy
  refine ⟨nd_up (nd_up r 74 S.length (nI x)) 60 26 (nI (S.length + 1)), ?_, ⟨?_, ?_, ?_⟩, ⟨(by repeat first | exact fr_rf | (refine fr_up57 ?_ (by decide)) | (refine fr_up ?_ (by decide) (by decide)) | (refine fr_row ?_ (by decide) (by decide))), fun i _ => ⟨?_, ?_⟩⟩, ?_, ?_, ?_, ?_⟩
  · unfold f_X11_waits
    rw [hs.1, if_neg (nI_in (by omega) (by decide)), nI_clamp (by omega), n_let, u_ne1 (by decide), hs.1, nI_1, n_let]
  · rw [u_eq]; rfl
  · rw [u_ne1 (by decide), u_eq]
  · exact skc_c S (fun i hi => by rw [u_ne1 (by decide), u_ne2 (by omega)]) hs.2
  · rw [u_ne1 (by decide), u_ne1 (by decide)]
  · rw [u_ne1 (by decide), u_ne1 (by decide)]
  · rw [u_ne2 (by decide), u_ne1 (by decide)]
  · rw [u_ne2 (by decide), u_ne1 (by decide)]
  · rw [nd_up_ne (by decide), nd_up_ne (by decide)]
  · rw [nd_up_ne (by decide), nd_up_ne (by decide)]
theorem em_r {o a : Int32} (h : r 60 23 = nI m) (hm : m < 400) : f_X11_emits F o a r = some (0, nd_up (nd_up (nd_up r 72 (800 + m) o) 73 (800 + m) a) 60 23 (nI (m + 1))) := by
  have e8 : (800 : Int32) + nI m = nI (800 + m) := n_add 800 m
  have g : nd_up r 72 (800 + m) o 60 23 = nI m := by rw [u_ne1 (by decide)]; exact h
  have g2 : nd_up (nd_up r 72 (800 + m) o) 73 (800 + m) a 60 23 = nI m := by rw [u_ne1 (by decide)]; exact g
  unfold f_X11_emits
  rw [h, e8, if_neg (nI_in (by omega) (by decide)), nI_clamp (by omega), n_let, g, e8, if_neg (nI_in (by omega) (by decide)), nI_clamp (by omega), n_let, g2, nI_1, n_let]
/-- one that waits comes out -/
theorem s_hit {x f : Nat} (hx : x < 100) (hs : skk_ r (x :: S)) (hl : S.length < 40) (h23 : r 60 23 = nI m) (hm : m < 400) {o : Nat} (h24 : r 60 24 = nI o) (ho : x = 9 → 1 ≤ o) : ∃ r' : nd_Mem, f_X11_settles_0 F (f + 1) (nI x) r = f_X11_settles_0 F f (nI x) r' ∧ skk_ r' S ∧ frq_ m r r' ∧ r' 60 23 = nI (m + 1) ∧ r' 60 24 = nI (if x = 9 then o - 1 else o) ∧ r' 72 (800 + m) = nI x ∧ r' 73 (800 + m) = 0 := by
  obtain ⟨h26, h71, hrest⟩ := hs
  have h26 : r 60 26 = nI (S.length + 1) := h26
  have e1 : nI (S.length + 1) - (1 : Int32) = nI S.length := by
    have : nI (S.length + 1) - nI 1 = nI (S.length + 1 - 1) := n_sub (by omega)
    rw [Nat.add_sub_cancel] at this
    exact this
  have g23 : nd_up r 60 26 (nI S.length) 60 23 = nI m := by rw [u_ne2 (by decide)]; exact h23
  have step : f_X11_settles_0 F (f + 1) (nI x) r = (if x = 9 then f_X11_settles_0 F f (nI x) (nd_up (nd_up (nd_up (nd_up (nd_up r 60 26 (nI S.length)) 72 (800 + m) (nI x)) 73 (800 + m) 0) 60 23 (nI (m + 1))) 60 24 (nI (o - 1))) else f_X11_settles_0 F f (nI x) (nd_up (nd_up (nd_up (nd_up r 60 26 (nI S.length)) 72 (800 + m) (nI x)) 73 (800 + m) 0) 60 23 (nI (m + 1)))) := by
    show f_X11_settles_0_b F _ _ _ = _
    unfold f_X11_settles_0_b
    rw [h26, if_neg (show ¬ nI (S.length + 1) ≤ (0 : Int32) from nI_ge (a := 0) (by omega) (by omega)), e1, if_neg (nI_in (by omega) (by decide)), nI_clamp (by omega), h71, if_pos rfl, n_let, em_r g23 hm, n_bind]
    by_cases h9 : x = 9
    · have := ho h9
      rw [if_pos h9, if_pos (show nI x = (9 : Int32) by rw [h9]; rfl), u_ne2 (by decide), u_ne1 (by decide), u_ne1 (by decide), u_ne2 (by decide), h24, show nI o - (1 : Int32) = nI (o - 1) from n_sub (b := 1) this, n_let]
    · rw [if_neg h9, if_neg (show ¬ nI x = (9 : Int32) from fun e => h9 ((nI_eq (b := 9) (by omega) (by decide)).mp e))]
  by_cases h9 : x = 9
  · rw [if_pos h9] at step ⊢
    refine ⟨_, step, ⟨?_, skc_c S (fun i hi => ?_) hrest⟩, ⟨(by repeat first | exact fr_rf | (refine fr_up57 ?_ (by decide)) | (refine fr_up ?_ (by decide) (by decide)) | (refine fr_row ?_ (by decide) (by decide))), fun i hi => ⟨?_, ?_⟩⟩, ?_, ?_, ?_, ?_⟩
    · rw [u_ne2 (by decide), u_ne2 (by decide), u_ne1 (by decide), u_ne1 (by decide), u_eq]
    · rw [u_ne1 (by decide), u_ne1 (by decide), u_ne1 (by decide), u_ne1 (by decide), u_ne1 (by decide)]
    · rw [u_ne1 (by decide), u_ne1 (by decide), u_ne1 (by decide), u_ne2 (by omega), u_ne1 (by decide)]
    · rw [u_ne1 (by decide), u_ne1 (by decide), u_ne2 (by omega), u_ne1 (by decide), u_ne1 (by decide)]
    · rw [u_ne2 (by decide), u_eq]
    · rw [u_eq]
    · rw [u_ne1 (by decide), u_ne1 (by decide), u_ne1 (by decide), u_eq]
    · rw [u_ne1 (by decide), u_ne1 (by decide), u_eq]
  · rw [if_neg h9] at step ⊢
    refine ⟨_, step, ⟨?_, skc_c S (fun i hi => ?_) hrest⟩, ⟨(by repeat first | exact fr_rf | (refine fr_up57 ?_ (by decide)) | (refine fr_up ?_ (by decide) (by decide)) | (refine fr_row ?_ (by decide) (by decide))), fun i hi => ⟨?_, ?_⟩⟩, ?_, ?_, ?_, ?_⟩
    · rw [u_ne2 (by decide), u_ne1 (by decide), u_ne1 (by decide), u_eq]
    · rw [u_ne1 (by decide), u_ne1 (by decide), u_ne1 (by decide), u_ne1 (by decide)]
    · rw [u_ne1 (by decide), u_ne1 (by decide), u_ne2 (by omega), u_ne1 (by decide)]
    · rw [u_ne1 (by decide), u_ne2 (by omega), u_ne1 (by decide), u_ne1 (by decide)]
    · rw [u_eq]
    · rw [u_ne2 (by decide), u_ne1 (by decide), u_ne1 (by decide), u_ne2 (by decide)]; exact h24
    · rw [u_ne1 (by decide), u_ne1 (by decide), u_eq]
    · rw [u_ne1 (by decide), u_eq]
def ntop_ (x : Nat) (S : List Nat) : Prop := ∀ y T, S = y :: T → y ≠ x
theorem s_miss {x f : Nat} (hx : x < 100) (hs : skk_ r S) (hl : S.length < 40) (hv : ∀ y ∈ S, y < 100) (hn : ntop_ x S) : f_X11_settles_0 F (f + 1) (nI x) r = some (0, r) := by
  show f_X11_settles_0_b F _ _ _ = _
  unfold f_X11_settles_0_b
  cases S with
  | nil =>
    have h26 : r 60 26 = nI 0 := hs.1
    rw [h26, if_pos (show nI 0 ≤ (0 : Int32) by decide)]
  | cons y T =>
    obtain ⟨h26, h71, hrest⟩ := hs
    have h26 : r 60 26 = nI (T.length + 1) := h26
    have hl : T.length + 1 < 40 := hl
    have hy := hv y (List.mem_cons_self)
    have e1 : nI (T.length + 1) - (1 : Int32) = nI T.length := by
      have : nI (T.length + 1) - nI 1 = nI (T.length + 1 - 1) := n_sub (by omega)
      rw [Nat.add_sub_cancel] at this
      exact this
    rw [h26, if_neg (show ¬ nI (T.length + 1) ≤ (0 : Int32) from nI_ge (a := 0) (by omega) (by omega)), e1, if_neg (nI_in (by omega) (by decide)), nI_clamp (by omega), h71, if_neg (fun e => hn y T rfl ((nI_eq (by omega) (by omega)).mp e))]
/-- all nots on top come out -/
theorem s_nots : ∀ (k f m o : Nat) (r : nd_Mem), k < f → skk_ r (List.replicate k 9 ++ S) → k + S.length < 40 → (∀ y ∈ S, y < 100) → ntop_ 9 S → r 60 23 = nI m → m + k ≤ 400 → r 60 24 = nI o → k ≤ o → ∃ r' : nd_Mem, f_X11_settles_0 F f (nI 9) r = some (0, r') ∧ skk_ r' S ∧ frq_ m r r' ∧ r' 60 23 = nI (m + k) ∧ r' 60 24 = nI (o - k) ∧ ∀ i : Nat, m ≤ i → i < m + k → r' 72 (800 + i) = 9 ∧ r' 73 (800 + i) = 0 := by
  intro k
  induction k with
  | zero =>
    intro f m o r hf hs hl hv hn h23 hm h24 ho
    obtain ⟨f, rfl⟩ : ∃ g, f = g + 1 := ⟨f - 1, by omega⟩
    have hs : skk_ r S := hs
    exact ⟨r, s_miss (by decide) hs (by omega) hv hn, hs, frq_rf, h23, h24, fun i h1 h2 => by omega⟩
  | succ k ih =>
    intro f m o r hf hs hl hv hn h23 hm h24 ho
    obtain ⟨f, rfl⟩ : ∃ g, f = g + 1 := ⟨f - 1, by omega⟩
    obtain ⟨r1, a1, a2, a3, a4, a5, a6, a7⟩ := s_hit (F := F) (f := f) (S := List.replicate k 9 ++ S) (x := 9) (by decide) hs (by rw [List.length_append, List.length_replicate]; omega) h23 (by omega) h24 (fun _ => by omega)
    rw [if_pos rfl] at a5
    obtain ⟨r2, b1, b2, b3, b4, b5, b6⟩ := ih f (m + 1) (o - 1) r1 (by omega) a2 (by omega) hv hn a4 (by omega) a5 (by omega)
    refine ⟨r2, a1.trans b1, b2, frq_tr a3 b3 (by omega), by rw [b4]; congr 1; omega, by rw [b5]; congr 1; omega, fun i h1 h2 => ?_⟩
    by_cases hi : i = m
    · rw [hi, (b3.2 (800 + m) (by omega)).1, (b3.2 (800 + m) (by omega)).2]
      exact ⟨a6, a7⟩
    · exact b6 i (by omega) (by omega)
/-- one on top, or none -/
theorem s_one {x : Nat} (hF : 300000 ≤ F) (hx : x < 100) (h9 : x ≠ 9) (hs : skk_ r (x :: S)) (hl : S.length < 40) (hv : ∀ y ∈ S, y < 100) (hn : ntop_ x S) (h23 : r 60 23 = nI m) (hm : m < 400) {o : Nat} (h24 : r 60 24 = nI o) {y : Int32} (hy : y = nI x) : ∃ r' : nd_Mem, f_X11_settles F y r = some (0, r') ∧ skk_ r' S ∧ frq_ m r r' ∧ r' 60 23 = nI (m + 1) ∧ r' 60 24 = nI o ∧ r' 72 (800 + m) = nI x ∧ r' 73 (800 + m) = 0 := by
  subst hy
  obtain ⟨g, rfl⟩ : ∃ g, F = g + 1 + 1 := ⟨F - 2, by omega⟩
  obtain ⟨r1, a1, a2, a3, a4, a5, a6, a7⟩ := s_hit (F := g + 1 + 1) (f := g + 1) hx hs hl h23 hm h24 (fun e => absurd e h9)
  rw [if_neg h9] at a5
  refine ⟨r1, ?_, a2, a3, a4, a5, a6, a7⟩
  unfold f_X11_settles
  rw [a1]
  exact s_miss hx a2 hl hv hn
theorem s_no {x : Nat} (hF : 300000 ≤ F) (hx : x < 100) (hs : skk_ r S) (hl : S.length < 40) (hv : ∀ y ∈ S, y < 100) (hn : ntop_ x S) {y : Int32} (hy : y = nI x) : f_X11_settles F y r = some (0, r) := by
  subst hy
  obtain ⟨g, rfl⟩ : ∃ g, F = g + 1 := ⟨F - 1, by omega⟩
  unfold f_X11_settles
  exact s_miss hx hs hl hv hn
end ST
