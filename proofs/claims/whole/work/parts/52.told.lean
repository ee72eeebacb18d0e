/-! what is told for thought: both sides alike -/
theorem bind_some {r : Int32} {σ : nd_Mem} {k : Int32 → nd_Mem → nd_Res} : nd_bind (some (r, σ)) k = k r σ := rfl
theorem bind_q {q : Int32 × nd_Mem} {k : Int32 → nd_Mem → nd_Res} : nd_bind (some q) k = k q.1 q.2 := rfl
/-- the reference's telling -/
def q_tellM (c a m : Nat) (n : Nat) (x lo hi : Int32) (σ : nd_Mem) : Int32 × nd_Mem := if x = -1 then (0, nd_up σ 60 c 0) else if x < lo ∨ hi < x then (-1, σ) else if m = n then (-1, σ) else (nI (n + 1), nd_up (nd_up σ a n x) 60 c (nI (n + 1)))
theorem e_childM {F : Nat} {σ : nd_Mem} {n : Nat} (hn : σ 60 40 = nI n) (hnm : n ≤ 12) (x : Int32) : f_X11_child F x σ = some (q_tellM 40 81 12 n x 0 1 (nd_up σ 60 0 0)) := by
  have h0 : nd_up σ 60 0 0 60 40 = nI n := by rw [← hn]; rfl
  unfold f_X11_child f_X11_child_36 q_tellM nd_let
  generalize nd_up σ 60 0 0 = τ at h0 ⊢
  dsimp only
  by_cases h1 : x = -1
  · rw [if_pos h1, if_pos h1]
  · rw [if_neg h1, if_neg h1, e_isIn, bind_some]
    by_cases h2 : x < 0 ∨ 1 < x
    · rw [if_pos h2, if_pos h2, if_pos rfl]
    · rw [if_neg h2, if_neg h2, if_neg (by decide), h0]
      by_cases h3 : 12 = n
      · subst h3; rfl
      · rw [if_neg h3, if_neg (show ¬ nI n = 12 from fun e => h3 ((nI_eq (by decide) (by omega)).mp e.symm)), if_neg (nI_in (by omega) (by decide)), nI_clamp (by omega)]
        have e1 : nd_up τ 81 n x 60 40 = nI n := by rw [nd_up_ne (by decide)]; exact h0
        rw [e1, nI_1]
        simp [nd_up]
theorem e_dowryM {F : Nat} {σ : nd_Mem} {n : Nat} (hn : σ 60 50 = nI n) (hnm : n ≤ 10) (x : Int32) : f_X11_dowry F x σ = some (q_tellM 50 89 10 n x 0 60 (nd_up σ 60 0 0)) := by
  have h0 : nd_up σ 60 0 0 60 50 = nI n := by rw [← hn]; rfl
  unfold f_X11_dowry f_X11_dowry_37 q_tellM nd_let
  generalize nd_up σ 60 0 0 = τ at h0 ⊢
  dsimp only
  by_cases h1 : x = -1
  · rw [if_pos h1, if_pos h1]
  · rw [if_neg h1, if_neg h1, e_isIn, bind_some]
    by_cases h2 : x < 0 ∨ 60 < x
    · rw [if_pos h2, if_pos h2, if_pos rfl]
    · rw [if_neg h2, if_neg h2, if_neg (by decide), h0]
      by_cases h3 : 10 = n
      · subst h3; rfl
      · rw [if_neg h3, if_neg (show ¬ nI n = 10 from fun e => h3 ((nI_eq (by decide) (by omega)).mp e.symm)), if_neg (nI_in (by omega) (by decide)), nI_clamp (by omega)]
        have e1 : nd_up τ 89 n x 60 50 = nI n := by rw [nd_up_ne (by decide)]; exact h0
        rw [e1, nI_1]
        simp [nd_up]
theorem e_heightM {F : Nat} {σ : nd_Mem} {n : Nat} (hn : σ 60 61 = nI n) (hnm : n ≤ 10) (x : Int32) : f_X11_height F x σ = some (q_tellM 61 96 10 n x 1 60 (nd_up σ 60 0 0)) := by
  have h0 : nd_up σ 60 0 0 60 61 = nI n := by rw [← hn]; rfl
  unfold f_X11_height f_X11_height_37 q_tellM nd_let
  generalize nd_up σ 60 0 0 = τ at h0 ⊢
  dsimp only
  by_cases h1 : x = -1
  · rw [if_pos h1, if_pos h1]
  · rw [if_neg h1, if_neg h1, e_isIn, bind_some]
    by_cases h2 : x < 1 ∨ 60 < x
    · rw [if_pos h2, if_pos h2, if_pos rfl]
    · rw [if_neg h2, if_neg h2, if_neg (by decide), h0]
      by_cases h3 : 10 = n
      · subst h3; rfl
      · rw [if_neg h3, if_neg (show ¬ nI n = 10 from fun e => h3 ((nI_eq (by decide) (by omega)).mp e.symm)), if_neg (nI_in (by omega) (by decide)), nI_clamp (by omega)]
        have e1 : nd_up τ 96 n x 60 61 = nI n := by rw [nd_up_ne (by decide)]; exact h0
        rw [e1, nI_1]
        simp [nd_up]
/-! frames: which cells, and which slots of the reference's object, may have changed -/
def fr_ (S K : List Nat) (σ τ : nd_Mem) : Prop := (∀ i : Nat, i ∉ S → i ≠ 60 → τ i = σ i) ∧ ∀ k : Nat, k ∉ K → τ 60 k = σ 60 k
def fr_ok (S K D E : List Nat) : Bool := D.all (fun i => !S.contains i && i != 60) && E.all (fun k => !K.contains k)
abbrev fr_eq (D E : List Nat) (σ τ : nd_Mem) : Prop := (∀ i ∈ D, τ i = σ i) ∧ ∀ k ∈ E, τ 60 k = σ 60 k
theorem fr_use {S K D E : List Nat} {σ τ : nd_Mem} (h : fr_ S K σ τ) (ok : fr_ok S K D E = true) : fr_eq D E σ τ := by
  unfold fr_ok at ok
  simp only [Bool.and_eq_true, List.all_eq_true, Bool.not_eq_true', bne_iff_ne, ne_eq, List.contains_eq_mem, decide_eq_false_iff_not] at ok
  exact ⟨fun i hi => h.1 i (ok.1 i hi).1 (ok.1 i hi).2, fun k hk => h.2 k (ok.2 k hk)⟩
theorem fr_rf {S K : List Nat} {σ : nd_Mem} : fr_ S K σ σ := ⟨fun _ _ _ => rfl, fun _ _ => rfl⟩
theorem fr_tr {S K S' K' : List Nat} {σ τ ρ : nd_Mem} (h1 : fr_ S K σ τ) (h2 : fr_ S' K' τ ρ) : fr_ (S ++ S') (K ++ K') σ ρ := by
  refine ⟨fun i hi h57 => ?_, fun k hk => ?_⟩
  · simp only [List.mem_append, not_or] at hi
    rw [h2.1 i hi.2 h57, h1.1 i hi.1 h57]
  · simp only [List.mem_append, not_or] at hk
    rw [h2.2 k hk.2, h1.2 k hk.1]
theorem fr_up {S K : List Nat} {σ τ : nd_Mem} {i k : Nat} {v : Int32} (h : fr_ S K σ τ) (hi : i ∈ S) (h57 : i ≠ 60) : fr_ S K σ (nd_up τ i k v) := by
  refine ⟨fun j hj hj7 => ?_, fun l hl => ?_⟩
  · rw [nd_up_ne (fun e => hj (by rw [e]; exact hi))]; exact h.1 j hj hj7
  · rw [nd_up_ne (Ne.symm h57)]; exact h.2 l hl
theorem fr_up57 {S K : List Nat} {σ τ : nd_Mem} {k : Nat} {v : Int32} (h : fr_ S K σ τ) (hk : k ∈ K) : fr_ S K σ (nd_up τ 60 k v) := by
  refine ⟨fun j hj hj7 => ?_, fun l hl => ?_⟩
  · rw [nd_up_ne hj7]; exact h.1 j hj hj7
  · rw [nd_up_at]
    have : l ≠ k := fun e => hl (by rw [e]; exact hk)
    simp only [upd, this, if_false]
    exact h.2 l hl
theorem fr_w {S K S' K' : List Nat} {σ τ : nd_Mem} (h : fr_ S K σ τ) (hS : ∀ i ∈ S, i ∈ S') (hK : ∀ k ∈ K, k ∈ K') : fr_ S' K' σ τ := ⟨fun i hi => h.1 i (fun e => hi (hS i e)), fun k hk => h.2 k (fun e => hk (hK k e))⟩
/-! the parts of the invariant: told for thought -/
def p1_ (σ : nd_Mem) : Prop := iv_row 12 0 1 (σ 13 1) (σ 14) (σ 60 40) (σ 81)
def p2_ (σ : nd_Mem) : Prop := iv_coup (σ 15 1) (σ 16) (σ 60 45) (σ 85) (σ 86) (σ 87)
def p3_ (σ : nd_Mem) : Prop := iv_row 10 0 60 (σ 17 1) (σ 18) (σ 60 50) (σ 89)
def p4_ (σ : nd_Mem) : Prop := iv_pers (σ 19 1) (σ 20) (σ 60 54) (σ 92) (σ 93)
def p5_ (σ : nd_Mem) : Prop := iv_row 10 1 60 (σ 21 1) (σ 22) (σ 60 61) (σ 96)
def p6_ (σ : nd_Mem) : Prop := ∀ i : Nat, i < 10 → iv_want (σ 23 i) (σ 95 i)
theorem p1_c {σ τ : nd_Mem} (h : fr_eq [13, 14, 81] [40] σ τ) (hp : p1_ σ) : p1_ τ := by
  unfold p1_
  rw [h.1 13 (by decide), h.1 14 (by decide), h.1 81 (by decide), h.2 40 (by decide)]
  exact hp
theorem p2_c {σ τ : nd_Mem} (h : fr_eq [15, 16, 85, 86, 87] [45] σ τ) (hp : p2_ σ) : p2_ τ := by
  unfold p2_
  rw [h.1 15 (by decide), h.1 16 (by decide), h.1 85 (by decide), h.1 86 (by decide), h.1 87 (by decide), h.2 45 (by decide)]
  exact hp
theorem p3_c {σ τ : nd_Mem} (h : fr_eq [17, 18, 89] [50] σ τ) (hp : p3_ σ) : p3_ τ := by
  unfold p3_
  rw [h.1 17 (by decide), h.1 18 (by decide), h.1 89 (by decide), h.2 50 (by decide)]
  exact hp
theorem p4_c {σ τ : nd_Mem} (h : fr_eq [19, 20, 92, 93] [54] σ τ) (hp : p4_ σ) : p4_ τ := by
  unfold p4_
  rw [h.1 19 (by decide), h.1 20 (by decide), h.1 92 (by decide), h.1 93 (by decide), h.2 54 (by decide)]
  exact hp
theorem p5_c {σ τ : nd_Mem} (h : fr_eq [21, 22, 96] [61] σ τ) (hp : p5_ σ) : p5_ τ := by
  unfold p5_
  rw [h.1 21 (by decide), h.1 22 (by decide), h.1 96 (by decide), h.2 61 (by decide)]
  exact hp
theorem p6_c {σ τ : nd_Mem} (h : fr_eq [23, 95] [] σ τ) (hp : p6_ σ) : p6_ τ := by
  unfold p6_
  rw [h.1 23 (by decide), h.1 95 (by decide)]
  exact hp
