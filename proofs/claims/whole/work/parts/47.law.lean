theorem nd_sloadN {M : nd_M} {R : Room} {post : nd_Post} {kc ks pc : Nat} {ls : List (Nat × Value)} {st : List Value} {sh : List nd_S} {σ : nd_Mem} {z : Int32 × nd_Mem} {a : nd_Res} {Ln : Nat} {xs : Nat → Int32} {j : Int32} {d : Decidable (j < 0 ∨ Ln ≤ j.toNatClampNeg)} (hd : decode M.2.1 pc = .ok (.iaload, 1)) (hM : M.2.2.2.2 = some (Ln, xs)) (h : (if j < 0 ∨ Ln ≤ j.toNatClampNeg then none else a) = some z) (kk : a = some z → nd_V M R post kc ks (pc + 1) ls (.int (xs j.toNatClampNeg) :: st) sh σ) : nd_V M R post kc ks pc ls (.int j :: .ref nd_scr :: st) sh σ := nd_sload hd hM (nd_no_e h).1 (kk (nd_no_e h).2)
abbrev M_law (Ln : Nat) (xs : Nat → Int32) : nd_M := (yL_law, cL_law, 4, some .boolean, some (Ln, xs))
def nd_PL : nd_Post := fun r _ _ => r = some (.int 1)
/-- the picture's cells are there if the field says so -/
def nd_rel (t : List nd_S) (σ : nd_Mem) : Prop := (σ 0 10 = 0 ∧ t = []) ∨ (¬ σ 0 10 = 0 ∧ t = nd_PIC)
theorem nd_rel_of {t : List nd_S} {σ σ' : nd_Mem} (h : nd_rel t σ) (e : σ' 0 10 = σ 0 10) : nd_rel t σ' := by unfold nd_rel; rw [e]; exact h
theorem nd_rel_nil {t : List nd_S} {σ : nd_Mem} (h : nd_rel t σ) (e : σ 0 10 = 0) : t = [] := h.elim (fun q => q.2) (fun q => absurd e q.1)
theorem nd_rel_pic {t : List nd_S} {σ : nd_Mem} (h : nd_rel t σ) : ¬ σ 0 10 = 0 → t = nd_PIC := fun e => h.elim (fun q => absurd q.1 e) (fun q => q.2)
theorem nd_shne (t : List nd_S) : nd_SH ++ t ≠ [] := fun e => absurd (congrArg List.length (List.append_eq_nil_iff.mp e).1) (by decide +kernel)
theorem nd_rel_len {t : List nd_S} {σ : nd_Mem} (h : nd_rel t σ) : (nd_SH ++ t).length < nd_ro := by
  rcases h with ⟨-, rfl⟩ | ⟨-, rfl⟩
  · decide +kernel
  · decide +kernel
theorem nd_rel_kc {t : List nd_S} {σ : nd_Mem} (h : nd_rel t σ) : 100 + t.length ≤ room_1.cells := by
  rcases h with ⟨-, rfl⟩ | ⟨-, rfl⟩
  · decide +kernel
  · decide +kernel
def f_law_188 (F Ln : Nat) (xs : Nat → Int32) (rec18 : Int32 → nd_Mem → nd_Res) (x3 : Int32) (σ : nd_Mem) : nd_Res := (if (x3 + (1 : Int32)) < 0 ∨ Ln ≤ ((x3 + (1 : Int32))).toNatClampNeg then none else (nd_bind (f_X10_state F (xs ((x3 + (1 : Int32))).toNatClampNeg) σ) fun r1 σ2 => (if (x3 + (1 : Int32)) < 0 ∨ Ln ≤ ((x3 + (1 : Int32))).toNatClampNeg then none else (nd_bind (f_X11_state F (xs ((x3 + (1 : Int32))).toNatClampNeg) σ2) fun r4 σ5 => (if r1 = r4 then (if ¬ (σ5 0 10 = σ 0 10) then none else (rec18 (x3 + (6 : Int32)) σ5)) else none)))))
def f_law_211 (F Ln : Nat) (xs : Nat → Int32) (rec18 : Int32 → nd_Mem → nd_Res) (x3 : Int32) (σ : nd_Mem) : nd_Res := (if (x3 + (1 : Int32)) < 0 ∨ Ln ≤ ((x3 + (1 : Int32))).toNatClampNeg then none else (if (x3 + (2 : Int32)) < 0 ∨ Ln ≤ ((x3 + (2 : Int32))).toNatClampNeg then none else (if (x3 + (3 : Int32)) < 0 ∨ Ln ≤ ((x3 + (3 : Int32))).toNatClampNeg then none else (nd_bind (f_X10_house F (xs ((x3 + (1 : Int32))).toNatClampNeg) (xs ((x3 + (2 : Int32))).toNatClampNeg) (xs ((x3 + (3 : Int32))).toNatClampNeg) σ) fun r1 σ2 => (if (x3 + (1 : Int32)) < 0 ∨ Ln ≤ ((x3 + (1 : Int32))).toNatClampNeg then none else (if (x3 + (2 : Int32)) < 0 ∨ Ln ≤ ((x3 + (2 : Int32))).toNatClampNeg then none else (if (x3 + (3 : Int32)) < 0 ∨ Ln ≤ ((x3 + (3 : Int32))).toNatClampNeg then none else (nd_bind (f_X11_house F (xs ((x3 + (1 : Int32))).toNatClampNeg) (xs ((x3 + (2 : Int32))).toNatClampNeg) (xs ((x3 + (3 : Int32))).toNatClampNeg) σ2) fun r4 σ5 => (if r1 = r4 then (if ¬ (σ5 0 10 = σ 0 10) then none else (rec18 (x3 + (6 : Int32)) σ5)) else none)))))))))
def f_law_254 (F Ln : Nat) (xs : Nat → Int32) (rec18 : Int32 → nd_Mem → nd_Res) (x3 : Int32) (σ : nd_Mem) : nd_Res := (if (x3 + (1 : Int32)) < 0 ∨ Ln ≤ ((x3 + (1 : Int32))).toNatClampNeg then none else (if (x3 + (2 : Int32)) < 0 ∨ Ln ≤ ((x3 + (2 : Int32))).toNatClampNeg then none else (if (x3 + (3 : Int32)) < 0 ∨ Ln ≤ ((x3 + (3 : Int32))).toNatClampNeg then none else (nd_bind (f_X10_set F (xs ((x3 + (1 : Int32))).toNatClampNeg) (xs ((x3 + (2 : Int32))).toNatClampNeg) (xs ((x3 + (3 : Int32))).toNatClampNeg) σ) fun r1 σ2 => (if (x3 + (1 : Int32)) < 0 ∨ Ln ≤ ((x3 + (1 : Int32))).toNatClampNeg then none else (if (x3 + (2 : Int32)) < 0 ∨ Ln ≤ ((x3 + (2 : Int32))).toNatClampNeg then none else (if (x3 + (3 : Int32)) < 0 ∨ Ln ≤ ((x3 + (3 : Int32))).toNatClampNeg then none else (nd_bind (f_X11_set F (xs ((x3 + (1 : Int32))).toNatClampNeg) (xs ((x3 + (2 : Int32))).toNatClampNeg) (xs ((x3 + (3 : Int32))).toNatClampNeg) σ2) fun r4 σ5 => (if r1 = r4 then (if ¬ (σ5 0 10 = σ 0 10) then none else (rec18 (x3 + (6 : Int32)) σ5)) else none)))))))))
def f_law_297 (F Ln : Nat) (xs : Nat → Int32) (rec18 : Int32 → nd_Mem → nd_Res) (x3 : Int32) (σ : nd_Mem) : nd_Res := (if (x3 + (1 : Int32)) < 0 ∨ Ln ≤ ((x3 + (1 : Int32))).toNatClampNeg then none else (if (x3 + (2 : Int32)) < 0 ∨ Ln ≤ ((x3 + (2 : Int32))).toNatClampNeg then none else (nd_bind (f_X10_act F (xs ((x3 + (1 : Int32))).toNatClampNeg) (xs ((x3 + (2 : Int32))).toNatClampNeg) σ) fun r1 σ2 => (if (x3 + (1 : Int32)) < 0 ∨ Ln ≤ ((x3 + (1 : Int32))).toNatClampNeg then none else (if (x3 + (2 : Int32)) < 0 ∨ Ln ≤ ((x3 + (2 : Int32))).toNatClampNeg then none else (nd_bind (f_X11_act F (xs ((x3 + (1 : Int32))).toNatClampNeg) (xs ((x3 + (2 : Int32))).toNatClampNeg) σ2) fun r4 σ5 => (if r1 = r4 then (if ¬ (σ5 0 10 = σ 0 10) then none else (rec18 (x3 + (6 : Int32)) σ5)) else none)))))))
def f_law_330 (F Ln : Nat) (xs : Nat → Int32) (rec18 : Int32 → nd_Mem → nd_Res) (x3 : Int32) (σ : nd_Mem) : nd_Res := (if (x3 + (1 : Int32)) < 0 ∨ Ln ≤ ((x3 + (1 : Int32))).toNatClampNeg then none else (nd_bind (f_X10_years F (xs ((x3 + (1 : Int32))).toNatClampNeg) σ) fun r1 σ2 => (if (x3 + (1 : Int32)) < 0 ∨ Ln ≤ ((x3 + (1 : Int32))).toNatClampNeg then none else (nd_bind (f_X11_years F (xs ((x3 + (1 : Int32))).toNatClampNeg) σ2) fun r4 σ5 => (if r1 = r4 then (if ¬ (σ5 0 10 = σ 0 10) then none else (rec18 (x3 + (6 : Int32)) σ5)) else none)))))
def f_law_353 (F Ln : Nat) (xs : Nat → Int32) (rec18 : Int32 → nd_Mem → nd_Res) (x3 : Int32) (σ : nd_Mem) : nd_Res := (if (x3 + (1 : Int32)) < 0 ∨ Ln ≤ ((x3 + (1 : Int32))).toNatClampNeg then none else (if (x3 + (2 : Int32)) < 0 ∨ Ln ≤ ((x3 + (2 : Int32))).toNatClampNeg then none else (if (x3 + (3 : Int32)) < 0 ∨ Ln ≤ ((x3 + (3 : Int32))).toNatClampNeg then none else (if (x3 + (4 : Int32)) < 0 ∨ Ln ≤ ((x3 + (4 : Int32))).toNatClampNeg then none else (if (x3 + (5 : Int32)) < 0 ∨ Ln ≤ ((x3 + (5 : Int32))).toNatClampNeg then none else (nd_bind (f_X10_feed F (xs ((x3 + (1 : Int32))).toNatClampNeg) (xs ((x3 + (2 : Int32))).toNatClampNeg) (xs ((x3 + (3 : Int32))).toNatClampNeg) (xs ((x3 + (4 : Int32))).toNatClampNeg) (xs ((x3 + (5 : Int32))).toNatClampNeg) σ) fun r1 σ2 => (if (x3 + (1 : Int32)) < 0 ∨ Ln ≤ ((x3 + (1 : Int32))).toNatClampNeg then none else (if (x3 + (2 : Int32)) < 0 ∨ Ln ≤ ((x3 + (2 : Int32))).toNatClampNeg then none else (if (x3 + (3 : Int32)) < 0 ∨ Ln ≤ ((x3 + (3 : Int32))).toNatClampNeg then none else (if (x3 + (4 : Int32)) < 0 ∨ Ln ≤ ((x3 + (4 : Int32))).toNatClampNeg then none else (if (x3 + (5 : Int32)) < 0 ∨ Ln ≤ ((x3 + (5 : Int32))).toNatClampNeg then none else (nd_bind (f_X11_feed F (xs ((x3 + (1 : Int32))).toNatClampNeg) (xs ((x3 + (2 : Int32))).toNatClampNeg) (xs ((x3 + (3 : Int32))).toNatClampNeg) (xs ((x3 + (4 : Int32))).toNatClampNeg) (xs ((x3 + (5 : Int32))).toNatClampNeg) σ2) fun r4 σ5 => (if r1 = r4 then (if ¬ (σ5 0 10 = σ 0 10) then none else (rec18 (x3 + (6 : Int32)) σ5)) else none)))))))))))))
def f_law_416 (F Ln : Nat) (xs : Nat → Int32) (rec18 : Int32 → nd_Mem → nd_Res) (x3 : Int32) (σ : nd_Mem) : nd_Res := (if (x3 + (1 : Int32)) < 0 ∨ Ln ≤ ((x3 + (1 : Int32))).toNatClampNeg then none else (nd_bind (f_X10_end F (xs ((x3 + (1 : Int32))).toNatClampNeg) σ) fun r1 σ2 => (if (x3 + (1 : Int32)) < 0 ∨ Ln ≤ ((x3 + (1 : Int32))).toNatClampNeg then none else (nd_bind (f_X11_end F (xs ((x3 + (1 : Int32))).toNatClampNeg) σ2) fun r4 σ5 => (if r1 = r4 then (if ¬ (σ5 0 10 = σ 0 10) then none else (rec18 (x3 + (6 : Int32)) σ5)) else none)))))
def f_law_439 (F Ln : Nat) (xs : Nat → Int32) (rec18 : Int32 → nd_Mem → nd_Res) (x3 : Int32) (σ : nd_Mem) : nd_Res := (if (x3 + (1 : Int32)) < 0 ∨ Ln ≤ ((x3 + (1 : Int32))).toNatClampNeg then none else (nd_bind (f_X10_text F (xs ((x3 + (1 : Int32))).toNatClampNeg) σ) fun r1 σ2 => (if (x3 + (1 : Int32)) < 0 ∨ Ln ≤ ((x3 + (1 : Int32))).toNatClampNeg then none else (nd_bind (f_X11_text F (xs ((x3 + (1 : Int32))).toNatClampNeg) σ2) fun r4 σ5 => (if r1 = r4 then (if ¬ (σ5 0 10 = σ 0 10) then none else (rec18 (x3 + (6 : Int32)) σ5)) else none)))))
def f_law_462 (F Ln : Nat) (xs : Nat → Int32) (rec18 : Int32 → nd_Mem → nd_Res) (x3 : Int32) (σ : nd_Mem) : nd_Res := (if (x3 + (1 : Int32)) < 0 ∨ Ln ≤ ((x3 + (1 : Int32))).toNatClampNeg then none else (nd_bind (f_X10_fault F (xs ((x3 + (1 : Int32))).toNatClampNeg) σ) fun r1 σ2 => (if (x3 + (1 : Int32)) < 0 ∨ Ln ≤ ((x3 + (1 : Int32))).toNatClampNeg then none else (nd_bind (f_X11_fault F (xs ((x3 + (1 : Int32))).toNatClampNeg) σ2) fun r4 σ5 => (if r1 = r4 then (if ¬ (σ5 0 10 = σ 0 10) then none else (rec18 (x3 + (6 : Int32)) σ5)) else none)))))
def f_law_485 (F Ln : Nat) (xs : Nat → Int32) (rec18 : Int32 → nd_Mem → nd_Res) (x3 : Int32) (σ : nd_Mem) : nd_Res := (if (x3 + (1 : Int32)) < 0 ∨ Ln ≤ ((x3 + (1 : Int32))).toNatClampNeg then none else (if (x3 + (2 : Int32)) < 0 ∨ Ln ≤ ((x3 + (2 : Int32))).toNatClampNeg then none else (nd_bind (f_X10_of F (xs ((x3 + (1 : Int32))).toNatClampNeg) (xs ((x3 + (2 : Int32))).toNatClampNeg) σ) fun r1 σ2 => (if (x3 + (1 : Int32)) < 0 ∨ Ln ≤ ((x3 + (1 : Int32))).toNatClampNeg then none else (if (x3 + (2 : Int32)) < 0 ∨ Ln ≤ ((x3 + (2 : Int32))).toNatClampNeg then none else (nd_bind (f_X11_of F (xs ((x3 + (1 : Int32))).toNatClampNeg) (xs ((x3 + (2 : Int32))).toNatClampNeg) σ2) fun r4 σ5 => (if r1 = r4 then (if ¬ (σ5 0 10 = σ 0 10) then none else (rec18 (x3 + (6 : Int32)) σ5)) else none)))))))
def f_law_518 (F Ln : Nat) (xs : Nat → Int32) (rec18 : Int32 → nd_Mem → nd_Res) (x3 : Int32) (σ : nd_Mem) : nd_Res := (if (x3 + (1 : Int32)) < 0 ∨ Ln ≤ ((x3 + (1 : Int32))).toNatClampNeg then none else (if (x3 + (2 : Int32)) < 0 ∨ Ln ≤ ((x3 + (2 : Int32))).toNatClampNeg then none else (nd_bind (f_X10_book F (xs ((x3 + (1 : Int32))).toNatClampNeg) (xs ((x3 + (2 : Int32))).toNatClampNeg) σ) fun r1 σ2 => (if (x3 + (1 : Int32)) < 0 ∨ Ln ≤ ((x3 + (1 : Int32))).toNatClampNeg then none else (if (x3 + (2 : Int32)) < 0 ∨ Ln ≤ ((x3 + (2 : Int32))).toNatClampNeg then none else (nd_bind (f_X11_book F (xs ((x3 + (1 : Int32))).toNatClampNeg) (xs ((x3 + (2 : Int32))).toNatClampNeg) σ2) fun r4 σ5 => (if r1 = r4 then (if ¬ (σ5 0 10 = σ 0 10) then none else (rec18 (x3 + (6 : Int32)) σ5)) else none)))))))
def f_law_551 (F Ln : Nat) (xs : Nat → Int32) (rec18 : Int32 → nd_Mem → nd_Res) (x3 : Int32) (σ : nd_Mem) : nd_Res := (if (x3 + (1 : Int32)) < 0 ∨ Ln ≤ ((x3 + (1 : Int32))).toNatClampNeg then none else (if (x3 + (2 : Int32)) < 0 ∨ Ln ≤ ((x3 + (2 : Int32))).toNatClampNeg then none else (nd_bind (f_X10_goes F (xs ((x3 + (1 : Int32))).toNatClampNeg) (xs ((x3 + (2 : Int32))).toNatClampNeg) σ) fun r1 σ2 => (if (x3 + (1 : Int32)) < 0 ∨ Ln ≤ ((x3 + (1 : Int32))).toNatClampNeg then none else (if (x3 + (2 : Int32)) < 0 ∨ Ln ≤ ((x3 + (2 : Int32))).toNatClampNeg then none else (nd_bind (f_X11_goes F (xs ((x3 + (1 : Int32))).toNatClampNeg) (xs ((x3 + (2 : Int32))).toNatClampNeg) σ2) fun r4 σ5 => (if r1 = r4 then (if ¬ (σ5 0 10 = σ 0 10) then none else (rec18 (x3 + (6 : Int32)) σ5)) else none)))))))
def f_law_584 (F Ln : Nat) (xs : Nat → Int32) (rec18 : Int32 → nd_Mem → nd_Res) (x3 : Int32) (σ : nd_Mem) : nd_Res := (if (x3 + (1 : Int32)) < 0 ∨ Ln ≤ ((x3 + (1 : Int32))).toNatClampNeg then none else (nd_bind (f_X10_jug F (xs ((x3 + (1 : Int32))).toNatClampNeg) σ) fun r1 σ2 => (if (x3 + (1 : Int32)) < 0 ∨ Ln ≤ ((x3 + (1 : Int32))).toNatClampNeg then none else (nd_bind (f_X11_jug F (xs ((x3 + (1 : Int32))).toNatClampNeg) σ2) fun r4 σ5 => (if r1 = r4 then (if ¬ (σ5 0 10 = σ 0 10) then none else (rec18 (x3 + (6 : Int32)) σ5)) else none)))))
def f_law_607 (F Ln : Nat) (xs : Nat → Int32) (rec18 : Int32 → nd_Mem → nd_Res) (x3 : Int32) (σ : nd_Mem) : nd_Res := (if (x3 + (1 : Int32)) < 0 ∨ Ln ≤ ((x3 + (1 : Int32))).toNatClampNeg then none else (if (x3 + (2 : Int32)) < 0 ∨ Ln ≤ ((x3 + (2 : Int32))).toNatClampNeg then none else (if (x3 + (3 : Int32)) < 0 ∨ Ln ≤ ((x3 + (3 : Int32))).toNatClampNeg then none else (if (x3 + (4 : Int32)) < 0 ∨ Ln ≤ ((x3 + (4 : Int32))).toNatClampNeg then none else (nd_bind (f_X10_meets F (xs ((x3 + (1 : Int32))).toNatClampNeg) (xs ((x3 + (2 : Int32))).toNatClampNeg) (xs ((x3 + (3 : Int32))).toNatClampNeg) (xs ((x3 + (4 : Int32))).toNatClampNeg) σ) fun r1 σ2 => (if (x3 + (1 : Int32)) < 0 ∨ Ln ≤ ((x3 + (1 : Int32))).toNatClampNeg then none else (if (x3 + (2 : Int32)) < 0 ∨ Ln ≤ ((x3 + (2 : Int32))).toNatClampNeg then none else (if (x3 + (3 : Int32)) < 0 ∨ Ln ≤ ((x3 + (3 : Int32))).toNatClampNeg then none else (if (x3 + (4 : Int32)) < 0 ∨ Ln ≤ ((x3 + (4 : Int32))).toNatClampNeg then none else (nd_bind (f_X11_meets F (xs ((x3 + (1 : Int32))).toNatClampNeg) (xs ((x3 + (2 : Int32))).toNatClampNeg) (xs ((x3 + (3 : Int32))).toNatClampNeg) (xs ((x3 + (4 : Int32))).toNatClampNeg) σ2) fun r4 σ5 => (if r1 = r4 then (if ¬ (σ5 0 10 = σ 0 10) then none else (rec18 (x3 + (6 : Int32)) σ5)) else none)))))))))))
def f_law_660 (F Ln : Nat) (xs : Nat → Int32) (rec18 : Int32 → nd_Mem → nd_Res) (x3 : Int32) (σ : nd_Mem) : nd_Res := (if (x3 + (1 : Int32)) < 0 ∨ Ln ≤ ((x3 + (1 : Int32))).toNatClampNeg then none else (nd_bind (f_X10_child F (xs ((x3 + (1 : Int32))).toNatClampNeg) σ) fun r1 σ2 => (if (x3 + (1 : Int32)) < 0 ∨ Ln ≤ ((x3 + (1 : Int32))).toNatClampNeg then none else (nd_bind (f_X11_child F (xs ((x3 + (1 : Int32))).toNatClampNeg) σ2) fun r4 σ5 => (if r1 = r4 then (if ¬ (σ5 0 10 = σ 0 10) then none else (rec18 (x3 + (6 : Int32)) σ5)) else none)))))
def f_law_683 (F Ln : Nat) (xs : Nat → Int32) (rec18 : Int32 → nd_Mem → nd_Res) (x3 : Int32) (σ : nd_Mem) : nd_Res := (if (x3 + (1 : Int32)) < 0 ∨ Ln ≤ ((x3 + (1 : Int32))).toNatClampNeg then none else (nd_bind (f_X10_planned F (xs ((x3 + (1 : Int32))).toNatClampNeg) σ) fun r1 σ2 => (if (x3 + (1 : Int32)) < 0 ∨ Ln ≤ ((x3 + (1 : Int32))).toNatClampNeg then none else (nd_bind (f_X11_planned F (xs ((x3 + (1 : Int32))).toNatClampNeg) σ2) fun r4 σ5 => (if r1 = r4 then (if ¬ (σ5 0 10 = σ 0 10) then none else (rec18 (x3 + (6 : Int32)) σ5)) else none)))))
def f_law_706 (F Ln : Nat) (xs : Nat → Int32) (rec18 : Int32 → nd_Mem → nd_Res) (x3 : Int32) (σ : nd_Mem) : nd_Res := (if (x3 + (1 : Int32)) < 0 ∨ Ln ≤ ((x3 + (1 : Int32))).toNatClampNeg then none else (if (x3 + (2 : Int32)) < 0 ∨ Ln ≤ ((x3 + (2 : Int32))).toNatClampNeg then none else (nd_bind (f_X10_siding F (xs ((x3 + (1 : Int32))).toNatClampNeg) (xs ((x3 + (2 : Int32))).toNatClampNeg) σ) fun r1 σ2 => (if (x3 + (1 : Int32)) < 0 ∨ Ln ≤ ((x3 + (1 : Int32))).toNatClampNeg then none else (if (x3 + (2 : Int32)) < 0 ∨ Ln ≤ ((x3 + (2 : Int32))).toNatClampNeg then none else (nd_bind (f_X11_siding F (xs ((x3 + (1 : Int32))).toNatClampNeg) (xs ((x3 + (2 : Int32))).toNatClampNeg) σ2) fun r4 σ5 => (if r1 = r4 then (if ¬ (σ5 0 10 = σ 0 10) then none else (rec18 (x3 + (6 : Int32)) σ5)) else none)))))))
def f_law_739 (F Ln : Nat) (xs : Nat → Int32) (rec18 : Int32 → nd_Mem → nd_Res) (x3 : Int32) (σ : nd_Mem) : nd_Res := (if (x3 + (1 : Int32)) < 0 ∨ Ln ≤ ((x3 + (1 : Int32))).toNatClampNeg then none else (if (x3 + (2 : Int32)) < 0 ∨ Ln ≤ ((x3 + (2 : Int32))).toNatClampNeg then none else (nd_bind (f_X10_bought F (xs ((x3 + (1 : Int32))).toNatClampNeg) (xs ((x3 + (2 : Int32))).toNatClampNeg) σ) fun r1 σ2 => (if (x3 + (1 : Int32)) < 0 ∨ Ln ≤ ((x3 + (1 : Int32))).toNatClampNeg then none else (if (x3 + (2 : Int32)) < 0 ∨ Ln ≤ ((x3 + (2 : Int32))).toNatClampNeg then none else (nd_bind (f_X11_bought F (xs ((x3 + (1 : Int32))).toNatClampNeg) (xs ((x3 + (2 : Int32))).toNatClampNeg) σ2) fun r4 σ5 => (if r1 = r4 then (if ¬ (σ5 0 10 = σ 0 10) then none else (rec18 (x3 + (6 : Int32)) σ5)) else none)))))))
def f_law_772 (F Ln : Nat) (xs : Nat → Int32) (rec18 : Int32 → nd_Mem → nd_Res) (x3 : Int32) (σ : nd_Mem) : nd_Res := (if (x3 + (1 : Int32)) < 0 ∨ Ln ≤ ((x3 + (1 : Int32))).toNatClampNeg then none else (if (x3 + (2 : Int32)) < 0 ∨ Ln ≤ ((x3 + (2 : Int32))).toNatClampNeg then none else (nd_bind (f_X10_rows F (xs ((x3 + (1 : Int32))).toNatClampNeg) (xs ((x3 + (2 : Int32))).toNatClampNeg) σ) fun r1 σ2 => (if (x3 + (1 : Int32)) < 0 ∨ Ln ≤ ((x3 + (1 : Int32))).toNatClampNeg then none else (if (x3 + (2 : Int32)) < 0 ∨ Ln ≤ ((x3 + (2 : Int32))).toNatClampNeg then none else (nd_bind (f_X11_rows F (xs ((x3 + (1 : Int32))).toNatClampNeg) (xs ((x3 + (2 : Int32))).toNatClampNeg) σ2) fun r4 σ5 => (if r1 = r4 then (if ¬ (σ5 0 10 = σ 0 10) then none else (rec18 (x3 + (6 : Int32)) σ5)) else none)))))))
def f_law_805 (F Ln : Nat) (xs : Nat → Int32) (rec18 : Int32 → nd_Mem → nd_Res) (x3 : Int32) (σ : nd_Mem) : nd_Res := (if (x3 + (1 : Int32)) < 0 ∨ Ln ≤ ((x3 + (1 : Int32))).toNatClampNeg then none else (nd_bind (f_X10_dowry F (xs ((x3 + (1 : Int32))).toNatClampNeg) σ) fun r1 σ2 => (if (x3 + (1 : Int32)) < 0 ∨ Ln ≤ ((x3 + (1 : Int32))).toNatClampNeg then none else (nd_bind (f_X11_dowry F (xs ((x3 + (1 : Int32))).toNatClampNeg) σ2) fun r4 σ5 => (if r1 = r4 then (if ¬ (σ5 0 10 = σ 0 10) then none else (rec18 (x3 + (6 : Int32)) σ5)) else none)))))
def f_law_828 (F Ln : Nat) (xs : Nat → Int32) (rec18 : Int32 → nd_Mem → nd_Res) (x3 : Int32) (σ : nd_Mem) : nd_Res := (if (x3 + (1 : Int32)) < 0 ∨ Ln ≤ ((x3 + (1 : Int32))).toNatClampNeg then none else (nd_bind (f_X10_pushed F (xs ((x3 + (1 : Int32))).toNatClampNeg) σ) fun r1 σ2 => (if (x3 + (1 : Int32)) < 0 ∨ Ln ≤ ((x3 + (1 : Int32))).toNatClampNeg then none else (nd_bind (f_X11_pushed F (xs ((x3 + (1 : Int32))).toNatClampNeg) σ2) fun r4 σ5 => (if r1 = r4 then (if ¬ (σ5 0 10 = σ 0 10) then none else (rec18 (x3 + (6 : Int32)) σ5)) else none)))))
def f_law_851 (F Ln : Nat) (xs : Nat → Int32) (rec18 : Int32 → nd_Mem → nd_Res) (x3 : Int32) (σ : nd_Mem) : nd_Res := (if (x3 + (1 : Int32)) < 0 ∨ Ln ≤ ((x3 + (1 : Int32))).toNatClampNeg then none else (nd_bind (f_X10_feuds F (xs ((x3 + (1 : Int32))).toNatClampNeg) σ) fun r1 σ2 => (if (x3 + (1 : Int32)) < 0 ∨ Ln ≤ ((x3 + (1 : Int32))).toNatClampNeg then none else (nd_bind (f_X11_feuds F (xs ((x3 + (1 : Int32))).toNatClampNeg) σ2) fun r4 σ5 => (if r1 = r4 then (if ¬ (σ5 0 10 = σ 0 10) then none else (rec18 (x3 + (6 : Int32)) σ5)) else none)))))
def f_law_874 (F Ln : Nat) (xs : Nat → Int32) (rec18 : Int32 → nd_Mem → nd_Res) (x3 : Int32) (σ : nd_Mem) : nd_Res := (if (x3 + (1 : Int32)) < 0 ∨ Ln ≤ ((x3 + (1 : Int32))).toNatClampNeg then none else (if (x3 + (2 : Int32)) < 0 ∨ Ln ≤ ((x3 + (2 : Int32))).toNatClampNeg then none else (nd_bind (f_X10_person F (xs ((x3 + (1 : Int32))).toNatClampNeg) (xs ((x3 + (2 : Int32))).toNatClampNeg) σ) fun r1 σ2 => (if (x3 + (1 : Int32)) < 0 ∨ Ln ≤ ((x3 + (1 : Int32))).toNatClampNeg then none else (if (x3 + (2 : Int32)) < 0 ∨ Ln ≤ ((x3 + (2 : Int32))).toNatClampNeg then none else (nd_bind (f_X11_person F (xs ((x3 + (1 : Int32))).toNatClampNeg) (xs ((x3 + (2 : Int32))).toNatClampNeg) σ2) fun r4 σ5 => (if r1 = r4 then (if ¬ (σ5 0 10 = σ 0 10) then none else (rec18 (x3 + (6 : Int32)) σ5)) else none)))))))
def f_law_907 (F Ln : Nat) (xs : Nat → Int32) (rec18 : Int32 → nd_Mem → nd_Res) (x3 : Int32) (σ : nd_Mem) : nd_Res := (if (x3 + (1 : Int32)) < 0 ∨ Ln ≤ ((x3 + (1 : Int32))).toNatClampNeg then none else (if (x3 + (2 : Int32)) < 0 ∨ Ln ≤ ((x3 + (2 : Int32))).toNatClampNeg then none else (if (x3 + (3 : Int32)) < 0 ∨ Ln ≤ ((x3 + (3 : Int32))).toNatClampNeg then none else (nd_bind (f_X10_akin F (xs ((x3 + (1 : Int32))).toNatClampNeg) (xs ((x3 + (2 : Int32))).toNatClampNeg) (xs ((x3 + (3 : Int32))).toNatClampNeg) σ) fun r1 σ2 => (if (x3 + (1 : Int32)) < 0 ∨ Ln ≤ ((x3 + (1 : Int32))).toNatClampNeg then none else (if (x3 + (2 : Int32)) < 0 ∨ Ln ≤ ((x3 + (2 : Int32))).toNatClampNeg then none else (if (x3 + (3 : Int32)) < 0 ∨ Ln ≤ ((x3 + (3 : Int32))).toNatClampNeg then none else (nd_bind (f_X11_akin F (xs ((x3 + (1 : Int32))).toNatClampNeg) (xs ((x3 + (2 : Int32))).toNatClampNeg) (xs ((x3 + (3 : Int32))).toNatClampNeg) σ2) fun r4 σ5 => (if r1 = r4 then (if ¬ (σ5 0 10 = σ 0 10) then none else (rec18 (x3 + (6 : Int32)) σ5)) else none)))))))))
def f_law_950 (F Ln : Nat) (xs : Nat → Int32) (rec18 : Int32 → nd_Mem → nd_Res) (x3 : Int32) (σ : nd_Mem) : nd_Res := (if (x3 + (1 : Int32)) < 0 ∨ Ln ≤ ((x3 + (1 : Int32))).toNatClampNeg then none else (if (x3 + (2 : Int32)) < 0 ∨ Ln ≤ ((x3 + (2 : Int32))).toNatClampNeg then none else (if (x3 + (3 : Int32)) < 0 ∨ Ln ≤ ((x3 + (3 : Int32))).toNatClampNeg then none else (if (x3 + (4 : Int32)) < 0 ∨ Ln ≤ ((x3 + (4 : Int32))).toNatClampNeg then none else (nd_bind (f_X10_home F (xs ((x3 + (1 : Int32))).toNatClampNeg) (xs ((x3 + (2 : Int32))).toNatClampNeg) (xs ((x3 + (3 : Int32))).toNatClampNeg) (xs ((x3 + (4 : Int32))).toNatClampNeg) σ) fun r1 σ2 => (if (x3 + (1 : Int32)) < 0 ∨ Ln ≤ ((x3 + (1 : Int32))).toNatClampNeg then none else (if (x3 + (2 : Int32)) < 0 ∨ Ln ≤ ((x3 + (2 : Int32))).toNatClampNeg then none else (if (x3 + (3 : Int32)) < 0 ∨ Ln ≤ ((x3 + (3 : Int32))).toNatClampNeg then none else (if (x3 + (4 : Int32)) < 0 ∨ Ln ≤ ((x3 + (4 : Int32))).toNatClampNeg then none else (nd_bind (f_X11_home F (xs ((x3 + (1 : Int32))).toNatClampNeg) (xs ((x3 + (2 : Int32))).toNatClampNeg) (xs ((x3 + (3 : Int32))).toNatClampNeg) (xs ((x3 + (4 : Int32))).toNatClampNeg) σ2) fun r4 σ5 => (if r1 = r4 then (if ¬ (σ5 0 10 = σ 0 10) then none else (rec18 (x3 + (6 : Int32)) σ5)) else none)))))))))))
def f_law_1003 (F Ln : Nat) (xs : Nat → Int32) (rec18 : Int32 → nd_Mem → nd_Res) (x3 : Int32) (σ : nd_Mem) : nd_Res := (if (x3 + (1 : Int32)) < 0 ∨ Ln ≤ ((x3 + (1 : Int32))).toNatClampNeg then none else (if (x3 + (2 : Int32)) < 0 ∨ Ln ≤ ((x3 + (2 : Int32))).toNatClampNeg then none else (if (x3 + (3 : Int32)) < 0 ∨ Ln ≤ ((x3 + (3 : Int32))).toNatClampNeg then none else (nd_bind (f_X10_streets F (xs ((x3 + (1 : Int32))).toNatClampNeg) (xs ((x3 + (2 : Int32))).toNatClampNeg) (xs ((x3 + (3 : Int32))).toNatClampNeg) σ) fun r1 σ2 => (if (x3 + (1 : Int32)) < 0 ∨ Ln ≤ ((x3 + (1 : Int32))).toNatClampNeg then none else (if (x3 + (2 : Int32)) < 0 ∨ Ln ≤ ((x3 + (2 : Int32))).toNatClampNeg then none else (if (x3 + (3 : Int32)) < 0 ∨ Ln ≤ ((x3 + (3 : Int32))).toNatClampNeg then none else (nd_bind (f_X11_streets F (xs ((x3 + (1 : Int32))).toNatClampNeg) (xs ((x3 + (2 : Int32))).toNatClampNeg) (xs ((x3 + (3 : Int32))).toNatClampNeg) σ2) fun r4 σ5 => (if r1 = r4 then (if ¬ (σ5 0 10 = σ 0 10) then none else (rec18 (x3 + (6 : Int32)) σ5)) else none)))))))))
def f_law_1046 (F Ln : Nat) (xs : Nat → Int32) (rec18 : Int32 → nd_Mem → nd_Res) (x3 : Int32) (σ : nd_Mem) : nd_Res := (if (x3 + (1 : Int32)) < 0 ∨ Ln ≤ ((x3 + (1 : Int32))).toNatClampNeg then none else (if (x3 + (2 : Int32)) < 0 ∨ Ln ≤ ((x3 + (2 : Int32))).toNatClampNeg then none else (nd_bind (f_X10_moved F (xs ((x3 + (1 : Int32))).toNatClampNeg) (xs ((x3 + (2 : Int32))).toNatClampNeg) σ) fun r1 σ2 => (if (x3 + (1 : Int32)) < 0 ∨ Ln ≤ ((x3 + (1 : Int32))).toNatClampNeg then none else (if (x3 + (2 : Int32)) < 0 ∨ Ln ≤ ((x3 + (2 : Int32))).toNatClampNeg then none else (nd_bind (f_X11_moved F (xs ((x3 + (1 : Int32))).toNatClampNeg) (xs ((x3 + (2 : Int32))).toNatClampNeg) σ2) fun r4 σ5 => (if r1 = r4 then (if ¬ (σ5 0 10 = σ 0 10) then none else (rec18 (x3 + (6 : Int32)) σ5)) else none)))))))
def f_law_1079 (F Ln : Nat) (xs : Nat → Int32) (rec18 : Int32 → nd_Mem → nd_Res) (x3 : Int32) (σ : nd_Mem) : nd_Res := (nd_bind (f_X10_chain F σ) fun r1 σ2 => (nd_bind (f_X11_chain F σ2) fun r4 σ5 => (if r1 = r4 then (if ¬ (σ5 0 10 = σ 0 10) then none else (rec18 (x3 + (6 : Int32)) σ5)) else none)))
def f_law_1092 (F Ln : Nat) (xs : Nat → Int32) (rec18 : Int32 → nd_Mem → nd_Res) (x3 : Int32) (σ : nd_Mem) : nd_Res := (if (x3 + (1 : Int32)) < 0 ∨ Ln ≤ ((x3 + (1 : Int32))).toNatClampNeg then none else (if (x3 + (2 : Int32)) < 0 ∨ Ln ≤ ((x3 + (2 : Int32))).toNatClampNeg then none else (if (x3 + (3 : Int32)) < 0 ∨ Ln ≤ ((x3 + (3 : Int32))).toNatClampNeg then none else (nd_bind (f_X10_order F (xs ((x3 + (1 : Int32))).toNatClampNeg) (xs ((x3 + (2 : Int32))).toNatClampNeg) (xs ((x3 + (3 : Int32))).toNatClampNeg) σ) fun r1 σ2 => (if (x3 + (1 : Int32)) < 0 ∨ Ln ≤ ((x3 + (1 : Int32))).toNatClampNeg then none else (if (x3 + (2 : Int32)) < 0 ∨ Ln ≤ ((x3 + (2 : Int32))).toNatClampNeg then none else (if (x3 + (3 : Int32)) < 0 ∨ Ln ≤ ((x3 + (3 : Int32))).toNatClampNeg then none else (nd_bind (f_X11_order F (xs ((x3 + (1 : Int32))).toNatClampNeg) (xs ((x3 + (2 : Int32))).toNatClampNeg) (xs ((x3 + (3 : Int32))).toNatClampNeg) σ2) fun r4 σ5 => (if r1 = r4 then (if ¬ (σ5 0 10 = σ 0 10) then none else (rec18 (x3 + (6 : Int32)) σ5)) else none)))))))))
def f_law_1135 (F Ln : Nat) (xs : Nat → Int32) (rec18 : Int32 → nd_Mem → nd_Res) (x3 : Int32) (σ : nd_Mem) : nd_Res := (if (x3 + (1 : Int32)) < 0 ∨ Ln ≤ ((x3 + (1 : Int32))).toNatClampNeg then none else (nd_bind (f_X10_height F (xs ((x3 + (1 : Int32))).toNatClampNeg) σ) fun r1 σ2 => (if (x3 + (1 : Int32)) < 0 ∨ Ln ≤ ((x3 + (1 : Int32))).toNatClampNeg then none else (nd_bind (f_X11_height F (xs ((x3 + (1 : Int32))).toNatClampNeg) σ2) fun r4 σ5 => (if r1 = r4 then (if ¬ (σ5 0 10 = σ 0 10) then none else (rec18 (x3 + (6 : Int32)) σ5)) else none)))))
def f_law_1158 (F Ln : Nat) (xs : Nat → Int32) (rec18 : Int32 → nd_Mem → nd_Res) (x3 : Int32) (σ : nd_Mem) : nd_Res := (if (x3 + (1 : Int32)) < 0 ∨ Ln ≤ ((x3 + (1 : Int32))).toNatClampNeg then none else (nd_bind (f_X10_windows F (xs ((x3 + (1 : Int32))).toNatClampNeg) σ) fun r1 σ2 => (if (x3 + (1 : Int32)) < 0 ∨ Ln ≤ ((x3 + (1 : Int32))).toNatClampNeg then none else (nd_bind (f_X11_windows F (xs ((x3 + (1 : Int32))).toNatClampNeg) σ2) fun r4 σ5 => (if r1 = r4 then (if ¬ (σ5 0 10 = σ 0 10) then none else (rec18 (x3 + (6 : Int32)) σ5)) else none)))))
def f_law_1181 (F Ln : Nat) (xs : Nat → Int32) (rec18 : Int32 → nd_Mem → nd_Res) (x3 : Int32) (σ : nd_Mem) : nd_Res := (if (x3 + (1 : Int32)) < 0 ∨ Ln ≤ ((x3 + (1 : Int32))).toNatClampNeg then none else (if (x3 + (2 : Int32)) < 0 ∨ Ln ≤ ((x3 + (2 : Int32))).toNatClampNeg then none else (if (x3 + (3 : Int32)) < 0 ∨ Ln ≤ ((x3 + (3 : Int32))).toNatClampNeg then none else (nd_bind (f_X10_game F (xs ((x3 + (1 : Int32))).toNatClampNeg) (xs ((x3 + (2 : Int32))).toNatClampNeg) (xs ((x3 + (3 : Int32))).toNatClampNeg) σ) fun r1 σ2 => (if (x3 + (1 : Int32)) < 0 ∨ Ln ≤ ((x3 + (1 : Int32))).toNatClampNeg then none else (if (x3 + (2 : Int32)) < 0 ∨ Ln ≤ ((x3 + (2 : Int32))).toNatClampNeg then none else (if (x3 + (3 : Int32)) < 0 ∨ Ln ≤ ((x3 + (3 : Int32))).toNatClampNeg then none else (nd_bind (f_X11_game F (xs ((x3 + (1 : Int32))).toNatClampNeg) (xs ((x3 + (2 : Int32))).toNatClampNeg) (xs ((x3 + (3 : Int32))).toNatClampNeg) σ2) fun r4 σ5 => (if r1 = r4 then (if ¬ (σ5 0 10 = σ 0 10) then none else (rec18 (x3 + (6 : Int32)) σ5)) else none)))))))))
def f_law_1224 (F Ln : Nat) (xs : Nat → Int32) (rec18 : Int32 → nd_Mem → nd_Res) (x3 : Int32) (σ : nd_Mem) : nd_Res := (nd_bind (f_X10_undo F σ) fun r1 σ2 => (nd_bind (f_X11_undo F σ2) fun r4 σ5 => (if r1 = r4 then (if ¬ (σ5 0 10 = σ 0 10) then none else (rec18 (x3 + (6 : Int32)) σ5)) else none)))
def f_law_1237 (F Ln : Nat) (xs : Nat → Int32) (rec18 : Int32 → nd_Mem → nd_Res) (x3 : Int32) (σ : nd_Mem) : nd_Res := (if (x3 + (1 : Int32)) < 0 ∨ Ln ≤ ((x3 + (1 : Int32))).toNatClampNeg then none else (if (xs ((x3 + (1 : Int32))).toNatClampNeg) = 0 then (nd_bind (f_X10_imageB F (0 : Int32) σ) fun r1 σ2 => (if (x3 + (1 : Int32)) < 0 ∨ Ln ≤ ((x3 + (1 : Int32))).toNatClampNeg then none else (if (xs ((x3 + (1 : Int32))).toNatClampNeg) = 0 then (nd_bind (f_X11_image F (0 : Int32) σ2) fun r4 σ5 => (if r1 = r4 then (if ¬ (σ5 0 10 = σ 0 10) then none else (rec18 (x3 + (6 : Int32)) σ5)) else none)) else (nd_bind (f_X11_image F (1 : Int32) σ2) fun r7 σ8 => (if r1 = r7 then (if ¬ (σ8 0 10 = σ 0 10) then none else (rec18 (x3 + (6 : Int32)) σ8)) else none))))) else (if σ 0 10 = 0 then (nd_bind (f_X10_imageA F (1 : Int32) σ) fun r10 σ11 => (if (x3 + (1 : Int32)) < 0 ∨ Ln ≤ ((x3 + (1 : Int32))).toNatClampNeg then none else (if (xs ((x3 + (1 : Int32))).toNatClampNeg) = 0 then (nd_bind (f_X11_image F (0 : Int32) σ11) fun r13 σ14 => (if r10 = r13 then (if σ14 0 10 = 0 then none else (rec18 (x3 + (6 : Int32)) σ14)) else none)) else (nd_bind (f_X11_image F (1 : Int32) σ11) fun r16 σ17 => (if r10 = r16 then (if σ17 0 10 = 0 then none else (rec18 (x3 + (6 : Int32)) σ17)) else none))))) else (nd_bind (f_X10_imageB F (1 : Int32) σ) fun r19 σ20 => (if (x3 + (1 : Int32)) < 0 ∨ Ln ≤ ((x3 + (1 : Int32))).toNatClampNeg then none else (if (xs ((x3 + (1 : Int32))).toNatClampNeg) = 0 then (nd_bind (f_X11_image F (0 : Int32) σ20) fun r22 σ23 => (if r19 = r22 then (if ¬ (σ23 0 10 = σ 0 10) then none else (rec18 (x3 + (6 : Int32)) σ23)) else none)) else (nd_bind (f_X11_image F (1 : Int32) σ20) fun r25 σ26 => (if r19 = r25 then (if ¬ (σ26 0 10 = σ 0 10) then none else (rec18 (x3 + (6 : Int32)) σ26)) else none))))))))
def f_law_1276 (F Ln : Nat) (xs : Nat → Int32) (rec18 : Int32 → nd_Mem → nd_Res) (x3 : Int32) (σ : nd_Mem) : nd_Res := (if (x3 + (1 : Int32)) < 0 ∨ Ln ≤ ((x3 + (1 : Int32))).toNatClampNeg then none else (nd_bind (f_X10_look F (xs ((x3 + (1 : Int32))).toNatClampNeg) σ) fun r1 σ2 => (if (x3 + (1 : Int32)) < 0 ∨ Ln ≤ ((x3 + (1 : Int32))).toNatClampNeg then none else (nd_bind (f_X11_look F (xs ((x3 + (1 : Int32))).toNatClampNeg) σ2) fun r4 σ5 => (if r1 = r4 then (if ¬ (σ5 0 10 = σ 0 10) then none else (rec18 (x3 + (6 : Int32)) σ5)) else none)))))
def f_law_18_b (F Ln : Nat) (xs : Nat → Int32) (rec18 : Int32 → nd_Mem → nd_Res) (x3 : Int32) (σ : nd_Mem) : nd_Res := (if ((Int32.ofNat Ln) - (6 : Int32)) < x3 then (some (1, σ)) else (if x3 < 0 ∨ Ln ≤ (x3).toNatClampNeg then none else (if ((xs (x3).toNatClampNeg) &&& (63 : Int32)) = (0 : Int32) then (f_law_188 F Ln xs rec18 x3 σ) else (if ((xs (x3).toNatClampNeg) &&& (63 : Int32)) = (1 : Int32) then (f_law_211 F Ln xs rec18 x3 σ) else (if ((xs (x3).toNatClampNeg) &&& (63 : Int32)) = (2 : Int32) then (f_law_254 F Ln xs rec18 x3 σ) else (if ((xs (x3).toNatClampNeg) &&& (63 : Int32)) = (3 : Int32) then (f_law_297 F Ln xs rec18 x3 σ) else (if ((xs (x3).toNatClampNeg) &&& (63 : Int32)) = (4 : Int32) then (f_law_330 F Ln xs rec18 x3 σ) else (if ((xs (x3).toNatClampNeg) &&& (63 : Int32)) = (5 : Int32) then (f_law_353 F Ln xs rec18 x3 σ) else (if ((xs (x3).toNatClampNeg) &&& (63 : Int32)) = (6 : Int32) then (f_law_416 F Ln xs rec18 x3 σ) else (if ((xs (x3).toNatClampNeg) &&& (63 : Int32)) = (7 : Int32) then (f_law_439 F Ln xs rec18 x3 σ) else (if ((xs (x3).toNatClampNeg) &&& (63 : Int32)) = (8 : Int32) then (f_law_462 F Ln xs rec18 x3 σ) else (if ((xs (x3).toNatClampNeg) &&& (63 : Int32)) = (9 : Int32) then (f_law_485 F Ln xs rec18 x3 σ) else (if ((xs (x3).toNatClampNeg) &&& (63 : Int32)) = (10 : Int32) then (f_law_518 F Ln xs rec18 x3 σ) else (if ((xs (x3).toNatClampNeg) &&& (63 : Int32)) = (11 : Int32) then (f_law_551 F Ln xs rec18 x3 σ) else (if ((xs (x3).toNatClampNeg) &&& (63 : Int32)) = (12 : Int32) then (f_law_584 F Ln xs rec18 x3 σ) else (if ((xs (x3).toNatClampNeg) &&& (63 : Int32)) = (13 : Int32) then (f_law_607 F Ln xs rec18 x3 σ) else (if ((xs (x3).toNatClampNeg) &&& (63 : Int32)) = (14 : Int32) then (f_law_660 F Ln xs rec18 x3 σ) else (if ((xs (x3).toNatClampNeg) &&& (63 : Int32)) = (15 : Int32) then (f_law_683 F Ln xs rec18 x3 σ) else (if ((xs (x3).toNatClampNeg) &&& (63 : Int32)) = (16 : Int32) then (f_law_706 F Ln xs rec18 x3 σ) else (if ((xs (x3).toNatClampNeg) &&& (63 : Int32)) = (17 : Int32) then (f_law_739 F Ln xs rec18 x3 σ) else (if ((xs (x3).toNatClampNeg) &&& (63 : Int32)) = (18 : Int32) then (f_law_772 F Ln xs rec18 x3 σ) else (if ((xs (x3).toNatClampNeg) &&& (63 : Int32)) = (19 : Int32) then (f_law_805 F Ln xs rec18 x3 σ) else (if ((xs (x3).toNatClampNeg) &&& (63 : Int32)) = (20 : Int32) then (f_law_828 F Ln xs rec18 x3 σ) else (if ((xs (x3).toNatClampNeg) &&& (63 : Int32)) = (21 : Int32) then (f_law_851 F Ln xs rec18 x3 σ) else (if ((xs (x3).toNatClampNeg) &&& (63 : Int32)) = (22 : Int32) then (f_law_874 F Ln xs rec18 x3 σ) else (if ((xs (x3).toNatClampNeg) &&& (63 : Int32)) = (23 : Int32) then (f_law_907 F Ln xs rec18 x3 σ) else (if ((xs (x3).toNatClampNeg) &&& (63 : Int32)) = (24 : Int32) then (f_law_950 F Ln xs rec18 x3 σ) else (if ((xs (x3).toNatClampNeg) &&& (63 : Int32)) = (25 : Int32) then (f_law_1003 F Ln xs rec18 x3 σ) else (if ((xs (x3).toNatClampNeg) &&& (63 : Int32)) = (26 : Int32) then (f_law_1046 F Ln xs rec18 x3 σ) else (if ((xs (x3).toNatClampNeg) &&& (63 : Int32)) = (27 : Int32) then (f_law_1079 F Ln xs rec18 x3 σ) else (if ((xs (x3).toNatClampNeg) &&& (63 : Int32)) = (28 : Int32) then (f_law_1092 F Ln xs rec18 x3 σ) else (if ((xs (x3).toNatClampNeg) &&& (63 : Int32)) = (29 : Int32) then (f_law_1135 F Ln xs rec18 x3 σ) else (if ((xs (x3).toNatClampNeg) &&& (63 : Int32)) = (30 : Int32) then (f_law_1158 F Ln xs rec18 x3 σ) else (if ((xs (x3).toNatClampNeg) &&& (63 : Int32)) = (31 : Int32) then (f_law_1181 F Ln xs rec18 x3 σ) else (if ((xs (x3).toNatClampNeg) &&& (63 : Int32)) = (32 : Int32) then (f_law_1224 F Ln xs rec18 x3 σ) else (if ((xs (x3).toNatClampNeg) &&& (63 : Int32)) = (33 : Int32) then (f_law_1237 F Ln xs rec18 x3 σ) else (if ((xs (x3).toNatClampNeg) &&& (63 : Int32)) = (34 : Int32) then (f_law_1276 F Ln xs rec18 x3 σ) else (if ¬ (σ 0 10 = σ 0 10) then none else (rec18 (x3 + (6 : Int32)) σ)))))))))))))))))))))))))))))))))))))))
def f_law_18 (F Ln : Nat) (xs : Nat → Int32) : Nat → Int32 → nd_Mem → nd_Res
  | 0, _, _ => none
  | m9 + 1, x3, σ => f_law_18_b F Ln xs (f_law_18 F Ln xs m9) x3 σ
set_option maxRecDepth 100000 in
set_option maxHeartbeats 4000000 in
theorem b_law_188 (F Ln : Nat) (xs : Nat → Int32) (rec18 : Int32 → nd_Mem → nd_Res) {z : Int32 × nd_Mem} (hrec18 : ∀ (x3 : Int32) (σ : nd_Mem) (t : List nd_S) (ks : Nat), nd_rel t σ → ks + (if t = [] then 1344 else 0) ≤ 7302250 → rec18 x3 σ = some z → nd_V (M_law Ln xs) room_1 nd_PL (100 + t.length) ks 18 [(0, .ref nd_scr), (1, .ref 0), (2, .ref 60), (3, .int x3)] [] (nd_SH ++ t) σ) (t : List nd_S) (ks : Nat) (x3 : Int32) (σ : nd_Mem) (hrel : nd_rel t σ) (hks : ks + (if t = [] then 1344 else 0) ≤ 7302250) (h : f_law_188 F Ln xs rec18 x3 σ = some z) : nd_V (M_law Ln xs) room_1 nd_PL (100 + t.length) ks 188 [(0, .ref nd_scr), (1, .ref 0), (2, .ref 60), (3, .int x3)] [] (nd_SH ++ t) σ := by
  unfold f_law_188 at h
  refine nd_aload_n dL_law_188 1 rfl ?_
  refine nd_aload_n dL_law_189 0 rfl ?_
  refine nd_iload_n dL_law_190 3 rfl ?_
  refine nd_iconst dL_law_191 ic_1 ?_
  refine nd_iadd dL_law_192 ?_
  refine nd_sloadN dL_law_193 rfl h (fun h => ?_)
  obtain ⟨r1, σ2, hc3, h⟩ := nd_bind_e h
  refine nd_cviG [.int (xs ((x3 + (1 : Int32))).toNatClampNeg)] [] dL_law_194 cl_L_13 (sh_0 t) ⟨Nat.le_of_ble_eq_true rfl, Nat.le_of_ble_eq_true rfl⟩ rfl (Nat.le_of_ble_eq_true rfl) (nd_shne t) (nd_rel_kc hrel) (Nat.le_trans (Nat.le_add_right _ _) hks) (nd_rel_len hrel) (t_X10_state F t (nd_rel_len hrel) _ _ hc3) ?_
  refine nd_aload_n dL_law_197 2 rfl ?_
  refine nd_aload_n dL_law_198 0 rfl ?_
  refine nd_iload_n dL_law_199 3 rfl ?_
  refine nd_iconst dL_law_200 ic_1 ?_
  refine nd_iadd dL_law_201 ?_
  refine nd_sloadN dL_law_202 rfl h (fun h => ?_)
  obtain ⟨r4, σ5, hc6, h⟩ := nd_bind_e h
  refine nd_cviG [.int (xs ((x3 + (1 : Int32))).toNatClampNeg)] [.int r1] dL_law_203 cl_L_17 (sh_60 t) ⟨Nat.le_of_ble_eq_true rfl, Nat.le_of_ble_eq_true rfl⟩ rfl (Nat.le_of_ble_eq_true rfl) (nd_shne t) (nd_rel_kc hrel) (Nat.le_trans (Nat.le_add_right _ _) hks) (nd_rel_len hrel) (t_X11_state F t (nd_rel_len hrel) _ _ hc6) ?_
  refine nd_icmp_eqN dL_law_206 1299 (by decide) h (fun h => ?_) (fun h => ?_)
  · have hg9 := nd_no_e h
    have h := hg9.2
    have hg9 := Classical.not_not.mp hg9.1
    refine nd_iinc (v := (x3 + (6 : Int32))) (ls' := [(3, .int (x3 + (6 : Int32))), (0, .ref nd_scr), (1, .ref 0), (2, .ref 60)]) dL_law_1299 3 rfl (congrArg (HAdd.hAdd _) ic_6) (Nat.le_of_ble_eq_true rfl) rfl ?_
    refine nd_goto dL_law_1302 18 (by decide) ?_
    refine nd_sub [1, 2, 3, 0] rfl ?_
    exact hrec18 _ _ t ks (nd_rel_of hrel hg9) hks h
  · refine nd_iconst dL_law_209 ic_0 ?_
    cases h
set_option maxRecDepth 100000 in
set_option maxHeartbeats 4000000 in
theorem b_law_211 (F Ln : Nat) (xs : Nat → Int32) (rec18 : Int32 → nd_Mem → nd_Res) {z : Int32 × nd_Mem} (hrec18 : ∀ (x3 : Int32) (σ : nd_Mem) (t : List nd_S) (ks : Nat), nd_rel t σ → ks + (if t = [] then 1344 else 0) ≤ 7302250 → rec18 x3 σ = some z → nd_V (M_law Ln xs) room_1 nd_PL (100 + t.length) ks 18 [(0, .ref nd_scr), (1, .ref 0), (2, .ref 60), (3, .int x3)] [] (nd_SH ++ t) σ) (t : List nd_S) (ks : Nat) (x3 : Int32) (σ : nd_Mem) (hrel : nd_rel t σ) (hks : ks + (if t = [] then 1344 else 0) ≤ 7302250) (h : f_law_211 F Ln xs rec18 x3 σ = some z) : nd_V (M_law Ln xs) room_1 nd_PL (100 + t.length) ks 211 [(0, .ref nd_scr), (1, .ref 0), (2, .ref 60), (3, .int x3)] [] (nd_SH ++ t) σ := by
  unfold f_law_211 at h
  refine nd_aload_n dL_law_211 1 rfl ?_
  refine nd_aload_n dL_law_212 0 rfl ?_
  refine nd_iload_n dL_law_213 3 rfl ?_
  refine nd_iconst dL_law_214 ic_1 ?_
  refine nd_iadd dL_law_215 ?_
  refine nd_sloadN dL_law_216 rfl h (fun h => ?_)
  refine nd_aload_n dL_law_217 0 rfl ?_
  refine nd_iload_n dL_law_218 3 rfl ?_
  refine nd_iconst dL_law_219 ic_2 ?_
  refine nd_iadd dL_law_220 ?_
  refine nd_sloadN dL_law_221 rfl h (fun h => ?_)
  refine nd_aload_n dL_law_222 0 rfl ?_
  refine nd_iload_n dL_law_223 3 rfl ?_
  refine nd_iconst dL_law_224 ic_3 ?_
  refine nd_iadd dL_law_225 ?_
  refine nd_sloadN dL_law_226 rfl h (fun h => ?_)
  obtain ⟨r1, σ2, hc3, h⟩ := nd_bind_e h
  refine nd_cviG [.int (xs ((x3 + (1 : Int32))).toNatClampNeg), .int (xs ((x3 + (2 : Int32))).toNatClampNeg), .int (xs ((x3 + (3 : Int32))).toNatClampNeg)] [] dL_law_227 cl_L_18 (sh_0 t) ⟨Nat.le_of_ble_eq_true rfl, Nat.le_of_ble_eq_true rfl⟩ rfl (Nat.le_of_ble_eq_true rfl) (nd_shne t) (nd_rel_kc hrel) (Nat.le_trans (Nat.le_add_right _ _) hks) (nd_rel_len hrel) (t_X10_house F t (nd_rel_len hrel) _ _ _ _ hc3) ?_
  refine nd_aload_n dL_law_230 2 rfl ?_
  refine nd_aload_n dL_law_231 0 rfl ?_
  refine nd_iload_n dL_law_232 3 rfl ?_
  refine nd_iconst dL_law_233 ic_1 ?_
  refine nd_iadd dL_law_234 ?_
  refine nd_sloadN dL_law_235 rfl h (fun h => ?_)
  refine nd_aload_n dL_law_236 0 rfl ?_
  refine nd_iload_n dL_law_237 3 rfl ?_
  refine nd_iconst dL_law_238 ic_2 ?_
  refine nd_iadd dL_law_239 ?_
  refine nd_sloadN dL_law_240 rfl h (fun h => ?_)
  refine nd_aload_n dL_law_241 0 rfl ?_
  refine nd_iload_n dL_law_242 3 rfl ?_
  refine nd_iconst dL_law_243 ic_3 ?_
  refine nd_iadd dL_law_244 ?_
  refine nd_sloadN dL_law_245 rfl h (fun h => ?_)
  obtain ⟨r4, σ5, hc6, h⟩ := nd_bind_e h
  refine nd_cviG [.int (xs ((x3 + (1 : Int32))).toNatClampNeg), .int (xs ((x3 + (2 : Int32))).toNatClampNeg), .int (xs ((x3 + (3 : Int32))).toNatClampNeg)] [.int r1] dL_law_246 cl_L_22 (sh_60 t) ⟨Nat.le_of_ble_eq_true rfl, Nat.le_of_ble_eq_true rfl⟩ rfl (Nat.le_of_ble_eq_true rfl) (nd_shne t) (nd_rel_kc hrel) (Nat.le_trans (Nat.le_add_right _ _) hks) (nd_rel_len hrel) (t_X11_house F t (nd_rel_len hrel) _ _ _ _ hc6) ?_
  refine nd_icmp_eqN dL_law_249 1299 (by decide) h (fun h => ?_) (fun h => ?_)
  · have hg9 := nd_no_e h
    have h := hg9.2
    have hg9 := Classical.not_not.mp hg9.1
    refine nd_iinc (v := (x3 + (6 : Int32))) (ls' := [(3, .int (x3 + (6 : Int32))), (0, .ref nd_scr), (1, .ref 0), (2, .ref 60)]) dL_law_1299 3 rfl (congrArg (HAdd.hAdd _) ic_6) (Nat.le_of_ble_eq_true rfl) rfl ?_
    refine nd_goto dL_law_1302 18 (by decide) ?_
    refine nd_sub [1, 2, 3, 0] rfl ?_
    exact hrec18 _ _ t ks (nd_rel_of hrel hg9) hks h
  · refine nd_iconst dL_law_252 ic_0 ?_
    cases h
set_option maxRecDepth 100000 in
set_option maxHeartbeats 4000000 in
theorem b_law_254 (F Ln : Nat) (xs : Nat → Int32) (rec18 : Int32 → nd_Mem → nd_Res) {z : Int32 × nd_Mem} (hrec18 : ∀ (x3 : Int32) (σ : nd_Mem) (t : List nd_S) (ks : Nat), nd_rel t σ → ks + (if t = [] then 1344 else 0) ≤ 7302250 → rec18 x3 σ = some z → nd_V (M_law Ln xs) room_1 nd_PL (100 + t.length) ks 18 [(0, .ref nd_scr), (1, .ref 0), (2, .ref 60), (3, .int x3)] [] (nd_SH ++ t) σ) (t : List nd_S) (ks : Nat) (x3 : Int32) (σ : nd_Mem) (hrel : nd_rel t σ) (hks : ks + (if t = [] then 1344 else 0) ≤ 7302250) (h : f_law_254 F Ln xs rec18 x3 σ = some z) : nd_V (M_law Ln xs) room_1 nd_PL (100 + t.length) ks 254 [(0, .ref nd_scr), (1, .ref 0), (2, .ref 60), (3, .int x3)] [] (nd_SH ++ t) σ := by
  unfold f_law_254 at h
  refine nd_aload_n dL_law_254 1 rfl ?_
  refine nd_aload_n dL_law_255 0 rfl ?_
  refine nd_iload_n dL_law_256 3 rfl ?_
  refine nd_iconst dL_law_257 ic_1 ?_
  refine nd_iadd dL_law_258 ?_
  refine nd_sloadN dL_law_259 rfl h (fun h => ?_)
  refine nd_aload_n dL_law_260 0 rfl ?_
  refine nd_iload_n dL_law_261 3 rfl ?_
  refine nd_iconst dL_law_262 ic_2 ?_
  refine nd_iadd dL_law_263 ?_
  refine nd_sloadN dL_law_264 rfl h (fun h => ?_)
  refine nd_aload_n dL_law_265 0 rfl ?_
  refine nd_iload_n dL_law_266 3 rfl ?_
  refine nd_iconst dL_law_267 ic_3 ?_
  refine nd_iadd dL_law_268 ?_
  refine nd_sloadN dL_law_269 rfl h (fun h => ?_)
  obtain ⟨r1, σ2, hc3, h⟩ := nd_bind_e h
  refine nd_cviG [.int (xs ((x3 + (1 : Int32))).toNatClampNeg), .int (xs ((x3 + (2 : Int32))).toNatClampNeg), .int (xs ((x3 + (3 : Int32))).toNatClampNeg)] [] dL_law_270 cl_L_23 (sh_0 t) ⟨Nat.le_of_ble_eq_true rfl, Nat.le_of_ble_eq_true rfl⟩ rfl (Nat.le_of_ble_eq_true rfl) (nd_shne t) (nd_rel_kc hrel) (Nat.le_trans (Nat.le_add_right _ _) hks) (nd_rel_len hrel) (t_X10_set F t (nd_rel_len hrel) _ _ _ _ hc3) ?_
  refine nd_aload_n dL_law_273 2 rfl ?_
  refine nd_aload_n dL_law_274 0 rfl ?_
  refine nd_iload_n dL_law_275 3 rfl ?_
  refine nd_iconst dL_law_276 ic_1 ?_
  refine nd_iadd dL_law_277 ?_
  refine nd_sloadN dL_law_278 rfl h (fun h => ?_)
  refine nd_aload_n dL_law_279 0 rfl ?_
  refine nd_iload_n dL_law_280 3 rfl ?_
  refine nd_iconst dL_law_281 ic_2 ?_
  refine nd_iadd dL_law_282 ?_
  refine nd_sloadN dL_law_283 rfl h (fun h => ?_)
  refine nd_aload_n dL_law_284 0 rfl ?_
  refine nd_iload_n dL_law_285 3 rfl ?_
  refine nd_iconst dL_law_286 ic_3 ?_
  refine nd_iadd dL_law_287 ?_
  refine nd_sloadN dL_law_288 rfl h (fun h => ?_)
  obtain ⟨r4, σ5, hc6, h⟩ := nd_bind_e h
  refine nd_cviG [.int (xs ((x3 + (1 : Int32))).toNatClampNeg), .int (xs ((x3 + (2 : Int32))).toNatClampNeg), .int (xs ((x3 + (3 : Int32))).toNatClampNeg)] [.int r1] dL_law_289 cl_L_27 (sh_60 t) ⟨Nat.le_of_ble_eq_true rfl, Nat.le_of_ble_eq_true rfl⟩ rfl (Nat.le_of_ble_eq_true rfl) (nd_shne t) (nd_rel_kc hrel) (Nat.le_trans (Nat.le_add_right _ _) hks) (nd_rel_len hrel) (t_X11_set F t (nd_rel_len hrel) _ _ _ _ hc6) ?_
  refine nd_icmp_eqN dL_law_292 1299 (by decide) h (fun h => ?_) (fun h => ?_)
  · have hg9 := nd_no_e h
    have h := hg9.2
    have hg9 := Classical.not_not.mp hg9.1
    refine nd_iinc (v := (x3 + (6 : Int32))) (ls' := [(3, .int (x3 + (6 : Int32))), (0, .ref nd_scr), (1, .ref 0), (2, .ref 60)]) dL_law_1299 3 rfl (congrArg (HAdd.hAdd _) ic_6) (Nat.le_of_ble_eq_true rfl) rfl ?_
    refine nd_goto dL_law_1302 18 (by decide) ?_
    refine nd_sub [1, 2, 3, 0] rfl ?_
    exact hrec18 _ _ t ks (nd_rel_of hrel hg9) hks h
  · refine nd_iconst dL_law_295 ic_0 ?_
    cases h
set_option maxRecDepth 100000 in
set_option maxHeartbeats 4000000 in
theorem b_law_297 (F Ln : Nat) (xs : Nat → Int32) (rec18 : Int32 → nd_Mem → nd_Res) {z : Int32 × nd_Mem} (hrec18 : ∀ (x3 : Int32) (σ : nd_Mem) (t : List nd_S) (ks : Nat), nd_rel t σ → ks + (if t = [] then 1344 else 0) ≤ 7302250 → rec18 x3 σ = some z → nd_V (M_law Ln xs) room_1 nd_PL (100 + t.length) ks 18 [(0, .ref nd_scr), (1, .ref 0), (2, .ref 60), (3, .int x3)] [] (nd_SH ++ t) σ) (t : List nd_S) (ks : Nat) (x3 : Int32) (σ : nd_Mem) (hrel : nd_rel t σ) (hks : ks + (if t = [] then 1344 else 0) ≤ 7302250) (h : f_law_297 F Ln xs rec18 x3 σ = some z) : nd_V (M_law Ln xs) room_1 nd_PL (100 + t.length) ks 297 [(0, .ref nd_scr), (1, .ref 0), (2, .ref 60), (3, .int x3)] [] (nd_SH ++ t) σ := by
  unfold f_law_297 at h
  refine nd_aload_n dL_law_297 1 rfl ?_
  refine nd_aload_n dL_law_298 0 rfl ?_
  refine nd_iload_n dL_law_299 3 rfl ?_
  refine nd_iconst dL_law_300 ic_1 ?_
  refine nd_iadd dL_law_301 ?_
  refine nd_sloadN dL_law_302 rfl h (fun h => ?_)
  refine nd_aload_n dL_law_303 0 rfl ?_
  refine nd_iload_n dL_law_304 3 rfl ?_
  refine nd_iconst dL_law_305 ic_2 ?_
  refine nd_iadd dL_law_306 ?_
  refine nd_sloadN dL_law_307 rfl h (fun h => ?_)
  obtain ⟨r1, σ2, hc3, h⟩ := nd_bind_e h
  refine nd_cviG [.int (xs ((x3 + (1 : Int32))).toNatClampNeg), .int (xs ((x3 + (2 : Int32))).toNatClampNeg)] [] dL_law_308 cl_L_28 (sh_0 t) ⟨Nat.le_of_ble_eq_true rfl, Nat.le_of_ble_eq_true rfl⟩ rfl (Nat.le_of_ble_eq_true rfl) (nd_shne t) (nd_rel_kc hrel) (Nat.le_trans (Nat.le_add_right _ _) hks) (nd_rel_len hrel) (t_X10_act F t (nd_rel_len hrel) _ _ _ hc3) ?_
  refine nd_aload_n dL_law_311 2 rfl ?_
  refine nd_aload_n dL_law_312 0 rfl ?_
  refine nd_iload_n dL_law_313 3 rfl ?_
  refine nd_iconst dL_law_314 ic_1 ?_
  refine nd_iadd dL_law_315 ?_
  refine nd_sloadN dL_law_316 rfl h (fun h => ?_)
  refine nd_aload_n dL_law_317 0 rfl ?_
  refine nd_iload_n dL_law_318 3 rfl ?_
  refine nd_iconst dL_law_319 ic_2 ?_
  refine nd_iadd dL_law_320 ?_
  refine nd_sloadN dL_law_321 rfl h (fun h => ?_)
  obtain ⟨r4, σ5, hc6, h⟩ := nd_bind_e h
  refine nd_cviG [.int (xs ((x3 + (1 : Int32))).toNatClampNeg), .int (xs ((x3 + (2 : Int32))).toNatClampNeg)] [.int r1] dL_law_322 cl_L_32 (sh_60 t) ⟨Nat.le_of_ble_eq_true rfl, Nat.le_of_ble_eq_true rfl⟩ rfl (Nat.le_of_ble_eq_true rfl) (nd_shne t) (nd_rel_kc hrel) (Nat.le_trans (Nat.le_add_right _ _) hks) (nd_rel_len hrel) (t_X11_act F t (nd_rel_len hrel) _ _ _ hc6) ?_
  refine nd_icmp_eqN dL_law_325 1299 (by decide) h (fun h => ?_) (fun h => ?_)
  · have hg9 := nd_no_e h
    have h := hg9.2
    have hg9 := Classical.not_not.mp hg9.1
    refine nd_iinc (v := (x3 + (6 : Int32))) (ls' := [(3, .int (x3 + (6 : Int32))), (0, .ref nd_scr), (1, .ref 0), (2, .ref 60)]) dL_law_1299 3 rfl (congrArg (HAdd.hAdd _) ic_6) (Nat.le_of_ble_eq_true rfl) rfl ?_
    refine nd_goto dL_law_1302 18 (by decide) ?_
    refine nd_sub [1, 2, 3, 0] rfl ?_
    exact hrec18 _ _ t ks (nd_rel_of hrel hg9) hks h
  · refine nd_iconst dL_law_328 ic_0 ?_
    cases h
set_option maxRecDepth 100000 in
set_option maxHeartbeats 4000000 in
theorem b_law_330 (F Ln : Nat) (xs : Nat → Int32) (rec18 : Int32 → nd_Mem → nd_Res) {z : Int32 × nd_Mem} (hrec18 : ∀ (x3 : Int32) (σ : nd_Mem) (t : List nd_S) (ks : Nat), nd_rel t σ → ks + (if t = [] then 1344 else 0) ≤ 7302250 → rec18 x3 σ = some z → nd_V (M_law Ln xs) room_1 nd_PL (100 + t.length) ks 18 [(0, .ref nd_scr), (1, .ref 0), (2, .ref 60), (3, .int x3)] [] (nd_SH ++ t) σ) (t : List nd_S) (ks : Nat) (x3 : Int32) (σ : nd_Mem) (hrel : nd_rel t σ) (hks : ks + (if t = [] then 1344 else 0) ≤ 7302250) (h : f_law_330 F Ln xs rec18 x3 σ = some z) : nd_V (M_law Ln xs) room_1 nd_PL (100 + t.length) ks 330 [(0, .ref nd_scr), (1, .ref 0), (2, .ref 60), (3, .int x3)] [] (nd_SH ++ t) σ := by
  unfold f_law_330 at h
  refine nd_aload_n dL_law_330 1 rfl ?_
  refine nd_aload_n dL_law_331 0 rfl ?_
  refine nd_iload_n dL_law_332 3 rfl ?_
  refine nd_iconst dL_law_333 ic_1 ?_
  refine nd_iadd dL_law_334 ?_
  refine nd_sloadN dL_law_335 rfl h (fun h => ?_)
  obtain ⟨r1, σ2, hc3, h⟩ := nd_bind_e h
  refine nd_cviG [.int (xs ((x3 + (1 : Int32))).toNatClampNeg)] [] dL_law_336 cl_L_33 (sh_0 t) ⟨Nat.le_of_ble_eq_true rfl, Nat.le_of_ble_eq_true rfl⟩ rfl (Nat.le_of_ble_eq_true rfl) (nd_shne t) (nd_rel_kc hrel) (Nat.le_trans (Nat.le_add_right _ _) hks) (nd_rel_len hrel) (t_X10_years F t (nd_rel_len hrel) _ _ hc3) ?_
  refine nd_aload_n dL_law_339 2 rfl ?_
  refine nd_aload_n dL_law_340 0 rfl ?_
  refine nd_iload_n dL_law_341 3 rfl ?_
  refine nd_iconst dL_law_342 ic_1 ?_
  refine nd_iadd dL_law_343 ?_
  refine nd_sloadN dL_law_344 rfl h (fun h => ?_)
  obtain ⟨r4, σ5, hc6, h⟩ := nd_bind_e h
  refine nd_cviG [.int (xs ((x3 + (1 : Int32))).toNatClampNeg)] [.int r1] dL_law_345 cl_L_36 (sh_60 t) ⟨Nat.le_of_ble_eq_true rfl, Nat.le_of_ble_eq_true rfl⟩ rfl (Nat.le_of_ble_eq_true rfl) (nd_shne t) (nd_rel_kc hrel) (Nat.le_trans (Nat.le_add_right _ _) hks) (nd_rel_len hrel) (t_X11_years F t (nd_rel_len hrel) _ _ hc6) ?_
  refine nd_icmp_eqN dL_law_348 1299 (by decide) h (fun h => ?_) (fun h => ?_)
  · have hg9 := nd_no_e h
    have h := hg9.2
    have hg9 := Classical.not_not.mp hg9.1
    refine nd_iinc (v := (x3 + (6 : Int32))) (ls' := [(3, .int (x3 + (6 : Int32))), (0, .ref nd_scr), (1, .ref 0), (2, .ref 60)]) dL_law_1299 3 rfl (congrArg (HAdd.hAdd _) ic_6) (Nat.le_of_ble_eq_true rfl) rfl ?_
    refine nd_goto dL_law_1302 18 (by decide) ?_
    refine nd_sub [1, 2, 3, 0] rfl ?_
    exact hrec18 _ _ t ks (nd_rel_of hrel hg9) hks h
  · refine nd_iconst dL_law_351 ic_0 ?_
    cases h
set_option maxRecDepth 100000 in
set_option maxHeartbeats 4000000 in
theorem b_law_353 (F Ln : Nat) (xs : Nat → Int32) (rec18 : Int32 → nd_Mem → nd_Res) {z : Int32 × nd_Mem} (hrec18 : ∀ (x3 : Int32) (σ : nd_Mem) (t : List nd_S) (ks : Nat), nd_rel t σ → ks + (if t = [] then 1344 else 0) ≤ 7302250 → rec18 x3 σ = some z → nd_V (M_law Ln xs) room_1 nd_PL (100 + t.length) ks 18 [(0, .ref nd_scr), (1, .ref 0), (2, .ref 60), (3, .int x3)] [] (nd_SH ++ t) σ) (t : List nd_S) (ks : Nat) (x3 : Int32) (σ : nd_Mem) (hrel : nd_rel t σ) (hks : ks + (if t = [] then 1344 else 0) ≤ 7302250) (h : f_law_353 F Ln xs rec18 x3 σ = some z) : nd_V (M_law Ln xs) room_1 nd_PL (100 + t.length) ks 353 [(0, .ref nd_scr), (1, .ref 0), (2, .ref 60), (3, .int x3)] [] (nd_SH ++ t) σ := by
  unfold f_law_353 at h
  refine nd_aload_n dL_law_353 1 rfl ?_
  refine nd_aload_n dL_law_354 0 rfl ?_
  refine nd_iload_n dL_law_355 3 rfl ?_
  refine nd_iconst dL_law_356 ic_1 ?_
  refine nd_iadd dL_law_357 ?_
  refine nd_sloadN dL_law_358 rfl h (fun h => ?_)
  refine nd_aload_n dL_law_359 0 rfl ?_
  refine nd_iload_n dL_law_360 3 rfl ?_
  refine nd_iconst dL_law_361 ic_2 ?_
  refine nd_iadd dL_law_362 ?_
  refine nd_sloadN dL_law_363 rfl h (fun h => ?_)
  refine nd_aload_n dL_law_364 0 rfl ?_
  refine nd_iload_n dL_law_365 3 rfl ?_
  refine nd_iconst dL_law_366 ic_3 ?_
  refine nd_iadd dL_law_367 ?_
  refine nd_sloadN dL_law_368 rfl h (fun h => ?_)
  refine nd_aload_n dL_law_369 0 rfl ?_
  refine nd_iload_n dL_law_370 3 rfl ?_
  refine nd_iconst dL_law_371 ic_4 ?_
  refine nd_iadd dL_law_372 ?_
  refine nd_sloadN dL_law_373 rfl h (fun h => ?_)
  refine nd_aload_n dL_law_374 0 rfl ?_
  refine nd_iload_n dL_law_375 3 rfl ?_
  refine nd_iconst dL_law_376 ic_5 ?_
  refine nd_iadd dL_law_377 ?_
  refine nd_sloadN dL_law_378 rfl h (fun h => ?_)
  obtain ⟨r1, σ2, hc3, h⟩ := nd_bind_e h
  refine nd_cviG [.int (xs ((x3 + (1 : Int32))).toNatClampNeg), .int (xs ((x3 + (2 : Int32))).toNatClampNeg), .int (xs ((x3 + (3 : Int32))).toNatClampNeg), .int (xs ((x3 + (4 : Int32))).toNatClampNeg), .int (xs ((x3 + (5 : Int32))).toNatClampNeg)] [] dL_law_379 cl_L_37 (sh_0 t) ⟨Nat.le_of_ble_eq_true rfl, Nat.le_of_ble_eq_true rfl⟩ rfl (Nat.le_of_ble_eq_true rfl) (nd_shne t) (nd_rel_kc hrel) (Nat.le_trans (Nat.le_add_right _ _) hks) (nd_rel_len hrel) (t_X10_feed F t (nd_rel_len hrel) _ _ _ _ _ _ hc3) ?_
  refine nd_aload_n dL_law_382 2 rfl ?_
  refine nd_aload_n dL_law_383 0 rfl ?_
  refine nd_iload_n dL_law_384 3 rfl ?_
  refine nd_iconst dL_law_385 ic_1 ?_
  refine nd_iadd dL_law_386 ?_
  refine nd_sloadN dL_law_387 rfl h (fun h => ?_)
  refine nd_aload_n dL_law_388 0 rfl ?_
  refine nd_iload_n dL_law_389 3 rfl ?_
  refine nd_iconst dL_law_390 ic_2 ?_
  refine nd_iadd dL_law_391 ?_
  refine nd_sloadN dL_law_392 rfl h (fun h => ?_)
  refine nd_aload_n dL_law_393 0 rfl ?_
  refine nd_iload_n dL_law_394 3 rfl ?_
  refine nd_iconst dL_law_395 ic_3 ?_
  refine nd_iadd dL_law_396 ?_
  refine nd_sloadN dL_law_397 rfl h (fun h => ?_)
  refine nd_aload_n dL_law_398 0 rfl ?_
  refine nd_iload_n dL_law_399 3 rfl ?_
  refine nd_iconst dL_law_400 ic_4 ?_
  refine nd_iadd dL_law_401 ?_
  refine nd_sloadN dL_law_402 rfl h (fun h => ?_)
  refine nd_aload_n dL_law_403 0 rfl ?_
  refine nd_iload_n dL_law_404 3 rfl ?_
  refine nd_iconst dL_law_405 ic_5 ?_
  refine nd_iadd dL_law_406 ?_
  refine nd_sloadN dL_law_407 rfl h (fun h => ?_)
  obtain ⟨r4, σ5, hc6, h⟩ := nd_bind_e h
  refine nd_cviG [.int (xs ((x3 + (1 : Int32))).toNatClampNeg), .int (xs ((x3 + (2 : Int32))).toNatClampNeg), .int (xs ((x3 + (3 : Int32))).toNatClampNeg), .int (xs ((x3 + (4 : Int32))).toNatClampNeg), .int (xs ((x3 + (5 : Int32))).toNatClampNeg)] [.int r1] dL_law_408 cl_L_41 (sh_60 t) ⟨Nat.le_of_ble_eq_true rfl, Nat.le_of_ble_eq_true rfl⟩ rfl (Nat.le_of_ble_eq_true rfl) (nd_shne t) (nd_rel_kc hrel) (Nat.le_trans (Nat.le_add_right _ _) hks) (nd_rel_len hrel) (t_X11_feed F t (nd_rel_len hrel) _ _ _ _ _ _ hc6) ?_
  refine nd_icmp_eqN dL_law_411 1299 (by decide) h (fun h => ?_) (fun h => ?_)
  · have hg9 := nd_no_e h
    have h := hg9.2
    have hg9 := Classical.not_not.mp hg9.1
    refine nd_iinc (v := (x3 + (6 : Int32))) (ls' := [(3, .int (x3 + (6 : Int32))), (0, .ref nd_scr), (1, .ref 0), (2, .ref 60)]) dL_law_1299 3 rfl (congrArg (HAdd.hAdd _) ic_6) (Nat.le_of_ble_eq_true rfl) rfl ?_
    refine nd_goto dL_law_1302 18 (by decide) ?_
    refine nd_sub [1, 2, 3, 0] rfl ?_
    exact hrec18 _ _ t ks (nd_rel_of hrel hg9) hks h
  · refine nd_iconst dL_law_414 ic_0 ?_
    cases h
set_option maxRecDepth 100000 in
set_option maxHeartbeats 4000000 in
theorem b_law_416 (F Ln : Nat) (xs : Nat → Int32) (rec18 : Int32 → nd_Mem → nd_Res) {z : Int32 × nd_Mem} (hrec18 : ∀ (x3 : Int32) (σ : nd_Mem) (t : List nd_S) (ks : Nat), nd_rel t σ → ks + (if t = [] then 1344 else 0) ≤ 7302250 → rec18 x3 σ = some z → nd_V (M_law Ln xs) room_1 nd_PL (100 + t.length) ks 18 [(0, .ref nd_scr), (1, .ref 0), (2, .ref 60), (3, .int x3)] [] (nd_SH ++ t) σ) (t : List nd_S) (ks : Nat) (x3 : Int32) (σ : nd_Mem) (hrel : nd_rel t σ) (hks : ks + (if t = [] then 1344 else 0) ≤ 7302250) (h : f_law_416 F Ln xs rec18 x3 σ = some z) : nd_V (M_law Ln xs) room_1 nd_PL (100 + t.length) ks 416 [(0, .ref nd_scr), (1, .ref 0), (2, .ref 60), (3, .int x3)] [] (nd_SH ++ t) σ := by
  unfold f_law_416 at h
  refine nd_aload_n dL_law_416 1 rfl ?_
  refine nd_aload_n dL_law_417 0 rfl ?_
  refine nd_iload_n dL_law_418 3 rfl ?_
  refine nd_iconst dL_law_419 ic_1 ?_
  refine nd_iadd dL_law_420 ?_
  refine nd_sloadN dL_law_421 rfl h (fun h => ?_)
  obtain ⟨r1, σ2, hc3, h⟩ := nd_bind_e h
  refine nd_cviG [.int (xs ((x3 + (1 : Int32))).toNatClampNeg)] [] dL_law_422 cl_L_42 (sh_0 t) ⟨Nat.le_of_ble_eq_true rfl, Nat.le_of_ble_eq_true rfl⟩ rfl (Nat.le_of_ble_eq_true rfl) (nd_shne t) (nd_rel_kc hrel) (Nat.le_trans (Nat.le_add_right _ _) hks) (nd_rel_len hrel) (t_X10_end F t (nd_rel_len hrel) _ _ hc3) ?_
  refine nd_aload_n dL_law_425 2 rfl ?_
  refine nd_aload_n dL_law_426 0 rfl ?_
  refine nd_iload_n dL_law_427 3 rfl ?_
  refine nd_iconst dL_law_428 ic_1 ?_
  refine nd_iadd dL_law_429 ?_
  refine nd_sloadN dL_law_430 rfl h (fun h => ?_)
  obtain ⟨r4, σ5, hc6, h⟩ := nd_bind_e h
  refine nd_cviG [.int (xs ((x3 + (1 : Int32))).toNatClampNeg)] [.int r1] dL_law_431 cl_L_46 (sh_60 t) ⟨Nat.le_of_ble_eq_true rfl, Nat.le_of_ble_eq_true rfl⟩ rfl (Nat.le_of_ble_eq_true rfl) (nd_shne t) (nd_rel_kc hrel) (Nat.le_trans (Nat.le_add_right _ _) hks) (nd_rel_len hrel) (t_X11_end F t (nd_rel_len hrel) _ _ hc6) ?_
  refine nd_icmp_eqN dL_law_434 1299 (by decide) h (fun h => ?_) (fun h => ?_)
  · have hg9 := nd_no_e h
    have h := hg9.2
    have hg9 := Classical.not_not.mp hg9.1
    refine nd_iinc (v := (x3 + (6 : Int32))) (ls' := [(3, .int (x3 + (6 : Int32))), (0, .ref nd_scr), (1, .ref 0), (2, .ref 60)]) dL_law_1299 3 rfl (congrArg (HAdd.hAdd _) ic_6) (Nat.le_of_ble_eq_true rfl) rfl ?_
    refine nd_goto dL_law_1302 18 (by decide) ?_
    refine nd_sub [1, 2, 3, 0] rfl ?_
    exact hrec18 _ _ t ks (nd_rel_of hrel hg9) hks h
  · refine nd_iconst dL_law_437 ic_0 ?_
    cases h
set_option maxRecDepth 100000 in
set_option maxHeartbeats 4000000 in
theorem b_law_439 (F Ln : Nat) (xs : Nat → Int32) (rec18 : Int32 → nd_Mem → nd_Res) {z : Int32 × nd_Mem} (hrec18 : ∀ (x3 : Int32) (σ : nd_Mem) (t : List nd_S) (ks : Nat), nd_rel t σ → ks + (if t = [] then 1344 else 0) ≤ 7302250 → rec18 x3 σ = some z → nd_V (M_law Ln xs) room_1 nd_PL (100 + t.length) ks 18 [(0, .ref nd_scr), (1, .ref 0), (2, .ref 60), (3, .int x3)] [] (nd_SH ++ t) σ) (t : List nd_S) (ks : Nat) (x3 : Int32) (σ : nd_Mem) (hrel : nd_rel t σ) (hks : ks + (if t = [] then 1344 else 0) ≤ 7302250) (h : f_law_439 F Ln xs rec18 x3 σ = some z) : nd_V (M_law Ln xs) room_1 nd_PL (100 + t.length) ks 439 [(0, .ref nd_scr), (1, .ref 0), (2, .ref 60), (3, .int x3)] [] (nd_SH ++ t) σ := by
  unfold f_law_439 at h
  refine nd_aload_n dL_law_439 1 rfl ?_
  refine nd_aload_n dL_law_440 0 rfl ?_
  refine nd_iload_n dL_law_441 3 rfl ?_
  refine nd_iconst dL_law_442 ic_1 ?_
  refine nd_iadd dL_law_443 ?_
  refine nd_sloadN dL_law_444 rfl h (fun h => ?_)
  obtain ⟨r1, σ2, hc3, h⟩ := nd_bind_e h
  refine nd_cviG [.int (xs ((x3 + (1 : Int32))).toNatClampNeg)] [] dL_law_445 cl_L_47 (sh_0 t) ⟨Nat.le_of_ble_eq_true rfl, Nat.le_of_ble_eq_true rfl⟩ rfl (Nat.le_of_ble_eq_true rfl) (nd_shne t) (nd_rel_kc hrel) (Nat.le_trans (Nat.le_add_right _ _) hks) (nd_rel_len hrel) (t_X10_text F t (nd_rel_len hrel) _ _ hc3) ?_
  refine nd_aload_n dL_law_448 2 rfl ?_
  refine nd_aload_n dL_law_449 0 rfl ?_
  refine nd_iload_n dL_law_450 3 rfl ?_
  refine nd_iconst dL_law_451 ic_1 ?_
  refine nd_iadd dL_law_452 ?_
  refine nd_sloadN dL_law_453 rfl h (fun h => ?_)
  obtain ⟨r4, σ5, hc6, h⟩ := nd_bind_e h
  refine nd_cviG [.int (xs ((x3 + (1 : Int32))).toNatClampNeg)] [.int r1] dL_law_454 cl_L_50 (sh_60 t) ⟨Nat.le_of_ble_eq_true rfl, Nat.le_of_ble_eq_true rfl⟩ rfl (Nat.le_of_ble_eq_true rfl) (nd_shne t) (nd_rel_kc hrel) (Nat.le_trans (Nat.le_add_right _ _) hks) (nd_rel_len hrel) (t_X11_text F t (nd_rel_len hrel) _ _ hc6) ?_
  refine nd_icmp_eqN dL_law_457 1299 (by decide) h (fun h => ?_) (fun h => ?_)
  · have hg9 := nd_no_e h
    have h := hg9.2
    have hg9 := Classical.not_not.mp hg9.1
    refine nd_iinc (v := (x3 + (6 : Int32))) (ls' := [(3, .int (x3 + (6 : Int32))), (0, .ref nd_scr), (1, .ref 0), (2, .ref 60)]) dL_law_1299 3 rfl (congrArg (HAdd.hAdd _) ic_6) (Nat.le_of_ble_eq_true rfl) rfl ?_
    refine nd_goto dL_law_1302 18 (by decide) ?_
    refine nd_sub [1, 2, 3, 0] rfl ?_
    exact hrec18 _ _ t ks (nd_rel_of hrel hg9) hks h
  · refine nd_iconst dL_law_460 ic_0 ?_
    cases h
set_option maxRecDepth 100000 in
set_option maxHeartbeats 4000000 in
theorem b_law_462 (F Ln : Nat) (xs : Nat → Int32) (rec18 : Int32 → nd_Mem → nd_Res) {z : Int32 × nd_Mem} (hrec18 : ∀ (x3 : Int32) (σ : nd_Mem) (t : List nd_S) (ks : Nat), nd_rel t σ → ks + (if t = [] then 1344 else 0) ≤ 7302250 → rec18 x3 σ = some z → nd_V (M_law Ln xs) room_1 nd_PL (100 + t.length) ks 18 [(0, .ref nd_scr), (1, .ref 0), (2, .ref 60), (3, .int x3)] [] (nd_SH ++ t) σ) (t : List nd_S) (ks : Nat) (x3 : Int32) (σ : nd_Mem) (hrel : nd_rel t σ) (hks : ks + (if t = [] then 1344 else 0) ≤ 7302250) (h : f_law_462 F Ln xs rec18 x3 σ = some z) : nd_V (M_law Ln xs) room_1 nd_PL (100 + t.length) ks 462 [(0, .ref nd_scr), (1, .ref 0), (2, .ref 60), (3, .int x3)] [] (nd_SH ++ t) σ := by
  unfold f_law_462 at h
  refine nd_aload_n dL_law_462 1 rfl ?_
  refine nd_aload_n dL_law_463 0 rfl ?_
  refine nd_iload_n dL_law_464 3 rfl ?_
  refine nd_iconst dL_law_465 ic_1 ?_
  refine nd_iadd dL_law_466 ?_
  refine nd_sloadN dL_law_467 rfl h (fun h => ?_)
  obtain ⟨r1, σ2, hc3, h⟩ := nd_bind_e h
  refine nd_cviG [.int (xs ((x3 + (1 : Int32))).toNatClampNeg)] [] dL_law_468 cl_L_51 (sh_0 t) ⟨Nat.le_of_ble_eq_true rfl, Nat.le_of_ble_eq_true rfl⟩ rfl (Nat.le_of_ble_eq_true rfl) (nd_shne t) (nd_rel_kc hrel) (Nat.le_trans (Nat.le_add_right _ _) hks) (nd_rel_len hrel) (t_X10_fault F t (nd_rel_len hrel) _ _ hc3) ?_
  refine nd_aload_n dL_law_471 2 rfl ?_
  refine nd_aload_n dL_law_472 0 rfl ?_
  refine nd_iload_n dL_law_473 3 rfl ?_
  refine nd_iconst dL_law_474 ic_1 ?_
  refine nd_iadd dL_law_475 ?_
  refine nd_sloadN dL_law_476 rfl h (fun h => ?_)
  obtain ⟨r4, σ5, hc6, h⟩ := nd_bind_e h
  refine nd_cviG [.int (xs ((x3 + (1 : Int32))).toNatClampNeg)] [.int r1] dL_law_477 cl_L_54 (sh_60 t) ⟨Nat.le_of_ble_eq_true rfl, Nat.le_of_ble_eq_true rfl⟩ rfl (Nat.le_of_ble_eq_true rfl) (nd_shne t) (nd_rel_kc hrel) (Nat.le_trans (Nat.le_add_right _ _) hks) (nd_rel_len hrel) (t_X11_fault F t (nd_rel_len hrel) _ _ hc6) ?_
  refine nd_icmp_eqN dL_law_480 1299 (by decide) h (fun h => ?_) (fun h => ?_)
  · have hg9 := nd_no_e h
    have h := hg9.2
    have hg9 := Classical.not_not.mp hg9.1
    refine nd_iinc (v := (x3 + (6 : Int32))) (ls' := [(3, .int (x3 + (6 : Int32))), (0, .ref nd_scr), (1, .ref 0), (2, .ref 60)]) dL_law_1299 3 rfl (congrArg (HAdd.hAdd _) ic_6) (Nat.le_of_ble_eq_true rfl) rfl ?_
    refine nd_goto dL_law_1302 18 (by decide) ?_
    refine nd_sub [1, 2, 3, 0] rfl ?_
    exact hrec18 _ _ t ks (nd_rel_of hrel hg9) hks h
  · refine nd_iconst dL_law_483 ic_0 ?_
    cases h
set_option maxRecDepth 100000 in
set_option maxHeartbeats 4000000 in
theorem b_law_485 (F Ln : Nat) (xs : Nat → Int32) (rec18 : Int32 → nd_Mem → nd_Res) {z : Int32 × nd_Mem} (hrec18 : ∀ (x3 : Int32) (σ : nd_Mem) (t : List nd_S) (ks : Nat), nd_rel t σ → ks + (if t = [] then 1344 else 0) ≤ 7302250 → rec18 x3 σ = some z → nd_V (M_law Ln xs) room_1 nd_PL (100 + t.length) ks 18 [(0, .ref nd_scr), (1, .ref 0), (2, .ref 60), (3, .int x3)] [] (nd_SH ++ t) σ) (t : List nd_S) (ks : Nat) (x3 : Int32) (σ : nd_Mem) (hrel : nd_rel t σ) (hks : ks + (if t = [] then 1344 else 0) ≤ 7302250) (h : f_law_485 F Ln xs rec18 x3 σ = some z) : nd_V (M_law Ln xs) room_1 nd_PL (100 + t.length) ks 485 [(0, .ref nd_scr), (1, .ref 0), (2, .ref 60), (3, .int x3)] [] (nd_SH ++ t) σ := by
  unfold f_law_485 at h
  refine nd_aload_n dL_law_485 1 rfl ?_
  refine nd_aload_n dL_law_486 0 rfl ?_
  refine nd_iload_n dL_law_487 3 rfl ?_
  refine nd_iconst dL_law_488 ic_1 ?_
  refine nd_iadd dL_law_489 ?_
  refine nd_sloadN dL_law_490 rfl h (fun h => ?_)
  refine nd_aload_n dL_law_491 0 rfl ?_
  refine nd_iload_n dL_law_492 3 rfl ?_
  refine nd_iconst dL_law_493 ic_2 ?_
  refine nd_iadd dL_law_494 ?_
  refine nd_sloadN dL_law_495 rfl h (fun h => ?_)
  obtain ⟨r1, σ2, hc3, h⟩ := nd_bind_e h
  refine nd_cviG [.int (xs ((x3 + (1 : Int32))).toNatClampNeg), .int (xs ((x3 + (2 : Int32))).toNatClampNeg)] [] dL_law_496 cl_L_55 (sh_0 t) ⟨Nat.le_of_ble_eq_true rfl, Nat.le_of_ble_eq_true rfl⟩ rfl (Nat.le_of_ble_eq_true rfl) (nd_shne t) (nd_rel_kc hrel) (Nat.le_trans (Nat.le_add_right _ _) hks) (nd_rel_len hrel) (t_X10_of F t (nd_rel_len hrel) _ _ _ hc3) ?_
  refine nd_aload_n dL_law_499 2 rfl ?_
  refine nd_aload_n dL_law_500 0 rfl ?_
  refine nd_iload_n dL_law_501 3 rfl ?_
  refine nd_iconst dL_law_502 ic_1 ?_
  refine nd_iadd dL_law_503 ?_
  refine nd_sloadN dL_law_504 rfl h (fun h => ?_)
  refine nd_aload_n dL_law_505 0 rfl ?_
  refine nd_iload_n dL_law_506 3 rfl ?_
  refine nd_iconst dL_law_507 ic_2 ?_
  refine nd_iadd dL_law_508 ?_
  refine nd_sloadN dL_law_509 rfl h (fun h => ?_)
  obtain ⟨r4, σ5, hc6, h⟩ := nd_bind_e h
  refine nd_cviG [.int (xs ((x3 + (1 : Int32))).toNatClampNeg), .int (xs ((x3 + (2 : Int32))).toNatClampNeg)] [.int r1] dL_law_510 cl_L_59 (sh_60 t) ⟨Nat.le_of_ble_eq_true rfl, Nat.le_of_ble_eq_true rfl⟩ rfl (Nat.le_of_ble_eq_true rfl) (nd_shne t) (nd_rel_kc hrel) (Nat.le_trans (Nat.le_add_right _ _) hks) (nd_rel_len hrel) (t_X11_of F t (nd_rel_len hrel) _ _ _ hc6) ?_
  refine nd_icmp_eqN dL_law_513 1299 (by decide) h (fun h => ?_) (fun h => ?_)
  · have hg9 := nd_no_e h
    have h := hg9.2
    have hg9 := Classical.not_not.mp hg9.1
    refine nd_iinc (v := (x3 + (6 : Int32))) (ls' := [(3, .int (x3 + (6 : Int32))), (0, .ref nd_scr), (1, .ref 0), (2, .ref 60)]) dL_law_1299 3 rfl (congrArg (HAdd.hAdd _) ic_6) (Nat.le_of_ble_eq_true rfl) rfl ?_
    refine nd_goto dL_law_1302 18 (by decide) ?_
    refine nd_sub [1, 2, 3, 0] rfl ?_
    exact hrec18 _ _ t ks (nd_rel_of hrel hg9) hks h
  · refine nd_iconst dL_law_516 ic_0 ?_
    cases h
set_option maxRecDepth 100000 in
set_option maxHeartbeats 4000000 in
theorem b_law_518 (F Ln : Nat) (xs : Nat → Int32) (rec18 : Int32 → nd_Mem → nd_Res) {z : Int32 × nd_Mem} (hrec18 : ∀ (x3 : Int32) (σ : nd_Mem) (t : List nd_S) (ks : Nat), nd_rel t σ → ks + (if t = [] then 1344 else 0) ≤ 7302250 → rec18 x3 σ = some z → nd_V (M_law Ln xs) room_1 nd_PL (100 + t.length) ks 18 [(0, .ref nd_scr), (1, .ref 0), (2, .ref 60), (3, .int x3)] [] (nd_SH ++ t) σ) (t : List nd_S) (ks : Nat) (x3 : Int32) (σ : nd_Mem) (hrel : nd_rel t σ) (hks : ks + (if t = [] then 1344 else 0) ≤ 7302250) (h : f_law_518 F Ln xs rec18 x3 σ = some z) : nd_V (M_law Ln xs) room_1 nd_PL (100 + t.length) ks 518 [(0, .ref nd_scr), (1, .ref 0), (2, .ref 60), (3, .int x3)] [] (nd_SH ++ t) σ := by
  unfold f_law_518 at h
  refine nd_aload_n dL_law_518 1 rfl ?_
  refine nd_aload_n dL_law_519 0 rfl ?_
  refine nd_iload_n dL_law_520 3 rfl ?_
  refine nd_iconst dL_law_521 ic_1 ?_
  refine nd_iadd dL_law_522 ?_
  refine nd_sloadN dL_law_523 rfl h (fun h => ?_)
  refine nd_aload_n dL_law_524 0 rfl ?_
  refine nd_iload_n dL_law_525 3 rfl ?_
  refine nd_iconst dL_law_526 ic_2 ?_
  refine nd_iadd dL_law_527 ?_
  refine nd_sloadN dL_law_528 rfl h (fun h => ?_)
  obtain ⟨r1, σ2, hc3, h⟩ := nd_bind_e h
  refine nd_cviG [.int (xs ((x3 + (1 : Int32))).toNatClampNeg), .int (xs ((x3 + (2 : Int32))).toNatClampNeg)] [] dL_law_529 cl_L_60 (sh_0 t) ⟨Nat.le_of_ble_eq_true rfl, Nat.le_of_ble_eq_true rfl⟩ rfl (Nat.le_of_ble_eq_true rfl) (nd_shne t) (nd_rel_kc hrel) (Nat.le_trans (Nat.le_add_right _ _) hks) (nd_rel_len hrel) (t_X10_book F t (nd_rel_len hrel) _ _ _ hc3) ?_
  refine nd_aload_n dL_law_532 2 rfl ?_
  refine nd_aload_n dL_law_533 0 rfl ?_
  refine nd_iload_n dL_law_534 3 rfl ?_
  refine nd_iconst dL_law_535 ic_1 ?_
  refine nd_iadd dL_law_536 ?_
  refine nd_sloadN dL_law_537 rfl h (fun h => ?_)
  refine nd_aload_n dL_law_538 0 rfl ?_
  refine nd_iload_n dL_law_539 3 rfl ?_
  refine nd_iconst dL_law_540 ic_2 ?_
  refine nd_iadd dL_law_541 ?_
  refine nd_sloadN dL_law_542 rfl h (fun h => ?_)
  obtain ⟨r4, σ5, hc6, h⟩ := nd_bind_e h
  refine nd_cviG [.int (xs ((x3 + (1 : Int32))).toNatClampNeg), .int (xs ((x3 + (2 : Int32))).toNatClampNeg)] [.int r1] dL_law_543 cl_L_63 (sh_60 t) ⟨Nat.le_of_ble_eq_true rfl, Nat.le_of_ble_eq_true rfl⟩ rfl (Nat.le_of_ble_eq_true rfl) (nd_shne t) (nd_rel_kc hrel) (Nat.le_trans (Nat.le_add_right _ _) hks) (nd_rel_len hrel) (t_X11_book F t (nd_rel_len hrel) _ _ _ hc6) ?_
  refine nd_icmp_eqN dL_law_546 1299 (by decide) h (fun h => ?_) (fun h => ?_)
  · have hg9 := nd_no_e h
    have h := hg9.2
    have hg9 := Classical.not_not.mp hg9.1
    refine nd_iinc (v := (x3 + (6 : Int32))) (ls' := [(3, .int (x3 + (6 : Int32))), (0, .ref nd_scr), (1, .ref 0), (2, .ref 60)]) dL_law_1299 3 rfl (congrArg (HAdd.hAdd _) ic_6) (Nat.le_of_ble_eq_true rfl) rfl ?_
    refine nd_goto dL_law_1302 18 (by decide) ?_
    refine nd_sub [1, 2, 3, 0] rfl ?_
    exact hrec18 _ _ t ks (nd_rel_of hrel hg9) hks h
  · refine nd_iconst dL_law_549 ic_0 ?_
    cases h
set_option maxRecDepth 100000 in
set_option maxHeartbeats 4000000 in
theorem b_law_551 (F Ln : Nat) (xs : Nat → Int32) (rec18 : Int32 → nd_Mem → nd_Res) {z : Int32 × nd_Mem} (hrec18 : ∀ (x3 : Int32) (σ : nd_Mem) (t : List nd_S) (ks : Nat), nd_rel t σ → ks + (if t = [] then 1344 else 0) ≤ 7302250 → rec18 x3 σ = some z → nd_V (M_law Ln xs) room_1 nd_PL (100 + t.length) ks 18 [(0, .ref nd_scr), (1, .ref 0), (2, .ref 60), (3, .int x3)] [] (nd_SH ++ t) σ) (t : List nd_S) (ks : Nat) (x3 : Int32) (σ : nd_Mem) (hrel : nd_rel t σ) (hks : ks + (if t = [] then 1344 else 0) ≤ 7302250) (h : f_law_551 F Ln xs rec18 x3 σ = some z) : nd_V (M_law Ln xs) room_1 nd_PL (100 + t.length) ks 551 [(0, .ref nd_scr), (1, .ref 0), (2, .ref 60), (3, .int x3)] [] (nd_SH ++ t) σ := by
  unfold f_law_551 at h
  refine nd_aload_n dL_law_551 1 rfl ?_
  refine nd_aload_n dL_law_552 0 rfl ?_
  refine nd_iload_n dL_law_553 3 rfl ?_
  refine nd_iconst dL_law_554 ic_1 ?_
  refine nd_iadd dL_law_555 ?_
  refine nd_sloadN dL_law_556 rfl h (fun h => ?_)
  refine nd_aload_n dL_law_557 0 rfl ?_
  refine nd_iload_n dL_law_558 3 rfl ?_
  refine nd_iconst dL_law_559 ic_2 ?_
  refine nd_iadd dL_law_560 ?_
  refine nd_sloadN dL_law_561 rfl h (fun h => ?_)
  obtain ⟨r1, σ2, hc3, h⟩ := nd_bind_e h
  refine nd_cviG [.int (xs ((x3 + (1 : Int32))).toNatClampNeg), .int (xs ((x3 + (2 : Int32))).toNatClampNeg)] [] dL_law_562 cl_L_64 (sh_0 t) ⟨Nat.le_of_ble_eq_true rfl, Nat.le_of_ble_eq_true rfl⟩ rfl (Nat.le_of_ble_eq_true rfl) (nd_shne t) (nd_rel_kc hrel) (Nat.le_trans (Nat.le_add_right _ _) hks) (nd_rel_len hrel) (t_X10_goes F t (nd_rel_len hrel) _ _ _ hc3) ?_
  refine nd_aload_n dL_law_565 2 rfl ?_
  refine nd_aload_n dL_law_566 0 rfl ?_
  refine nd_iload_n dL_law_567 3 rfl ?_
  refine nd_iconst dL_law_568 ic_1 ?_
  refine nd_iadd dL_law_569 ?_
  refine nd_sloadN dL_law_570 rfl h (fun h => ?_)
  refine nd_aload_n dL_law_571 0 rfl ?_
  refine nd_iload_n dL_law_572 3 rfl ?_
  refine nd_iconst dL_law_573 ic_2 ?_
  refine nd_iadd dL_law_574 ?_
  refine nd_sloadN dL_law_575 rfl h (fun h => ?_)
  obtain ⟨r4, σ5, hc6, h⟩ := nd_bind_e h
  refine nd_cviG [.int (xs ((x3 + (1 : Int32))).toNatClampNeg), .int (xs ((x3 + (2 : Int32))).toNatClampNeg)] [.int r1] dL_law_576 cl_L_67 (sh_60 t) ⟨Nat.le_of_ble_eq_true rfl, Nat.le_of_ble_eq_true rfl⟩ rfl (Nat.le_of_ble_eq_true rfl) (nd_shne t) (nd_rel_kc hrel) (Nat.le_trans (Nat.le_add_right _ _) hks) (nd_rel_len hrel) (t_X11_goes F t (nd_rel_len hrel) _ _ _ hc6) ?_
  refine nd_icmp_eqN dL_law_579 1299 (by decide) h (fun h => ?_) (fun h => ?_)
  · have hg9 := nd_no_e h
    have h := hg9.2
    have hg9 := Classical.not_not.mp hg9.1
    refine nd_iinc (v := (x3 + (6 : Int32))) (ls' := [(3, .int (x3 + (6 : Int32))), (0, .ref nd_scr), (1, .ref 0), (2, .ref 60)]) dL_law_1299 3 rfl (congrArg (HAdd.hAdd _) ic_6) (Nat.le_of_ble_eq_true rfl) rfl ?_
    refine nd_goto dL_law_1302 18 (by decide) ?_
    refine nd_sub [1, 2, 3, 0] rfl ?_
    exact hrec18 _ _ t ks (nd_rel_of hrel hg9) hks h
  · refine nd_iconst dL_law_582 ic_0 ?_
    cases h
set_option maxRecDepth 100000 in
set_option maxHeartbeats 4000000 in
theorem b_law_584 (F Ln : Nat) (xs : Nat → Int32) (rec18 : Int32 → nd_Mem → nd_Res) {z : Int32 × nd_Mem} (hrec18 : ∀ (x3 : Int32) (σ : nd_Mem) (t : List nd_S) (ks : Nat), nd_rel t σ → ks + (if t = [] then 1344 else 0) ≤ 7302250 → rec18 x3 σ = some z → nd_V (M_law Ln xs) room_1 nd_PL (100 + t.length) ks 18 [(0, .ref nd_scr), (1, .ref 0), (2, .ref 60), (3, .int x3)] [] (nd_SH ++ t) σ) (t : List nd_S) (ks : Nat) (x3 : Int32) (σ : nd_Mem) (hrel : nd_rel t σ) (hks : ks + (if t = [] then 1344 else 0) ≤ 7302250) (h : f_law_584 F Ln xs rec18 x3 σ = some z) : nd_V (M_law Ln xs) room_1 nd_PL (100 + t.length) ks 584 [(0, .ref nd_scr), (1, .ref 0), (2, .ref 60), (3, .int x3)] [] (nd_SH ++ t) σ := by
  unfold f_law_584 at h
  refine nd_aload_n dL_law_584 1 rfl ?_
  refine nd_aload_n dL_law_585 0 rfl ?_
  refine nd_iload_n dL_law_586 3 rfl ?_
  refine nd_iconst dL_law_587 ic_1 ?_
  refine nd_iadd dL_law_588 ?_
  refine nd_sloadN dL_law_589 rfl h (fun h => ?_)
  obtain ⟨r1, σ2, hc3, h⟩ := nd_bind_e h
  refine nd_cviG [.int (xs ((x3 + (1 : Int32))).toNatClampNeg)] [] dL_law_590 cl_L_68 (sh_0 t) ⟨Nat.le_of_ble_eq_true rfl, Nat.le_of_ble_eq_true rfl⟩ rfl (Nat.le_of_ble_eq_true rfl) (nd_shne t) (nd_rel_kc hrel) (Nat.le_trans (Nat.le_add_right _ _) hks) (nd_rel_len hrel) (t_X10_jug F t (nd_rel_len hrel) _ _ hc3) ?_
  refine nd_aload_n dL_law_593 2 rfl ?_
  refine nd_aload_n dL_law_594 0 rfl ?_
  refine nd_iload_n dL_law_595 3 rfl ?_
  refine nd_iconst dL_law_596 ic_1 ?_
  refine nd_iadd dL_law_597 ?_
  refine nd_sloadN dL_law_598 rfl h (fun h => ?_)
  obtain ⟨r4, σ5, hc6, h⟩ := nd_bind_e h
  refine nd_cviG [.int (xs ((x3 + (1 : Int32))).toNatClampNeg)] [.int r1] dL_law_599 cl_L_71 (sh_60 t) ⟨Nat.le_of_ble_eq_true rfl, Nat.le_of_ble_eq_true rfl⟩ rfl (Nat.le_of_ble_eq_true rfl) (nd_shne t) (nd_rel_kc hrel) (Nat.le_trans (Nat.le_add_right _ _) hks) (nd_rel_len hrel) (t_X11_jug F t (nd_rel_len hrel) _ _ hc6) ?_
  refine nd_icmp_eqN dL_law_602 1299 (by decide) h (fun h => ?_) (fun h => ?_)
  · have hg9 := nd_no_e h
    have h := hg9.2
    have hg9 := Classical.not_not.mp hg9.1
    refine nd_iinc (v := (x3 + (6 : Int32))) (ls' := [(3, .int (x3 + (6 : Int32))), (0, .ref nd_scr), (1, .ref 0), (2, .ref 60)]) dL_law_1299 3 rfl (congrArg (HAdd.hAdd _) ic_6) (Nat.le_of_ble_eq_true rfl) rfl ?_
    refine nd_goto dL_law_1302 18 (by decide) ?_
    refine nd_sub [1, 2, 3, 0] rfl ?_
    exact hrec18 _ _ t ks (nd_rel_of hrel hg9) hks h
  · refine nd_iconst dL_law_605 ic_0 ?_
    cases h
set_option maxRecDepth 100000 in
set_option maxHeartbeats 4000000 in
theorem b_law_607 (F Ln : Nat) (xs : Nat → Int32) (rec18 : Int32 → nd_Mem → nd_Res) {z : Int32 × nd_Mem} (hrec18 : ∀ (x3 : Int32) (σ : nd_Mem) (t : List nd_S) (ks : Nat), nd_rel t σ → ks + (if t = [] then 1344 else 0) ≤ 7302250 → rec18 x3 σ = some z → nd_V (M_law Ln xs) room_1 nd_PL (100 + t.length) ks 18 [(0, .ref nd_scr), (1, .ref 0), (2, .ref 60), (3, .int x3)] [] (nd_SH ++ t) σ) (t : List nd_S) (ks : Nat) (x3 : Int32) (σ : nd_Mem) (hrel : nd_rel t σ) (hks : ks + (if t = [] then 1344 else 0) ≤ 7302250) (h : f_law_607 F Ln xs rec18 x3 σ = some z) : nd_V (M_law Ln xs) room_1 nd_PL (100 + t.length) ks 607 [(0, .ref nd_scr), (1, .ref 0), (2, .ref 60), (3, .int x3)] [] (nd_SH ++ t) σ := by
  unfold f_law_607 at h
  refine nd_aload_n dL_law_607 1 rfl ?_
  refine nd_aload_n dL_law_608 0 rfl ?_
  refine nd_iload_n dL_law_609 3 rfl ?_
  refine nd_iconst dL_law_610 ic_1 ?_
  refine nd_iadd dL_law_611 ?_
  refine nd_sloadN dL_law_612 rfl h (fun h => ?_)
  refine nd_aload_n dL_law_613 0 rfl ?_
  refine nd_iload_n dL_law_614 3 rfl ?_
  refine nd_iconst dL_law_615 ic_2 ?_
  refine nd_iadd dL_law_616 ?_
  refine nd_sloadN dL_law_617 rfl h (fun h => ?_)
  refine nd_aload_n dL_law_618 0 rfl ?_
  refine nd_iload_n dL_law_619 3 rfl ?_
  refine nd_iconst dL_law_620 ic_3 ?_
  refine nd_iadd dL_law_621 ?_
  refine nd_sloadN dL_law_622 rfl h (fun h => ?_)
  refine nd_aload_n dL_law_623 0 rfl ?_
  refine nd_iload_n dL_law_624 3 rfl ?_
  refine nd_iconst dL_law_625 ic_4 ?_
  refine nd_iadd dL_law_626 ?_
  refine nd_sloadN dL_law_627 rfl h (fun h => ?_)
  obtain ⟨r1, σ2, hc3, h⟩ := nd_bind_e h
  refine nd_cviG [.int (xs ((x3 + (1 : Int32))).toNatClampNeg), .int (xs ((x3 + (2 : Int32))).toNatClampNeg), .int (xs ((x3 + (3 : Int32))).toNatClampNeg), .int (xs ((x3 + (4 : Int32))).toNatClampNeg)] [] dL_law_628 cl_L_72 (sh_0 t) ⟨Nat.le_of_ble_eq_true rfl, Nat.le_of_ble_eq_true rfl⟩ rfl (Nat.le_of_ble_eq_true rfl) (nd_shne t) (nd_rel_kc hrel) (Nat.le_trans (Nat.le_add_right _ _) hks) (nd_rel_len hrel) (t_X10_meets F t (nd_rel_len hrel) _ _ _ _ _ hc3) ?_
  refine nd_aload_n dL_law_631 2 rfl ?_
  refine nd_aload_n dL_law_632 0 rfl ?_
  refine nd_iload_n dL_law_633 3 rfl ?_
  refine nd_iconst dL_law_634 ic_1 ?_
  refine nd_iadd dL_law_635 ?_
  refine nd_sloadN dL_law_636 rfl h (fun h => ?_)
  refine nd_aload_n dL_law_637 0 rfl ?_
  refine nd_iload_n dL_law_638 3 rfl ?_
  refine nd_iconst dL_law_639 ic_2 ?_
  refine nd_iadd dL_law_640 ?_
  refine nd_sloadN dL_law_641 rfl h (fun h => ?_)
  refine nd_aload_n dL_law_642 0 rfl ?_
  refine nd_iload_n dL_law_643 3 rfl ?_
  refine nd_iconst dL_law_644 ic_3 ?_
  refine nd_iadd dL_law_645 ?_
  refine nd_sloadN dL_law_646 rfl h (fun h => ?_)
  refine nd_aload_n dL_law_647 0 rfl ?_
  refine nd_iload_n dL_law_648 3 rfl ?_
  refine nd_iconst dL_law_649 ic_4 ?_
  refine nd_iadd dL_law_650 ?_
  refine nd_sloadN dL_law_651 rfl h (fun h => ?_)
  obtain ⟨r4, σ5, hc6, h⟩ := nd_bind_e h
  refine nd_cviG [.int (xs ((x3 + (1 : Int32))).toNatClampNeg), .int (xs ((x3 + (2 : Int32))).toNatClampNeg), .int (xs ((x3 + (3 : Int32))).toNatClampNeg), .int (xs ((x3 + (4 : Int32))).toNatClampNeg)] [.int r1] dL_law_652 cl_L_76 (sh_60 t) ⟨Nat.le_of_ble_eq_true rfl, Nat.le_of_ble_eq_true rfl⟩ rfl (Nat.le_of_ble_eq_true rfl) (nd_shne t) (nd_rel_kc hrel) (Nat.le_trans (Nat.le_add_right _ _) hks) (nd_rel_len hrel) (t_X11_meets F t (nd_rel_len hrel) _ _ _ _ _ hc6) ?_
  refine nd_icmp_eqN dL_law_655 1299 (by decide) h (fun h => ?_) (fun h => ?_)
  · have hg9 := nd_no_e h
    have h := hg9.2
    have hg9 := Classical.not_not.mp hg9.1
    refine nd_iinc (v := (x3 + (6 : Int32))) (ls' := [(3, .int (x3 + (6 : Int32))), (0, .ref nd_scr), (1, .ref 0), (2, .ref 60)]) dL_law_1299 3 rfl (congrArg (HAdd.hAdd _) ic_6) (Nat.le_of_ble_eq_true rfl) rfl ?_
    refine nd_goto dL_law_1302 18 (by decide) ?_
    refine nd_sub [1, 2, 3, 0] rfl ?_
    exact hrec18 _ _ t ks (nd_rel_of hrel hg9) hks h
  · refine nd_iconst dL_law_658 ic_0 ?_
    cases h
set_option maxRecDepth 100000 in
set_option maxHeartbeats 4000000 in
theorem b_law_660 (F Ln : Nat) (xs : Nat → Int32) (rec18 : Int32 → nd_Mem → nd_Res) {z : Int32 × nd_Mem} (hrec18 : ∀ (x3 : Int32) (σ : nd_Mem) (t : List nd_S) (ks : Nat), nd_rel t σ → ks + (if t = [] then 1344 else 0) ≤ 7302250 → rec18 x3 σ = some z → nd_V (M_law Ln xs) room_1 nd_PL (100 + t.length) ks 18 [(0, .ref nd_scr), (1, .ref 0), (2, .ref 60), (3, .int x3)] [] (nd_SH ++ t) σ) (t : List nd_S) (ks : Nat) (x3 : Int32) (σ : nd_Mem) (hrel : nd_rel t σ) (hks : ks + (if t = [] then 1344 else 0) ≤ 7302250) (h : f_law_660 F Ln xs rec18 x3 σ = some z) : nd_V (M_law Ln xs) room_1 nd_PL (100 + t.length) ks 660 [(0, .ref nd_scr), (1, .ref 0), (2, .ref 60), (3, .int x3)] [] (nd_SH ++ t) σ := by
  unfold f_law_660 at h
  refine nd_aload_n dL_law_660 1 rfl ?_
  refine nd_aload_n dL_law_661 0 rfl ?_
  refine nd_iload_n dL_law_662 3 rfl ?_
  refine nd_iconst dL_law_663 ic_1 ?_
  refine nd_iadd dL_law_664 ?_
  refine nd_sloadN dL_law_665 rfl h (fun h => ?_)
  obtain ⟨r1, σ2, hc3, h⟩ := nd_bind_e h
  refine nd_cviG [.int (xs ((x3 + (1 : Int32))).toNatClampNeg)] [] dL_law_666 cl_L_77 (sh_0 t) ⟨Nat.le_of_ble_eq_true rfl, Nat.le_of_ble_eq_true rfl⟩ rfl (Nat.le_of_ble_eq_true rfl) (nd_shne t) (nd_rel_kc hrel) (Nat.le_trans (Nat.le_add_right _ _) hks) (nd_rel_len hrel) (t_X10_child F t (nd_rel_len hrel) _ _ hc3) ?_
  refine nd_aload_n dL_law_669 2 rfl ?_
  refine nd_aload_n dL_law_670 0 rfl ?_
  refine nd_iload_n dL_law_671 3 rfl ?_
  refine nd_iconst dL_law_672 ic_1 ?_
  refine nd_iadd dL_law_673 ?_
  refine nd_sloadN dL_law_674 rfl h (fun h => ?_)
  obtain ⟨r4, σ5, hc6, h⟩ := nd_bind_e h
  refine nd_cviG [.int (xs ((x3 + (1 : Int32))).toNatClampNeg)] [.int r1] dL_law_675 cl_L_80 (sh_60 t) ⟨Nat.le_of_ble_eq_true rfl, Nat.le_of_ble_eq_true rfl⟩ rfl (Nat.le_of_ble_eq_true rfl) (nd_shne t) (nd_rel_kc hrel) (Nat.le_trans (Nat.le_add_right _ _) hks) (nd_rel_len hrel) (t_X11_child F t (nd_rel_len hrel) _ _ hc6) ?_
  refine nd_icmp_eqN dL_law_678 1299 (by decide) h (fun h => ?_) (fun h => ?_)
  · have hg9 := nd_no_e h
    have h := hg9.2
    have hg9 := Classical.not_not.mp hg9.1
    refine nd_iinc (v := (x3 + (6 : Int32))) (ls' := [(3, .int (x3 + (6 : Int32))), (0, .ref nd_scr), (1, .ref 0), (2, .ref 60)]) dL_law_1299 3 rfl (congrArg (HAdd.hAdd _) ic_6) (Nat.le_of_ble_eq_true rfl) rfl ?_
    refine nd_goto dL_law_1302 18 (by decide) ?_
    refine nd_sub [1, 2, 3, 0] rfl ?_
    exact hrec18 _ _ t ks (nd_rel_of hrel hg9) hks h
  · refine nd_iconst dL_law_681 ic_0 ?_
    cases h
set_option maxRecDepth 100000 in
set_option maxHeartbeats 4000000 in
theorem b_law_683 (F Ln : Nat) (xs : Nat → Int32) (rec18 : Int32 → nd_Mem → nd_Res) {z : Int32 × nd_Mem} (hrec18 : ∀ (x3 : Int32) (σ : nd_Mem) (t : List nd_S) (ks : Nat), nd_rel t σ → ks + (if t = [] then 1344 else 0) ≤ 7302250 → rec18 x3 σ = some z → nd_V (M_law Ln xs) room_1 nd_PL (100 + t.length) ks 18 [(0, .ref nd_scr), (1, .ref 0), (2, .ref 60), (3, .int x3)] [] (nd_SH ++ t) σ) (t : List nd_S) (ks : Nat) (x3 : Int32) (σ : nd_Mem) (hrel : nd_rel t σ) (hks : ks + (if t = [] then 1344 else 0) ≤ 7302250) (h : f_law_683 F Ln xs rec18 x3 σ = some z) : nd_V (M_law Ln xs) room_1 nd_PL (100 + t.length) ks 683 [(0, .ref nd_scr), (1, .ref 0), (2, .ref 60), (3, .int x3)] [] (nd_SH ++ t) σ := by
  unfold f_law_683 at h
  refine nd_aload_n dL_law_683 1 rfl ?_
  refine nd_aload_n dL_law_684 0 rfl ?_
  refine nd_iload_n dL_law_685 3 rfl ?_
  refine nd_iconst dL_law_686 ic_1 ?_
  refine nd_iadd dL_law_687 ?_
  refine nd_sloadN dL_law_688 rfl h (fun h => ?_)
  obtain ⟨r1, σ2, hc3, h⟩ := nd_bind_e h
  refine nd_cviG [.int (xs ((x3 + (1 : Int32))).toNatClampNeg)] [] dL_law_689 cl_L_81 (sh_0 t) ⟨Nat.le_of_ble_eq_true rfl, Nat.le_of_ble_eq_true rfl⟩ rfl (Nat.le_of_ble_eq_true rfl) (nd_shne t) (nd_rel_kc hrel) (Nat.le_trans (Nat.le_add_right _ _) hks) (nd_rel_len hrel) (t_X10_planned F t (nd_rel_len hrel) _ _ hc3) ?_
  refine nd_aload_n dL_law_692 2 rfl ?_
  refine nd_aload_n dL_law_693 0 rfl ?_
  refine nd_iload_n dL_law_694 3 rfl ?_
  refine nd_iconst dL_law_695 ic_1 ?_
  refine nd_iadd dL_law_696 ?_
  refine nd_sloadN dL_law_697 rfl h (fun h => ?_)
  obtain ⟨r4, σ5, hc6, h⟩ := nd_bind_e h
  refine nd_cviG [.int (xs ((x3 + (1 : Int32))).toNatClampNeg)] [.int r1] dL_law_698 cl_L_84 (sh_60 t) ⟨Nat.le_of_ble_eq_true rfl, Nat.le_of_ble_eq_true rfl⟩ rfl (Nat.le_of_ble_eq_true rfl) (nd_shne t) (nd_rel_kc hrel) (Nat.le_trans (Nat.le_add_right _ _) hks) (nd_rel_len hrel) (t_X11_planned F t (nd_rel_len hrel) _ _ hc6) ?_
  refine nd_icmp_eqN dL_law_701 1299 (by decide) h (fun h => ?_) (fun h => ?_)
  · have hg9 := nd_no_e h
    have h := hg9.2
    have hg9 := Classical.not_not.mp hg9.1
    refine nd_iinc (v := (x3 + (6 : Int32))) (ls' := [(3, .int (x3 + (6 : Int32))), (0, .ref nd_scr), (1, .ref 0), (2, .ref 60)]) dL_law_1299 3 rfl (congrArg (HAdd.hAdd _) ic_6) (Nat.le_of_ble_eq_true rfl) rfl ?_
    refine nd_goto dL_law_1302 18 (by decide) ?_
    refine nd_sub [1, 2, 3, 0] rfl ?_
    exact hrec18 _ _ t ks (nd_rel_of hrel hg9) hks h
  · refine nd_iconst dL_law_704 ic_0 ?_
    cases h
set_option maxRecDepth 100000 in
set_option maxHeartbeats 4000000 in
theorem b_law_706 (F Ln : Nat) (xs : Nat → Int32) (rec18 : Int32 → nd_Mem → nd_Res) {z : Int32 × nd_Mem} (hrec18 : ∀ (x3 : Int32) (σ : nd_Mem) (t : List nd_S) (ks : Nat), nd_rel t σ → ks + (if t = [] then 1344 else 0) ≤ 7302250 → rec18 x3 σ = some z → nd_V (M_law Ln xs) room_1 nd_PL (100 + t.length) ks 18 [(0, .ref nd_scr), (1, .ref 0), (2, .ref 60), (3, .int x3)] [] (nd_SH ++ t) σ) (t : List nd_S) (ks : Nat) (x3 : Int32) (σ : nd_Mem) (hrel : nd_rel t σ) (hks : ks + (if t = [] then 1344 else 0) ≤ 7302250) (h : f_law_706 F Ln xs rec18 x3 σ = some z) : nd_V (M_law Ln xs) room_1 nd_PL (100 + t.length) ks 706 [(0, .ref nd_scr), (1, .ref 0), (2, .ref 60), (3, .int x3)] [] (nd_SH ++ t) σ := by
  unfold f_law_706 at h
  refine nd_aload_n dL_law_706 1 rfl ?_
  refine nd_aload_n dL_law_707 0 rfl ?_
  refine nd_iload_n dL_law_708 3 rfl ?_
  refine nd_iconst dL_law_709 ic_1 ?_
  refine nd_iadd dL_law_710 ?_
  refine nd_sloadN dL_law_711 rfl h (fun h => ?_)
  refine nd_aload_n dL_law_712 0 rfl ?_
  refine nd_iload_n dL_law_713 3 rfl ?_
  refine nd_iconst dL_law_714 ic_2 ?_
  refine nd_iadd dL_law_715 ?_
  refine nd_sloadN dL_law_716 rfl h (fun h => ?_)
  obtain ⟨r1, σ2, hc3, h⟩ := nd_bind_e h
  refine nd_cviG [.int (xs ((x3 + (1 : Int32))).toNatClampNeg), .int (xs ((x3 + (2 : Int32))).toNatClampNeg)] [] dL_law_717 cl_L_85 (sh_0 t) ⟨Nat.le_of_ble_eq_true rfl, Nat.le_of_ble_eq_true rfl⟩ rfl (Nat.le_of_ble_eq_true rfl) (nd_shne t) (nd_rel_kc hrel) (Nat.le_trans (Nat.le_add_right _ _) hks) (nd_rel_len hrel) (t_X10_siding F t (nd_rel_len hrel) _ _ _ hc3) ?_
  refine nd_aload_n dL_law_720 2 rfl ?_
  refine nd_aload_n dL_law_721 0 rfl ?_
  refine nd_iload_n dL_law_722 3 rfl ?_
  refine nd_iconst dL_law_723 ic_1 ?_
  refine nd_iadd dL_law_724 ?_
  refine nd_sloadN dL_law_725 rfl h (fun h => ?_)
  refine nd_aload_n dL_law_726 0 rfl ?_
  refine nd_iload_n dL_law_727 3 rfl ?_
  refine nd_iconst dL_law_728 ic_2 ?_
  refine nd_iadd dL_law_729 ?_
  refine nd_sloadN dL_law_730 rfl h (fun h => ?_)
  obtain ⟨r4, σ5, hc6, h⟩ := nd_bind_e h
  refine nd_cviG [.int (xs ((x3 + (1 : Int32))).toNatClampNeg), .int (xs ((x3 + (2 : Int32))).toNatClampNeg)] [.int r1] dL_law_731 cl_L_88 (sh_60 t) ⟨Nat.le_of_ble_eq_true rfl, Nat.le_of_ble_eq_true rfl⟩ rfl (Nat.le_of_ble_eq_true rfl) (nd_shne t) (nd_rel_kc hrel) (Nat.le_trans (Nat.le_add_right _ _) hks) (nd_rel_len hrel) (t_X11_siding F t (nd_rel_len hrel) _ _ _ hc6) ?_
  refine nd_icmp_eqN dL_law_734 1299 (by decide) h (fun h => ?_) (fun h => ?_)
  · have hg9 := nd_no_e h
    have h := hg9.2
    have hg9 := Classical.not_not.mp hg9.1
    refine nd_iinc (v := (x3 + (6 : Int32))) (ls' := [(3, .int (x3 + (6 : Int32))), (0, .ref nd_scr), (1, .ref 0), (2, .ref 60)]) dL_law_1299 3 rfl (congrArg (HAdd.hAdd _) ic_6) (Nat.le_of_ble_eq_true rfl) rfl ?_
    refine nd_goto dL_law_1302 18 (by decide) ?_
    refine nd_sub [1, 2, 3, 0] rfl ?_
    exact hrec18 _ _ t ks (nd_rel_of hrel hg9) hks h
  · refine nd_iconst dL_law_737 ic_0 ?_
    cases h
set_option maxRecDepth 100000 in
set_option maxHeartbeats 4000000 in
theorem b_law_739 (F Ln : Nat) (xs : Nat → Int32) (rec18 : Int32 → nd_Mem → nd_Res) {z : Int32 × nd_Mem} (hrec18 : ∀ (x3 : Int32) (σ : nd_Mem) (t : List nd_S) (ks : Nat), nd_rel t σ → ks + (if t = [] then 1344 else 0) ≤ 7302250 → rec18 x3 σ = some z → nd_V (M_law Ln xs) room_1 nd_PL (100 + t.length) ks 18 [(0, .ref nd_scr), (1, .ref 0), (2, .ref 60), (3, .int x3)] [] (nd_SH ++ t) σ) (t : List nd_S) (ks : Nat) (x3 : Int32) (σ : nd_Mem) (hrel : nd_rel t σ) (hks : ks + (if t = [] then 1344 else 0) ≤ 7302250) (h : f_law_739 F Ln xs rec18 x3 σ = some z) : nd_V (M_law Ln xs) room_1 nd_PL (100 + t.length) ks 739 [(0, .ref nd_scr), (1, .ref 0), (2, .ref 60), (3, .int x3)] [] (nd_SH ++ t) σ := by
  unfold f_law_739 at h
  refine nd_aload_n dL_law_739 1 rfl ?_
  refine nd_aload_n dL_law_740 0 rfl ?_
  refine nd_iload_n dL_law_741 3 rfl ?_
  refine nd_iconst dL_law_742 ic_1 ?_
  refine nd_iadd dL_law_743 ?_
  refine nd_sloadN dL_law_744 rfl h (fun h => ?_)
  refine nd_aload_n dL_law_745 0 rfl ?_
  refine nd_iload_n dL_law_746 3 rfl ?_
  refine nd_iconst dL_law_747 ic_2 ?_
  refine nd_iadd dL_law_748 ?_
  refine nd_sloadN dL_law_749 rfl h (fun h => ?_)
  obtain ⟨r1, σ2, hc3, h⟩ := nd_bind_e h
  refine nd_cviG [.int (xs ((x3 + (1 : Int32))).toNatClampNeg), .int (xs ((x3 + (2 : Int32))).toNatClampNeg)] [] dL_law_750 cl_L_89 (sh_0 t) ⟨Nat.le_of_ble_eq_true rfl, Nat.le_of_ble_eq_true rfl⟩ rfl (Nat.le_of_ble_eq_true rfl) (nd_shne t) (nd_rel_kc hrel) (Nat.le_trans (Nat.le_add_right _ _) hks) (nd_rel_len hrel) (t_X10_bought F t (nd_rel_len hrel) _ _ _ hc3) ?_
  refine nd_aload_n dL_law_753 2 rfl ?_
  refine nd_aload_n dL_law_754 0 rfl ?_
  refine nd_iload_n dL_law_755 3 rfl ?_
  refine nd_iconst dL_law_756 ic_1 ?_
  refine nd_iadd dL_law_757 ?_
  refine nd_sloadN dL_law_758 rfl h (fun h => ?_)
  refine nd_aload_n dL_law_759 0 rfl ?_
  refine nd_iload_n dL_law_760 3 rfl ?_
  refine nd_iconst dL_law_761 ic_2 ?_
  refine nd_iadd dL_law_762 ?_
  refine nd_sloadN dL_law_763 rfl h (fun h => ?_)
  obtain ⟨r4, σ5, hc6, h⟩ := nd_bind_e h
  refine nd_cviG [.int (xs ((x3 + (1 : Int32))).toNatClampNeg), .int (xs ((x3 + (2 : Int32))).toNatClampNeg)] [.int r1] dL_law_764 cl_L_92 (sh_60 t) ⟨Nat.le_of_ble_eq_true rfl, Nat.le_of_ble_eq_true rfl⟩ rfl (Nat.le_of_ble_eq_true rfl) (nd_shne t) (nd_rel_kc hrel) (Nat.le_trans (Nat.le_add_right _ _) hks) (nd_rel_len hrel) (t_X11_bought F t (nd_rel_len hrel) _ _ _ hc6) ?_
  refine nd_icmp_eqN dL_law_767 1299 (by decide) h (fun h => ?_) (fun h => ?_)
  · have hg9 := nd_no_e h
    have h := hg9.2
    have hg9 := Classical.not_not.mp hg9.1
    refine nd_iinc (v := (x3 + (6 : Int32))) (ls' := [(3, .int (x3 + (6 : Int32))), (0, .ref nd_scr), (1, .ref 0), (2, .ref 60)]) dL_law_1299 3 rfl (congrArg (HAdd.hAdd _) ic_6) (Nat.le_of_ble_eq_true rfl) rfl ?_
    refine nd_goto dL_law_1302 18 (by decide) ?_
    refine nd_sub [1, 2, 3, 0] rfl ?_
    exact hrec18 _ _ t ks (nd_rel_of hrel hg9) hks h
  · refine nd_iconst dL_law_770 ic_0 ?_
    cases h
set_option maxRecDepth 100000 in
set_option maxHeartbeats 4000000 in
theorem b_law_772 (F Ln : Nat) (xs : Nat → Int32) (rec18 : Int32 → nd_Mem → nd_Res) {z : Int32 × nd_Mem} (hrec18 : ∀ (x3 : Int32) (σ : nd_Mem) (t : List nd_S) (ks : Nat), nd_rel t σ → ks + (if t = [] then 1344 else 0) ≤ 7302250 → rec18 x3 σ = some z → nd_V (M_law Ln xs) room_1 nd_PL (100 + t.length) ks 18 [(0, .ref nd_scr), (1, .ref 0), (2, .ref 60), (3, .int x3)] [] (nd_SH ++ t) σ) (t : List nd_S) (ks : Nat) (x3 : Int32) (σ : nd_Mem) (hrel : nd_rel t σ) (hks : ks + (if t = [] then 1344 else 0) ≤ 7302250) (h : f_law_772 F Ln xs rec18 x3 σ = some z) : nd_V (M_law Ln xs) room_1 nd_PL (100 + t.length) ks 772 [(0, .ref nd_scr), (1, .ref 0), (2, .ref 60), (3, .int x3)] [] (nd_SH ++ t) σ := by
  unfold f_law_772 at h
  refine nd_aload_n dL_law_772 1 rfl ?_
  refine nd_aload_n dL_law_773 0 rfl ?_
  refine nd_iload_n dL_law_774 3 rfl ?_
  refine nd_iconst dL_law_775 ic_1 ?_
  refine nd_iadd dL_law_776 ?_
  refine nd_sloadN dL_law_777 rfl h (fun h => ?_)
  refine nd_aload_n dL_law_778 0 rfl ?_
  refine nd_iload_n dL_law_779 3 rfl ?_
  refine nd_iconst dL_law_780 ic_2 ?_
  refine nd_iadd dL_law_781 ?_
  refine nd_sloadN dL_law_782 rfl h (fun h => ?_)
  obtain ⟨r1, σ2, hc3, h⟩ := nd_bind_e h
  refine nd_cviG [.int (xs ((x3 + (1 : Int32))).toNatClampNeg), .int (xs ((x3 + (2 : Int32))).toNatClampNeg)] [] dL_law_783 cl_L_93 (sh_0 t) ⟨Nat.le_of_ble_eq_true rfl, Nat.le_of_ble_eq_true rfl⟩ rfl (Nat.le_of_ble_eq_true rfl) (nd_shne t) (nd_rel_kc hrel) (Nat.le_trans (Nat.le_add_right _ _) hks) (nd_rel_len hrel) (t_X10_rows F t (nd_rel_len hrel) _ _ _ hc3) ?_
  refine nd_aload_n dL_law_786 2 rfl ?_
  refine nd_aload_n dL_law_787 0 rfl ?_
  refine nd_iload_n dL_law_788 3 rfl ?_
  refine nd_iconst dL_law_789 ic_1 ?_
  refine nd_iadd dL_law_790 ?_
  refine nd_sloadN dL_law_791 rfl h (fun h => ?_)
  refine nd_aload_n dL_law_792 0 rfl ?_
  refine nd_iload_n dL_law_793 3 rfl ?_
  refine nd_iconst dL_law_794 ic_2 ?_
  refine nd_iadd dL_law_795 ?_
  refine nd_sloadN dL_law_796 rfl h (fun h => ?_)
  obtain ⟨r4, σ5, hc6, h⟩ := nd_bind_e h
  refine nd_cviG [.int (xs ((x3 + (1 : Int32))).toNatClampNeg), .int (xs ((x3 + (2 : Int32))).toNatClampNeg)] [.int r1] dL_law_797 cl_L_96 (sh_60 t) ⟨Nat.le_of_ble_eq_true rfl, Nat.le_of_ble_eq_true rfl⟩ rfl (Nat.le_of_ble_eq_true rfl) (nd_shne t) (nd_rel_kc hrel) (Nat.le_trans (Nat.le_add_right _ _) hks) (nd_rel_len hrel) (t_X11_rows F t (nd_rel_len hrel) _ _ _ hc6) ?_
  refine nd_icmp_eqN dL_law_800 1299 (by decide) h (fun h => ?_) (fun h => ?_)
  · have hg9 := nd_no_e h
    have h := hg9.2
    have hg9 := Classical.not_not.mp hg9.1
    refine nd_iinc (v := (x3 + (6 : Int32))) (ls' := [(3, .int (x3 + (6 : Int32))), (0, .ref nd_scr), (1, .ref 0), (2, .ref 60)]) dL_law_1299 3 rfl (congrArg (HAdd.hAdd _) ic_6) (Nat.le_of_ble_eq_true rfl) rfl ?_
    refine nd_goto dL_law_1302 18 (by decide) ?_
    refine nd_sub [1, 2, 3, 0] rfl ?_
    exact hrec18 _ _ t ks (nd_rel_of hrel hg9) hks h
  · refine nd_iconst dL_law_803 ic_0 ?_
    cases h
set_option maxRecDepth 100000 in
set_option maxHeartbeats 4000000 in
theorem b_law_805 (F Ln : Nat) (xs : Nat → Int32) (rec18 : Int32 → nd_Mem → nd_Res) {z : Int32 × nd_Mem} (hrec18 : ∀ (x3 : Int32) (σ : nd_Mem) (t : List nd_S) (ks : Nat), nd_rel t σ → ks + (if t = [] then 1344 else 0) ≤ 7302250 → rec18 x3 σ = some z → nd_V (M_law Ln xs) room_1 nd_PL (100 + t.length) ks 18 [(0, .ref nd_scr), (1, .ref 0), (2, .ref 60), (3, .int x3)] [] (nd_SH ++ t) σ) (t : List nd_S) (ks : Nat) (x3 : Int32) (σ : nd_Mem) (hrel : nd_rel t σ) (hks : ks + (if t = [] then 1344 else 0) ≤ 7302250) (h : f_law_805 F Ln xs rec18 x3 σ = some z) : nd_V (M_law Ln xs) room_1 nd_PL (100 + t.length) ks 805 [(0, .ref nd_scr), (1, .ref 0), (2, .ref 60), (3, .int x3)] [] (nd_SH ++ t) σ := by
  unfold f_law_805 at h
  refine nd_aload_n dL_law_805 1 rfl ?_
  refine nd_aload_n dL_law_806 0 rfl ?_
  refine nd_iload_n dL_law_807 3 rfl ?_
  refine nd_iconst dL_law_808 ic_1 ?_
  refine nd_iadd dL_law_809 ?_
  refine nd_sloadN dL_law_810 rfl h (fun h => ?_)
  obtain ⟨r1, σ2, hc3, h⟩ := nd_bind_e h
  refine nd_cviG [.int (xs ((x3 + (1 : Int32))).toNatClampNeg)] [] dL_law_811 cl_L_97 (sh_0 t) ⟨Nat.le_of_ble_eq_true rfl, Nat.le_of_ble_eq_true rfl⟩ rfl (Nat.le_of_ble_eq_true rfl) (nd_shne t) (nd_rel_kc hrel) (Nat.le_trans (Nat.le_add_right _ _) hks) (nd_rel_len hrel) (t_X10_dowry F t (nd_rel_len hrel) _ _ hc3) ?_
  refine nd_aload_n dL_law_814 2 rfl ?_
  refine nd_aload_n dL_law_815 0 rfl ?_
  refine nd_iload_n dL_law_816 3 rfl ?_
  refine nd_iconst dL_law_817 ic_1 ?_
  refine nd_iadd dL_law_818 ?_
  refine nd_sloadN dL_law_819 rfl h (fun h => ?_)
  obtain ⟨r4, σ5, hc6, h⟩ := nd_bind_e h
  refine nd_cviG [.int (xs ((x3 + (1 : Int32))).toNatClampNeg)] [.int r1] dL_law_820 cl_L_100 (sh_60 t) ⟨Nat.le_of_ble_eq_true rfl, Nat.le_of_ble_eq_true rfl⟩ rfl (Nat.le_of_ble_eq_true rfl) (nd_shne t) (nd_rel_kc hrel) (Nat.le_trans (Nat.le_add_right _ _) hks) (nd_rel_len hrel) (t_X11_dowry F t (nd_rel_len hrel) _ _ hc6) ?_
  refine nd_icmp_eqN dL_law_823 1299 (by decide) h (fun h => ?_) (fun h => ?_)
  · have hg9 := nd_no_e h
    have h := hg9.2
    have hg9 := Classical.not_not.mp hg9.1
    refine nd_iinc (v := (x3 + (6 : Int32))) (ls' := [(3, .int (x3 + (6 : Int32))), (0, .ref nd_scr), (1, .ref 0), (2, .ref 60)]) dL_law_1299 3 rfl (congrArg (HAdd.hAdd _) ic_6) (Nat.le_of_ble_eq_true rfl) rfl ?_
    refine nd_goto dL_law_1302 18 (by decide) ?_
    refine nd_sub [1, 2, 3, 0] rfl ?_
    exact hrec18 _ _ t ks (nd_rel_of hrel hg9) hks h
  · refine nd_iconst dL_law_826 ic_0 ?_
    cases h
set_option maxRecDepth 100000 in
set_option maxHeartbeats 4000000 in
theorem b_law_828 (F Ln : Nat) (xs : Nat → Int32) (rec18 : Int32 → nd_Mem → nd_Res) {z : Int32 × nd_Mem} (hrec18 : ∀ (x3 : Int32) (σ : nd_Mem) (t : List nd_S) (ks : Nat), nd_rel t σ → ks + (if t = [] then 1344 else 0) ≤ 7302250 → rec18 x3 σ = some z → nd_V (M_law Ln xs) room_1 nd_PL (100 + t.length) ks 18 [(0, .ref nd_scr), (1, .ref 0), (2, .ref 60), (3, .int x3)] [] (nd_SH ++ t) σ) (t : List nd_S) (ks : Nat) (x3 : Int32) (σ : nd_Mem) (hrel : nd_rel t σ) (hks : ks + (if t = [] then 1344 else 0) ≤ 7302250) (h : f_law_828 F Ln xs rec18 x3 σ = some z) : nd_V (M_law Ln xs) room_1 nd_PL (100 + t.length) ks 828 [(0, .ref nd_scr), (1, .ref 0), (2, .ref 60), (3, .int x3)] [] (nd_SH ++ t) σ := by
  unfold f_law_828 at h
  refine nd_aload_n dL_law_828 1 rfl ?_
  refine nd_aload_n dL_law_829 0 rfl ?_
  refine nd_iload_n dL_law_830 3 rfl ?_
  refine nd_iconst dL_law_831 ic_1 ?_
  refine nd_iadd dL_law_832 ?_
  refine nd_sloadN dL_law_833 rfl h (fun h => ?_)
  obtain ⟨r1, σ2, hc3, h⟩ := nd_bind_e h
  refine nd_cviG [.int (xs ((x3 + (1 : Int32))).toNatClampNeg)] [] dL_law_834 cl_L_101 (sh_0 t) ⟨Nat.le_of_ble_eq_true rfl, Nat.le_of_ble_eq_true rfl⟩ rfl (Nat.le_of_ble_eq_true rfl) (nd_shne t) (nd_rel_kc hrel) (Nat.le_trans (Nat.le_add_right _ _) hks) (nd_rel_len hrel) (t_X10_pushed F t (nd_rel_len hrel) _ _ hc3) ?_
  refine nd_aload_n dL_law_837 2 rfl ?_
  refine nd_aload_n dL_law_838 0 rfl ?_
  refine nd_iload_n dL_law_839 3 rfl ?_
  refine nd_iconst dL_law_840 ic_1 ?_
  refine nd_iadd dL_law_841 ?_
  refine nd_sloadN dL_law_842 rfl h (fun h => ?_)
  obtain ⟨r4, σ5, hc6, h⟩ := nd_bind_e h
  refine nd_cviG [.int (xs ((x3 + (1 : Int32))).toNatClampNeg)] [.int r1] dL_law_843 cl_L_104 (sh_60 t) ⟨Nat.le_of_ble_eq_true rfl, Nat.le_of_ble_eq_true rfl⟩ rfl (Nat.le_of_ble_eq_true rfl) (nd_shne t) (nd_rel_kc hrel) (Nat.le_trans (Nat.le_add_right _ _) hks) (nd_rel_len hrel) (t_X11_pushed F t (nd_rel_len hrel) _ _ hc6) ?_
  refine nd_icmp_eqN dL_law_846 1299 (by decide) h (fun h => ?_) (fun h => ?_)
  · have hg9 := nd_no_e h
    have h := hg9.2
    have hg9 := Classical.not_not.mp hg9.1
    refine nd_iinc (v := (x3 + (6 : Int32))) (ls' := [(3, .int (x3 + (6 : Int32))), (0, .ref nd_scr), (1, .ref 0), (2, .ref 60)]) dL_law_1299 3 rfl (congrArg (HAdd.hAdd _) ic_6) (Nat.le_of_ble_eq_true rfl) rfl ?_
    refine nd_goto dL_law_1302 18 (by decide) ?_
    refine nd_sub [1, 2, 3, 0] rfl ?_
    exact hrec18 _ _ t ks (nd_rel_of hrel hg9) hks h
  · refine nd_iconst dL_law_849 ic_0 ?_
    cases h
set_option maxRecDepth 100000 in
set_option maxHeartbeats 4000000 in
theorem b_law_851 (F Ln : Nat) (xs : Nat → Int32) (rec18 : Int32 → nd_Mem → nd_Res) {z : Int32 × nd_Mem} (hrec18 : ∀ (x3 : Int32) (σ : nd_Mem) (t : List nd_S) (ks : Nat), nd_rel t σ → ks + (if t = [] then 1344 else 0) ≤ 7302250 → rec18 x3 σ = some z → nd_V (M_law Ln xs) room_1 nd_PL (100 + t.length) ks 18 [(0, .ref nd_scr), (1, .ref 0), (2, .ref 60), (3, .int x3)] [] (nd_SH ++ t) σ) (t : List nd_S) (ks : Nat) (x3 : Int32) (σ : nd_Mem) (hrel : nd_rel t σ) (hks : ks + (if t = [] then 1344 else 0) ≤ 7302250) (h : f_law_851 F Ln xs rec18 x3 σ = some z) : nd_V (M_law Ln xs) room_1 nd_PL (100 + t.length) ks 851 [(0, .ref nd_scr), (1, .ref 0), (2, .ref 60), (3, .int x3)] [] (nd_SH ++ t) σ := by
  unfold f_law_851 at h
  refine nd_aload_n dL_law_851 1 rfl ?_
  refine nd_aload_n dL_law_852 0 rfl ?_
  refine nd_iload_n dL_law_853 3 rfl ?_
  refine nd_iconst dL_law_854 ic_1 ?_
  refine nd_iadd dL_law_855 ?_
  refine nd_sloadN dL_law_856 rfl h (fun h => ?_)
  obtain ⟨r1, σ2, hc3, h⟩ := nd_bind_e h
  refine nd_cviG [.int (xs ((x3 + (1 : Int32))).toNatClampNeg)] [] dL_law_857 cl_L_105 (sh_0 t) ⟨Nat.le_of_ble_eq_true rfl, Nat.le_of_ble_eq_true rfl⟩ rfl (Nat.le_of_ble_eq_true rfl) (nd_shne t) (nd_rel_kc hrel) (Nat.le_trans (Nat.le_add_right _ _) hks) (nd_rel_len hrel) (t_X10_feuds F t (nd_rel_len hrel) _ _ hc3) ?_
  refine nd_aload_n dL_law_860 2 rfl ?_
  refine nd_aload_n dL_law_861 0 rfl ?_
  refine nd_iload_n dL_law_862 3 rfl ?_
  refine nd_iconst dL_law_863 ic_1 ?_
  refine nd_iadd dL_law_864 ?_
  refine nd_sloadN dL_law_865 rfl h (fun h => ?_)
  obtain ⟨r4, σ5, hc6, h⟩ := nd_bind_e h
  refine nd_cviG [.int (xs ((x3 + (1 : Int32))).toNatClampNeg)] [.int r1] dL_law_866 cl_L_108 (sh_60 t) ⟨Nat.le_of_ble_eq_true rfl, Nat.le_of_ble_eq_true rfl⟩ rfl (Nat.le_of_ble_eq_true rfl) (nd_shne t) (nd_rel_kc hrel) (Nat.le_trans (Nat.le_add_right _ _) hks) (nd_rel_len hrel) (t_X11_feuds F t (nd_rel_len hrel) _ _ hc6) ?_
  refine nd_icmp_eqN dL_law_869 1299 (by decide) h (fun h => ?_) (fun h => ?_)
  · have hg9 := nd_no_e h
    have h := hg9.2
    have hg9 := Classical.not_not.mp hg9.1
    refine nd_iinc (v := (x3 + (6 : Int32))) (ls' := [(3, .int (x3 + (6 : Int32))), (0, .ref nd_scr), (1, .ref 0), (2, .ref 60)]) dL_law_1299 3 rfl (congrArg (HAdd.hAdd _) ic_6) (Nat.le_of_ble_eq_true rfl) rfl ?_
    refine nd_goto dL_law_1302 18 (by decide) ?_
    refine nd_sub [1, 2, 3, 0] rfl ?_
    exact hrec18 _ _ t ks (nd_rel_of hrel hg9) hks h
  · refine nd_iconst dL_law_872 ic_0 ?_
    cases h
set_option maxRecDepth 100000 in
set_option maxHeartbeats 4000000 in
theorem b_law_874 (F Ln : Nat) (xs : Nat → Int32) (rec18 : Int32 → nd_Mem → nd_Res) {z : Int32 × nd_Mem} (hrec18 : ∀ (x3 : Int32) (σ : nd_Mem) (t : List nd_S) (ks : Nat), nd_rel t σ → ks + (if t = [] then 1344 else 0) ≤ 7302250 → rec18 x3 σ = some z → nd_V (M_law Ln xs) room_1 nd_PL (100 + t.length) ks 18 [(0, .ref nd_scr), (1, .ref 0), (2, .ref 60), (3, .int x3)] [] (nd_SH ++ t) σ) (t : List nd_S) (ks : Nat) (x3 : Int32) (σ : nd_Mem) (hrel : nd_rel t σ) (hks : ks + (if t = [] then 1344 else 0) ≤ 7302250) (h : f_law_874 F Ln xs rec18 x3 σ = some z) : nd_V (M_law Ln xs) room_1 nd_PL (100 + t.length) ks 874 [(0, .ref nd_scr), (1, .ref 0), (2, .ref 60), (3, .int x3)] [] (nd_SH ++ t) σ := by
  unfold f_law_874 at h
  refine nd_aload_n dL_law_874 1 rfl ?_
  refine nd_aload_n dL_law_875 0 rfl ?_
  refine nd_iload_n dL_law_876 3 rfl ?_
  refine nd_iconst dL_law_877 ic_1 ?_
  refine nd_iadd dL_law_878 ?_
  refine nd_sloadN dL_law_879 rfl h (fun h => ?_)
  refine nd_aload_n dL_law_880 0 rfl ?_
  refine nd_iload_n dL_law_881 3 rfl ?_
  refine nd_iconst dL_law_882 ic_2 ?_
  refine nd_iadd dL_law_883 ?_
  refine nd_sloadN dL_law_884 rfl h (fun h => ?_)
  obtain ⟨r1, σ2, hc3, h⟩ := nd_bind_e h
  refine nd_cviG [.int (xs ((x3 + (1 : Int32))).toNatClampNeg), .int (xs ((x3 + (2 : Int32))).toNatClampNeg)] [] dL_law_885 cl_L_109 (sh_0 t) ⟨Nat.le_of_ble_eq_true rfl, Nat.le_of_ble_eq_true rfl⟩ rfl (Nat.le_of_ble_eq_true rfl) (nd_shne t) (nd_rel_kc hrel) (Nat.le_trans (Nat.le_add_right _ _) hks) (nd_rel_len hrel) (t_X10_person F t (nd_rel_len hrel) _ _ _ hc3) ?_
  refine nd_aload_n dL_law_888 2 rfl ?_
  refine nd_aload_n dL_law_889 0 rfl ?_
  refine nd_iload_n dL_law_890 3 rfl ?_
  refine nd_iconst dL_law_891 ic_1 ?_
  refine nd_iadd dL_law_892 ?_
  refine nd_sloadN dL_law_893 rfl h (fun h => ?_)
  refine nd_aload_n dL_law_894 0 rfl ?_
  refine nd_iload_n dL_law_895 3 rfl ?_
  refine nd_iconst dL_law_896 ic_2 ?_
  refine nd_iadd dL_law_897 ?_
  refine nd_sloadN dL_law_898 rfl h (fun h => ?_)
  obtain ⟨r4, σ5, hc6, h⟩ := nd_bind_e h
  refine nd_cviG [.int (xs ((x3 + (1 : Int32))).toNatClampNeg), .int (xs ((x3 + (2 : Int32))).toNatClampNeg)] [.int r1] dL_law_899 cl_L_112 (sh_60 t) ⟨Nat.le_of_ble_eq_true rfl, Nat.le_of_ble_eq_true rfl⟩ rfl (Nat.le_of_ble_eq_true rfl) (nd_shne t) (nd_rel_kc hrel) (Nat.le_trans (Nat.le_add_right _ _) hks) (nd_rel_len hrel) (t_X11_person F t (nd_rel_len hrel) _ _ _ hc6) ?_
  refine nd_icmp_eqN dL_law_902 1299 (by decide) h (fun h => ?_) (fun h => ?_)
  · have hg9 := nd_no_e h
    have h := hg9.2
    have hg9 := Classical.not_not.mp hg9.1
    refine nd_iinc (v := (x3 + (6 : Int32))) (ls' := [(3, .int (x3 + (6 : Int32))), (0, .ref nd_scr), (1, .ref 0), (2, .ref 60)]) dL_law_1299 3 rfl (congrArg (HAdd.hAdd _) ic_6) (Nat.le_of_ble_eq_true rfl) rfl ?_
    refine nd_goto dL_law_1302 18 (by decide) ?_
    refine nd_sub [1, 2, 3, 0] rfl ?_
    exact hrec18 _ _ t ks (nd_rel_of hrel hg9) hks h
  · refine nd_iconst dL_law_905 ic_0 ?_
    cases h
set_option maxRecDepth 100000 in
set_option maxHeartbeats 4000000 in
theorem b_law_907 (F Ln : Nat) (xs : Nat → Int32) (rec18 : Int32 → nd_Mem → nd_Res) {z : Int32 × nd_Mem} (hrec18 : ∀ (x3 : Int32) (σ : nd_Mem) (t : List nd_S) (ks : Nat), nd_rel t σ → ks + (if t = [] then 1344 else 0) ≤ 7302250 → rec18 x3 σ = some z → nd_V (M_law Ln xs) room_1 nd_PL (100 + t.length) ks 18 [(0, .ref nd_scr), (1, .ref 0), (2, .ref 60), (3, .int x3)] [] (nd_SH ++ t) σ) (t : List nd_S) (ks : Nat) (x3 : Int32) (σ : nd_Mem) (hrel : nd_rel t σ) (hks : ks + (if t = [] then 1344 else 0) ≤ 7302250) (h : f_law_907 F Ln xs rec18 x3 σ = some z) : nd_V (M_law Ln xs) room_1 nd_PL (100 + t.length) ks 907 [(0, .ref nd_scr), (1, .ref 0), (2, .ref 60), (3, .int x3)] [] (nd_SH ++ t) σ := by
  unfold f_law_907 at h
  refine nd_aload_n dL_law_907 1 rfl ?_
  refine nd_aload_n dL_law_908 0 rfl ?_
  refine nd_iload_n dL_law_909 3 rfl ?_
  refine nd_iconst dL_law_910 ic_1 ?_
  refine nd_iadd dL_law_911 ?_
  refine nd_sloadN dL_law_912 rfl h (fun h => ?_)
  refine nd_aload_n dL_law_913 0 rfl ?_
  refine nd_iload_n dL_law_914 3 rfl ?_
  refine nd_iconst dL_law_915 ic_2 ?_
  refine nd_iadd dL_law_916 ?_
  refine nd_sloadN dL_law_917 rfl h (fun h => ?_)
  refine nd_aload_n dL_law_918 0 rfl ?_
  refine nd_iload_n dL_law_919 3 rfl ?_
  refine nd_iconst dL_law_920 ic_3 ?_
  refine nd_iadd dL_law_921 ?_
  refine nd_sloadN dL_law_922 rfl h (fun h => ?_)
  obtain ⟨r1, σ2, hc3, h⟩ := nd_bind_e h
  refine nd_cviG [.int (xs ((x3 + (1 : Int32))).toNatClampNeg), .int (xs ((x3 + (2 : Int32))).toNatClampNeg), .int (xs ((x3 + (3 : Int32))).toNatClampNeg)] [] dL_law_923 cl_L_113 (sh_0 t) ⟨Nat.le_of_ble_eq_true rfl, Nat.le_of_ble_eq_true rfl⟩ rfl (Nat.le_of_ble_eq_true rfl) (nd_shne t) (nd_rel_kc hrel) (Nat.le_trans (Nat.le_add_right _ _) hks) (nd_rel_len hrel) (t_X10_akin F t (nd_rel_len hrel) _ _ _ _ hc3) ?_
  refine nd_aload_n dL_law_926 2 rfl ?_
  refine nd_aload_n dL_law_927 0 rfl ?_
  refine nd_iload_n dL_law_928 3 rfl ?_
  refine nd_iconst dL_law_929 ic_1 ?_
  refine nd_iadd dL_law_930 ?_
  refine nd_sloadN dL_law_931 rfl h (fun h => ?_)
  refine nd_aload_n dL_law_932 0 rfl ?_
  refine nd_iload_n dL_law_933 3 rfl ?_
  refine nd_iconst dL_law_934 ic_2 ?_
  refine nd_iadd dL_law_935 ?_
  refine nd_sloadN dL_law_936 rfl h (fun h => ?_)
  refine nd_aload_n dL_law_937 0 rfl ?_
  refine nd_iload_n dL_law_938 3 rfl ?_
  refine nd_iconst dL_law_939 ic_3 ?_
  refine nd_iadd dL_law_940 ?_
  refine nd_sloadN dL_law_941 rfl h (fun h => ?_)
  obtain ⟨r4, σ5, hc6, h⟩ := nd_bind_e h
  refine nd_cviG [.int (xs ((x3 + (1 : Int32))).toNatClampNeg), .int (xs ((x3 + (2 : Int32))).toNatClampNeg), .int (xs ((x3 + (3 : Int32))).toNatClampNeg)] [.int r1] dL_law_942 cl_L_116 (sh_60 t) ⟨Nat.le_of_ble_eq_true rfl, Nat.le_of_ble_eq_true rfl⟩ rfl (Nat.le_of_ble_eq_true rfl) (nd_shne t) (nd_rel_kc hrel) (Nat.le_trans (Nat.le_add_right _ _) hks) (nd_rel_len hrel) (t_X11_akin F t (nd_rel_len hrel) _ _ _ _ hc6) ?_
  refine nd_icmp_eqN dL_law_945 1299 (by decide) h (fun h => ?_) (fun h => ?_)
  · have hg9 := nd_no_e h
    have h := hg9.2
    have hg9 := Classical.not_not.mp hg9.1
    refine nd_iinc (v := (x3 + (6 : Int32))) (ls' := [(3, .int (x3 + (6 : Int32))), (0, .ref nd_scr), (1, .ref 0), (2, .ref 60)]) dL_law_1299 3 rfl (congrArg (HAdd.hAdd _) ic_6) (Nat.le_of_ble_eq_true rfl) rfl ?_
    refine nd_goto dL_law_1302 18 (by decide) ?_
    refine nd_sub [1, 2, 3, 0] rfl ?_
    exact hrec18 _ _ t ks (nd_rel_of hrel hg9) hks h
  · refine nd_iconst dL_law_948 ic_0 ?_
    cases h
set_option maxRecDepth 100000 in
set_option maxHeartbeats 4000000 in
theorem b_law_950 (F Ln : Nat) (xs : Nat → Int32) (rec18 : Int32 → nd_Mem → nd_Res) {z : Int32 × nd_Mem} (hrec18 : ∀ (x3 : Int32) (σ : nd_Mem) (t : List nd_S) (ks : Nat), nd_rel t σ → ks + (if t = [] then 1344 else 0) ≤ 7302250 → rec18 x3 σ = some z → nd_V (M_law Ln xs) room_1 nd_PL (100 + t.length) ks 18 [(0, .ref nd_scr), (1, .ref 0), (2, .ref 60), (3, .int x3)] [] (nd_SH ++ t) σ) (t : List nd_S) (ks : Nat) (x3 : Int32) (σ : nd_Mem) (hrel : nd_rel t σ) (hks : ks + (if t = [] then 1344 else 0) ≤ 7302250) (h : f_law_950 F Ln xs rec18 x3 σ = some z) : nd_V (M_law Ln xs) room_1 nd_PL (100 + t.length) ks 950 [(0, .ref nd_scr), (1, .ref 0), (2, .ref 60), (3, .int x3)] [] (nd_SH ++ t) σ := by
  unfold f_law_950 at h
  refine nd_aload_n dL_law_950 1 rfl ?_
  refine nd_aload_n dL_law_951 0 rfl ?_
  refine nd_iload_n dL_law_952 3 rfl ?_
  refine nd_iconst dL_law_953 ic_1 ?_
  refine nd_iadd dL_law_954 ?_
  refine nd_sloadN dL_law_955 rfl h (fun h => ?_)
  refine nd_aload_n dL_law_956 0 rfl ?_
  refine nd_iload_n dL_law_957 3 rfl ?_
  refine nd_iconst dL_law_958 ic_2 ?_
  refine nd_iadd dL_law_959 ?_
  refine nd_sloadN dL_law_960 rfl h (fun h => ?_)
  refine nd_aload_n dL_law_961 0 rfl ?_
  refine nd_iload_n dL_law_962 3 rfl ?_
  refine nd_iconst dL_law_963 ic_3 ?_
  refine nd_iadd dL_law_964 ?_
  refine nd_sloadN dL_law_965 rfl h (fun h => ?_)
  refine nd_aload_n dL_law_966 0 rfl ?_
  refine nd_iload_n dL_law_967 3 rfl ?_
  refine nd_iconst dL_law_968 ic_4 ?_
  refine nd_iadd dL_law_969 ?_
  refine nd_sloadN dL_law_970 rfl h (fun h => ?_)
  obtain ⟨r1, σ2, hc3, h⟩ := nd_bind_e h
  refine nd_cviG [.int (xs ((x3 + (1 : Int32))).toNatClampNeg), .int (xs ((x3 + (2 : Int32))).toNatClampNeg), .int (xs ((x3 + (3 : Int32))).toNatClampNeg), .int (xs ((x3 + (4 : Int32))).toNatClampNeg)] [] dL_law_971 cl_L_117 (sh_0 t) ⟨Nat.le_of_ble_eq_true rfl, Nat.le_of_ble_eq_true rfl⟩ rfl (Nat.le_of_ble_eq_true rfl) (nd_shne t) (nd_rel_kc hrel) (Nat.le_trans (Nat.le_add_right _ _) hks) (nd_rel_len hrel) (t_X10_home F t (nd_rel_len hrel) _ _ _ _ _ hc3) ?_
  refine nd_aload_n dL_law_974 2 rfl ?_
  refine nd_aload_n dL_law_975 0 rfl ?_
  refine nd_iload_n dL_law_976 3 rfl ?_
  refine nd_iconst dL_law_977 ic_1 ?_
  refine nd_iadd dL_law_978 ?_
  refine nd_sloadN dL_law_979 rfl h (fun h => ?_)
  refine nd_aload_n dL_law_980 0 rfl ?_
  refine nd_iload_n dL_law_981 3 rfl ?_
  refine nd_iconst dL_law_982 ic_2 ?_
  refine nd_iadd dL_law_983 ?_
  refine nd_sloadN dL_law_984 rfl h (fun h => ?_)
  refine nd_aload_n dL_law_985 0 rfl ?_
  refine nd_iload_n dL_law_986 3 rfl ?_
  refine nd_iconst dL_law_987 ic_3 ?_
  refine nd_iadd dL_law_988 ?_
  refine nd_sloadN dL_law_989 rfl h (fun h => ?_)
  refine nd_aload_n dL_law_990 0 rfl ?_
  refine nd_iload_n dL_law_991 3 rfl ?_
  refine nd_iconst dL_law_992 ic_4 ?_
  refine nd_iadd dL_law_993 ?_
  refine nd_sloadN dL_law_994 rfl h (fun h => ?_)
  obtain ⟨r4, σ5, hc6, h⟩ := nd_bind_e h
  refine nd_cviG [.int (xs ((x3 + (1 : Int32))).toNatClampNeg), .int (xs ((x3 + (2 : Int32))).toNatClampNeg), .int (xs ((x3 + (3 : Int32))).toNatClampNeg), .int (xs ((x3 + (4 : Int32))).toNatClampNeg)] [.int r1] dL_law_995 cl_L_120 (sh_60 t) ⟨Nat.le_of_ble_eq_true rfl, Nat.le_of_ble_eq_true rfl⟩ rfl (Nat.le_of_ble_eq_true rfl) (nd_shne t) (nd_rel_kc hrel) (Nat.le_trans (Nat.le_add_right _ _) hks) (nd_rel_len hrel) (t_X11_home F t (nd_rel_len hrel) _ _ _ _ _ hc6) ?_
  refine nd_icmp_eqN dL_law_998 1299 (by decide) h (fun h => ?_) (fun h => ?_)
  · have hg9 := nd_no_e h
    have h := hg9.2
    have hg9 := Classical.not_not.mp hg9.1
    refine nd_iinc (v := (x3 + (6 : Int32))) (ls' := [(3, .int (x3 + (6 : Int32))), (0, .ref nd_scr), (1, .ref 0), (2, .ref 60)]) dL_law_1299 3 rfl (congrArg (HAdd.hAdd _) ic_6) (Nat.le_of_ble_eq_true rfl) rfl ?_
    refine nd_goto dL_law_1302 18 (by decide) ?_
    refine nd_sub [1, 2, 3, 0] rfl ?_
    exact hrec18 _ _ t ks (nd_rel_of hrel hg9) hks h
  · refine nd_iconst dL_law_1001 ic_0 ?_
    cases h
set_option maxRecDepth 100000 in
set_option maxHeartbeats 4000000 in
theorem b_law_1003 (F Ln : Nat) (xs : Nat → Int32) (rec18 : Int32 → nd_Mem → nd_Res) {z : Int32 × nd_Mem} (hrec18 : ∀ (x3 : Int32) (σ : nd_Mem) (t : List nd_S) (ks : Nat), nd_rel t σ → ks + (if t = [] then 1344 else 0) ≤ 7302250 → rec18 x3 σ = some z → nd_V (M_law Ln xs) room_1 nd_PL (100 + t.length) ks 18 [(0, .ref nd_scr), (1, .ref 0), (2, .ref 60), (3, .int x3)] [] (nd_SH ++ t) σ) (t : List nd_S) (ks : Nat) (x3 : Int32) (σ : nd_Mem) (hrel : nd_rel t σ) (hks : ks + (if t = [] then 1344 else 0) ≤ 7302250) (h : f_law_1003 F Ln xs rec18 x3 σ = some z) : nd_V (M_law Ln xs) room_1 nd_PL (100 + t.length) ks 1003 [(0, .ref nd_scr), (1, .ref 0), (2, .ref 60), (3, .int x3)] [] (nd_SH ++ t) σ := by
  unfold f_law_1003 at h
  refine nd_aload_n dL_law_1003 1 rfl ?_
  refine nd_aload_n dL_law_1004 0 rfl ?_
  refine nd_iload_n dL_law_1005 3 rfl ?_
  refine nd_iconst dL_law_1006 ic_1 ?_
  refine nd_iadd dL_law_1007 ?_
  refine nd_sloadN dL_law_1008 rfl h (fun h => ?_)
  refine nd_aload_n dL_law_1009 0 rfl ?_
  refine nd_iload_n dL_law_1010 3 rfl ?_
  refine nd_iconst dL_law_1011 ic_2 ?_
  refine nd_iadd dL_law_1012 ?_
  refine nd_sloadN dL_law_1013 rfl h (fun h => ?_)
  refine nd_aload_n dL_law_1014 0 rfl ?_
  refine nd_iload_n dL_law_1015 3 rfl ?_
  refine nd_iconst dL_law_1016 ic_3 ?_
  refine nd_iadd dL_law_1017 ?_
  refine nd_sloadN dL_law_1018 rfl h (fun h => ?_)
  obtain ⟨r1, σ2, hc3, h⟩ := nd_bind_e h
  refine nd_cviG [.int (xs ((x3 + (1 : Int32))).toNatClampNeg), .int (xs ((x3 + (2 : Int32))).toNatClampNeg), .int (xs ((x3 + (3 : Int32))).toNatClampNeg)] [] dL_law_1019 cl_L_121 (sh_0 t) ⟨Nat.le_of_ble_eq_true rfl, Nat.le_of_ble_eq_true rfl⟩ rfl (Nat.le_of_ble_eq_true rfl) (nd_shne t) (nd_rel_kc hrel) (Nat.le_trans (Nat.le_add_right _ _) hks) (nd_rel_len hrel) (t_X10_streets F t (nd_rel_len hrel) _ _ _ _ hc3) ?_
  refine nd_aload_n dL_law_1022 2 rfl ?_
  refine nd_aload_n dL_law_1023 0 rfl ?_
  refine nd_iload_n dL_law_1024 3 rfl ?_
  refine nd_iconst dL_law_1025 ic_1 ?_
  refine nd_iadd dL_law_1026 ?_
  refine nd_sloadN dL_law_1027 rfl h (fun h => ?_)
  refine nd_aload_n dL_law_1028 0 rfl ?_
  refine nd_iload_n dL_law_1029 3 rfl ?_
  refine nd_iconst dL_law_1030 ic_2 ?_
  refine nd_iadd dL_law_1031 ?_
  refine nd_sloadN dL_law_1032 rfl h (fun h => ?_)
  refine nd_aload_n dL_law_1033 0 rfl ?_
  refine nd_iload_n dL_law_1034 3 rfl ?_
  refine nd_iconst dL_law_1035 ic_3 ?_
  refine nd_iadd dL_law_1036 ?_
  refine nd_sloadN dL_law_1037 rfl h (fun h => ?_)
  obtain ⟨r4, σ5, hc6, h⟩ := nd_bind_e h
  refine nd_cviG [.int (xs ((x3 + (1 : Int32))).toNatClampNeg), .int (xs ((x3 + (2 : Int32))).toNatClampNeg), .int (xs ((x3 + (3 : Int32))).toNatClampNeg)] [.int r1] dL_law_1038 cl_L_124 (sh_60 t) ⟨Nat.le_of_ble_eq_true rfl, Nat.le_of_ble_eq_true rfl⟩ rfl (Nat.le_of_ble_eq_true rfl) (nd_shne t) (nd_rel_kc hrel) (Nat.le_trans (Nat.le_add_right _ _) hks) (nd_rel_len hrel) (t_X11_streets F t (nd_rel_len hrel) _ _ _ _ hc6) ?_
  refine nd_icmp_eqN dL_law_1041 1299 (by decide) h (fun h => ?_) (fun h => ?_)
  · have hg9 := nd_no_e h
    have h := hg9.2
    have hg9 := Classical.not_not.mp hg9.1
    refine nd_iinc (v := (x3 + (6 : Int32))) (ls' := [(3, .int (x3 + (6 : Int32))), (0, .ref nd_scr), (1, .ref 0), (2, .ref 60)]) dL_law_1299 3 rfl (congrArg (HAdd.hAdd _) ic_6) (Nat.le_of_ble_eq_true rfl) rfl ?_
    refine nd_goto dL_law_1302 18 (by decide) ?_
    refine nd_sub [1, 2, 3, 0] rfl ?_
    exact hrec18 _ _ t ks (nd_rel_of hrel hg9) hks h
  · refine nd_iconst dL_law_1044 ic_0 ?_
    cases h
set_option maxRecDepth 100000 in
set_option maxHeartbeats 4000000 in
theorem b_law_1046 (F Ln : Nat) (xs : Nat → Int32) (rec18 : Int32 → nd_Mem → nd_Res) {z : Int32 × nd_Mem} (hrec18 : ∀ (x3 : Int32) (σ : nd_Mem) (t : List nd_S) (ks : Nat), nd_rel t σ → ks + (if t = [] then 1344 else 0) ≤ 7302250 → rec18 x3 σ = some z → nd_V (M_law Ln xs) room_1 nd_PL (100 + t.length) ks 18 [(0, .ref nd_scr), (1, .ref 0), (2, .ref 60), (3, .int x3)] [] (nd_SH ++ t) σ) (t : List nd_S) (ks : Nat) (x3 : Int32) (σ : nd_Mem) (hrel : nd_rel t σ) (hks : ks + (if t = [] then 1344 else 0) ≤ 7302250) (h : f_law_1046 F Ln xs rec18 x3 σ = some z) : nd_V (M_law Ln xs) room_1 nd_PL (100 + t.length) ks 1046 [(0, .ref nd_scr), (1, .ref 0), (2, .ref 60), (3, .int x3)] [] (nd_SH ++ t) σ := by
  unfold f_law_1046 at h
  refine nd_aload_n dL_law_1046 1 rfl ?_
  refine nd_aload_n dL_law_1047 0 rfl ?_
  refine nd_iload_n dL_law_1048 3 rfl ?_
  refine nd_iconst dL_law_1049 ic_1 ?_
  refine nd_iadd dL_law_1050 ?_
  refine nd_sloadN dL_law_1051 rfl h (fun h => ?_)
  refine nd_aload_n dL_law_1052 0 rfl ?_
  refine nd_iload_n dL_law_1053 3 rfl ?_
  refine nd_iconst dL_law_1054 ic_2 ?_
  refine nd_iadd dL_law_1055 ?_
  refine nd_sloadN dL_law_1056 rfl h (fun h => ?_)
  obtain ⟨r1, σ2, hc3, h⟩ := nd_bind_e h
  refine nd_cviG [.int (xs ((x3 + (1 : Int32))).toNatClampNeg), .int (xs ((x3 + (2 : Int32))).toNatClampNeg)] [] dL_law_1057 cl_L_125 (sh_0 t) ⟨Nat.le_of_ble_eq_true rfl, Nat.le_of_ble_eq_true rfl⟩ rfl (Nat.le_of_ble_eq_true rfl) (nd_shne t) (nd_rel_kc hrel) (Nat.le_trans (Nat.le_add_right _ _) hks) (nd_rel_len hrel) (t_X10_moved F t (nd_rel_len hrel) _ _ _ hc3) ?_
  refine nd_aload_n dL_law_1060 2 rfl ?_
  refine nd_aload_n dL_law_1061 0 rfl ?_
  refine nd_iload_n dL_law_1062 3 rfl ?_
  refine nd_iconst dL_law_1063 ic_1 ?_
  refine nd_iadd dL_law_1064 ?_
  refine nd_sloadN dL_law_1065 rfl h (fun h => ?_)
  refine nd_aload_n dL_law_1066 0 rfl ?_
  refine nd_iload_n dL_law_1067 3 rfl ?_
  refine nd_iconst dL_law_1068 ic_2 ?_
  refine nd_iadd dL_law_1069 ?_
  refine nd_sloadN dL_law_1070 rfl h (fun h => ?_)
  obtain ⟨r4, σ5, hc6, h⟩ := nd_bind_e h
  refine nd_cviG [.int (xs ((x3 + (1 : Int32))).toNatClampNeg), .int (xs ((x3 + (2 : Int32))).toNatClampNeg)] [.int r1] dL_law_1071 cl_L_128 (sh_60 t) ⟨Nat.le_of_ble_eq_true rfl, Nat.le_of_ble_eq_true rfl⟩ rfl (Nat.le_of_ble_eq_true rfl) (nd_shne t) (nd_rel_kc hrel) (Nat.le_trans (Nat.le_add_right _ _) hks) (nd_rel_len hrel) (t_X11_moved F t (nd_rel_len hrel) _ _ _ hc6) ?_
  refine nd_icmp_eqN dL_law_1074 1299 (by decide) h (fun h => ?_) (fun h => ?_)
  · have hg9 := nd_no_e h
    have h := hg9.2
    have hg9 := Classical.not_not.mp hg9.1
    refine nd_iinc (v := (x3 + (6 : Int32))) (ls' := [(3, .int (x3 + (6 : Int32))), (0, .ref nd_scr), (1, .ref 0), (2, .ref 60)]) dL_law_1299 3 rfl (congrArg (HAdd.hAdd _) ic_6) (Nat.le_of_ble_eq_true rfl) rfl ?_
    refine nd_goto dL_law_1302 18 (by decide) ?_
    refine nd_sub [1, 2, 3, 0] rfl ?_
    exact hrec18 _ _ t ks (nd_rel_of hrel hg9) hks h
  · refine nd_iconst dL_law_1077 ic_0 ?_
    cases h
set_option maxRecDepth 100000 in
set_option maxHeartbeats 4000000 in
theorem b_law_1079 (F Ln : Nat) (xs : Nat → Int32) (rec18 : Int32 → nd_Mem → nd_Res) {z : Int32 × nd_Mem} (hrec18 : ∀ (x3 : Int32) (σ : nd_Mem) (t : List nd_S) (ks : Nat), nd_rel t σ → ks + (if t = [] then 1344 else 0) ≤ 7302250 → rec18 x3 σ = some z → nd_V (M_law Ln xs) room_1 nd_PL (100 + t.length) ks 18 [(0, .ref nd_scr), (1, .ref 0), (2, .ref 60), (3, .int x3)] [] (nd_SH ++ t) σ) (t : List nd_S) (ks : Nat) (x3 : Int32) (σ : nd_Mem) (hrel : nd_rel t σ) (hks : ks + (if t = [] then 1344 else 0) ≤ 7302250) (h : f_law_1079 F Ln xs rec18 x3 σ = some z) : nd_V (M_law Ln xs) room_1 nd_PL (100 + t.length) ks 1079 [(0, .ref nd_scr), (1, .ref 0), (2, .ref 60), (3, .int x3)] [] (nd_SH ++ t) σ := by
  unfold f_law_1079 at h
  refine nd_aload_n dL_law_1079 1 rfl ?_
  obtain ⟨r1, σ2, hc3, h⟩ := nd_bind_e h
  refine nd_cviG [] [] dL_law_1080 cl_L_129 (sh_0 t) ⟨Nat.le_of_ble_eq_true rfl, Nat.le_of_ble_eq_true rfl⟩ rfl (Nat.le_of_ble_eq_true rfl) (nd_shne t) (nd_rel_kc hrel) (Nat.le_trans (Nat.le_add_right _ _) hks) (nd_rel_len hrel) (t_X10_chain F t (nd_rel_len hrel) _ hc3) ?_
  refine nd_aload_n dL_law_1083 2 rfl ?_
  obtain ⟨r4, σ5, hc6, h⟩ := nd_bind_e h
  refine nd_cviG [] [.int r1] dL_law_1084 cl_L_133 (sh_60 t) ⟨Nat.le_of_ble_eq_true rfl, Nat.le_of_ble_eq_true rfl⟩ rfl (Nat.le_of_ble_eq_true rfl) (nd_shne t) (nd_rel_kc hrel) (Nat.le_trans (Nat.le_add_right _ _) hks) (nd_rel_len hrel) (t_X11_chain F t (nd_rel_len hrel) _ hc6) ?_
  refine nd_icmp_eqN dL_law_1087 1299 (by decide) h (fun h => ?_) (fun h => ?_)
  · have hg9 := nd_no_e h
    have h := hg9.2
    have hg9 := Classical.not_not.mp hg9.1
    refine nd_iinc (v := (x3 + (6 : Int32))) (ls' := [(3, .int (x3 + (6 : Int32))), (0, .ref nd_scr), (1, .ref 0), (2, .ref 60)]) dL_law_1299 3 rfl (congrArg (HAdd.hAdd _) ic_6) (Nat.le_of_ble_eq_true rfl) rfl ?_
    refine nd_goto dL_law_1302 18 (by decide) ?_
    refine nd_sub [1, 2, 3, 0] rfl ?_
    exact hrec18 _ _ t ks (nd_rel_of hrel hg9) hks h
  · refine nd_iconst dL_law_1090 ic_0 ?_
    cases h
set_option maxRecDepth 100000 in
set_option maxHeartbeats 4000000 in
theorem b_law_1092 (F Ln : Nat) (xs : Nat → Int32) (rec18 : Int32 → nd_Mem → nd_Res) {z : Int32 × nd_Mem} (hrec18 : ∀ (x3 : Int32) (σ : nd_Mem) (t : List nd_S) (ks : Nat), nd_rel t σ → ks + (if t = [] then 1344 else 0) ≤ 7302250 → rec18 x3 σ = some z → nd_V (M_law Ln xs) room_1 nd_PL (100 + t.length) ks 18 [(0, .ref nd_scr), (1, .ref 0), (2, .ref 60), (3, .int x3)] [] (nd_SH ++ t) σ) (t : List nd_S) (ks : Nat) (x3 : Int32) (σ : nd_Mem) (hrel : nd_rel t σ) (hks : ks + (if t = [] then 1344 else 0) ≤ 7302250) (h : f_law_1092 F Ln xs rec18 x3 σ = some z) : nd_V (M_law Ln xs) room_1 nd_PL (100 + t.length) ks 1092 [(0, .ref nd_scr), (1, .ref 0), (2, .ref 60), (3, .int x3)] [] (nd_SH ++ t) σ := by
  unfold f_law_1092 at h
  refine nd_aload_n dL_law_1092 1 rfl ?_
  refine nd_aload_n dL_law_1093 0 rfl ?_
  refine nd_iload_n dL_law_1094 3 rfl ?_
  refine nd_iconst dL_law_1095 ic_1 ?_
  refine nd_iadd dL_law_1096 ?_
  refine nd_sloadN dL_law_1097 rfl h (fun h => ?_)
  refine nd_aload_n dL_law_1098 0 rfl ?_
  refine nd_iload_n dL_law_1099 3 rfl ?_
  refine nd_iconst dL_law_1100 ic_2 ?_
  refine nd_iadd dL_law_1101 ?_
  refine nd_sloadN dL_law_1102 rfl h (fun h => ?_)
  refine nd_aload_n dL_law_1103 0 rfl ?_
  refine nd_iload_n dL_law_1104 3 rfl ?_
  refine nd_iconst dL_law_1105 ic_3 ?_
  refine nd_iadd dL_law_1106 ?_
  refine nd_sloadN dL_law_1107 rfl h (fun h => ?_)
  obtain ⟨r1, σ2, hc3, h⟩ := nd_bind_e h
  refine nd_cviG [.int (xs ((x3 + (1 : Int32))).toNatClampNeg), .int (xs ((x3 + (2 : Int32))).toNatClampNeg), .int (xs ((x3 + (3 : Int32))).toNatClampNeg)] [] dL_law_1108 cl_L_134 (sh_0 t) ⟨Nat.le_of_ble_eq_true rfl, Nat.le_of_ble_eq_true rfl⟩ rfl (Nat.le_of_ble_eq_true rfl) (nd_shne t) (nd_rel_kc hrel) (Nat.le_trans (Nat.le_add_right _ _) hks) (nd_rel_len hrel) (t_X10_order F t (nd_rel_len hrel) _ _ _ _ hc3) ?_
  refine nd_aload_n dL_law_1111 2 rfl ?_
  refine nd_aload_n dL_law_1112 0 rfl ?_
  refine nd_iload_n dL_law_1113 3 rfl ?_
  refine nd_iconst dL_law_1114 ic_1 ?_
  refine nd_iadd dL_law_1115 ?_
  refine nd_sloadN dL_law_1116 rfl h (fun h => ?_)
  refine nd_aload_n dL_law_1117 0 rfl ?_
  refine nd_iload_n dL_law_1118 3 rfl ?_
  refine nd_iconst dL_law_1119 ic_2 ?_
  refine nd_iadd dL_law_1120 ?_
  refine nd_sloadN dL_law_1121 rfl h (fun h => ?_)
  refine nd_aload_n dL_law_1122 0 rfl ?_
  refine nd_iload_n dL_law_1123 3 rfl ?_
  refine nd_iconst dL_law_1124 ic_3 ?_
  refine nd_iadd dL_law_1125 ?_
  refine nd_sloadN dL_law_1126 rfl h (fun h => ?_)
  obtain ⟨r4, σ5, hc6, h⟩ := nd_bind_e h
  refine nd_cviG [.int (xs ((x3 + (1 : Int32))).toNatClampNeg), .int (xs ((x3 + (2 : Int32))).toNatClampNeg), .int (xs ((x3 + (3 : Int32))).toNatClampNeg)] [.int r1] dL_law_1127 cl_L_137 (sh_60 t) ⟨Nat.le_of_ble_eq_true rfl, Nat.le_of_ble_eq_true rfl⟩ rfl (Nat.le_of_ble_eq_true rfl) (nd_shne t) (nd_rel_kc hrel) (Nat.le_trans (Nat.le_add_right _ _) hks) (nd_rel_len hrel) (t_X11_order F t (nd_rel_len hrel) _ _ _ _ hc6) ?_
  refine nd_icmp_eqN dL_law_1130 1299 (by decide) h (fun h => ?_) (fun h => ?_)
  · have hg9 := nd_no_e h
    have h := hg9.2
    have hg9 := Classical.not_not.mp hg9.1
    refine nd_iinc (v := (x3 + (6 : Int32))) (ls' := [(3, .int (x3 + (6 : Int32))), (0, .ref nd_scr), (1, .ref 0), (2, .ref 60)]) dL_law_1299 3 rfl (congrArg (HAdd.hAdd _) ic_6) (Nat.le_of_ble_eq_true rfl) rfl ?_
    refine nd_goto dL_law_1302 18 (by decide) ?_
    refine nd_sub [1, 2, 3, 0] rfl ?_
    exact hrec18 _ _ t ks (nd_rel_of hrel hg9) hks h
  · refine nd_iconst dL_law_1133 ic_0 ?_
    cases h
set_option maxRecDepth 100000 in
set_option maxHeartbeats 4000000 in
theorem b_law_1135 (F Ln : Nat) (xs : Nat → Int32) (rec18 : Int32 → nd_Mem → nd_Res) {z : Int32 × nd_Mem} (hrec18 : ∀ (x3 : Int32) (σ : nd_Mem) (t : List nd_S) (ks : Nat), nd_rel t σ → ks + (if t = [] then 1344 else 0) ≤ 7302250 → rec18 x3 σ = some z → nd_V (M_law Ln xs) room_1 nd_PL (100 + t.length) ks 18 [(0, .ref nd_scr), (1, .ref 0), (2, .ref 60), (3, .int x3)] [] (nd_SH ++ t) σ) (t : List nd_S) (ks : Nat) (x3 : Int32) (σ : nd_Mem) (hrel : nd_rel t σ) (hks : ks + (if t = [] then 1344 else 0) ≤ 7302250) (h : f_law_1135 F Ln xs rec18 x3 σ = some z) : nd_V (M_law Ln xs) room_1 nd_PL (100 + t.length) ks 1135 [(0, .ref nd_scr), (1, .ref 0), (2, .ref 60), (3, .int x3)] [] (nd_SH ++ t) σ := by
  unfold f_law_1135 at h
  refine nd_aload_n dL_law_1135 1 rfl ?_
  refine nd_aload_n dL_law_1136 0 rfl ?_
  refine nd_iload_n dL_law_1137 3 rfl ?_
  refine nd_iconst dL_law_1138 ic_1 ?_
  refine nd_iadd dL_law_1139 ?_
  refine nd_sloadN dL_law_1140 rfl h (fun h => ?_)
  obtain ⟨r1, σ2, hc3, h⟩ := nd_bind_e h
  refine nd_cviG [.int (xs ((x3 + (1 : Int32))).toNatClampNeg)] [] dL_law_1141 cl_L_138 (sh_0 t) ⟨Nat.le_of_ble_eq_true rfl, Nat.le_of_ble_eq_true rfl⟩ rfl (Nat.le_of_ble_eq_true rfl) (nd_shne t) (nd_rel_kc hrel) (Nat.le_trans (Nat.le_add_right _ _) hks) (nd_rel_len hrel) (t_X10_height F t (nd_rel_len hrel) _ _ hc3) ?_
  refine nd_aload_n dL_law_1144 2 rfl ?_
  refine nd_aload_n dL_law_1145 0 rfl ?_
  refine nd_iload_n dL_law_1146 3 rfl ?_
  refine nd_iconst dL_law_1147 ic_1 ?_
  refine nd_iadd dL_law_1148 ?_
  refine nd_sloadN dL_law_1149 rfl h (fun h => ?_)
  obtain ⟨r4, σ5, hc6, h⟩ := nd_bind_e h
  refine nd_cviG [.int (xs ((x3 + (1 : Int32))).toNatClampNeg)] [.int r1] dL_law_1150 cl_L_141 (sh_60 t) ⟨Nat.le_of_ble_eq_true rfl, Nat.le_of_ble_eq_true rfl⟩ rfl (Nat.le_of_ble_eq_true rfl) (nd_shne t) (nd_rel_kc hrel) (Nat.le_trans (Nat.le_add_right _ _) hks) (nd_rel_len hrel) (t_X11_height F t (nd_rel_len hrel) _ _ hc6) ?_
  refine nd_icmp_eqN dL_law_1153 1299 (by decide) h (fun h => ?_) (fun h => ?_)
  · have hg9 := nd_no_e h
    have h := hg9.2
    have hg9 := Classical.not_not.mp hg9.1
    refine nd_iinc (v := (x3 + (6 : Int32))) (ls' := [(3, .int (x3 + (6 : Int32))), (0, .ref nd_scr), (1, .ref 0), (2, .ref 60)]) dL_law_1299 3 rfl (congrArg (HAdd.hAdd _) ic_6) (Nat.le_of_ble_eq_true rfl) rfl ?_
    refine nd_goto dL_law_1302 18 (by decide) ?_
    refine nd_sub [1, 2, 3, 0] rfl ?_
    exact hrec18 _ _ t ks (nd_rel_of hrel hg9) hks h
  · refine nd_iconst dL_law_1156 ic_0 ?_
    cases h
set_option maxRecDepth 100000 in
set_option maxHeartbeats 4000000 in
theorem b_law_1158 (F Ln : Nat) (xs : Nat → Int32) (rec18 : Int32 → nd_Mem → nd_Res) {z : Int32 × nd_Mem} (hrec18 : ∀ (x3 : Int32) (σ : nd_Mem) (t : List nd_S) (ks : Nat), nd_rel t σ → ks + (if t = [] then 1344 else 0) ≤ 7302250 → rec18 x3 σ = some z → nd_V (M_law Ln xs) room_1 nd_PL (100 + t.length) ks 18 [(0, .ref nd_scr), (1, .ref 0), (2, .ref 60), (3, .int x3)] [] (nd_SH ++ t) σ) (t : List nd_S) (ks : Nat) (x3 : Int32) (σ : nd_Mem) (hrel : nd_rel t σ) (hks : ks + (if t = [] then 1344 else 0) ≤ 7302250) (h : f_law_1158 F Ln xs rec18 x3 σ = some z) : nd_V (M_law Ln xs) room_1 nd_PL (100 + t.length) ks 1158 [(0, .ref nd_scr), (1, .ref 0), (2, .ref 60), (3, .int x3)] [] (nd_SH ++ t) σ := by
  unfold f_law_1158 at h
  refine nd_aload_n dL_law_1158 1 rfl ?_
  refine nd_aload_n dL_law_1159 0 rfl ?_
  refine nd_iload_n dL_law_1160 3 rfl ?_
  refine nd_iconst dL_law_1161 ic_1 ?_
  refine nd_iadd dL_law_1162 ?_
  refine nd_sloadN dL_law_1163 rfl h (fun h => ?_)
  obtain ⟨r1, σ2, hc3, h⟩ := nd_bind_e h
  refine nd_cviG [.int (xs ((x3 + (1 : Int32))).toNatClampNeg)] [] dL_law_1164 cl_L_142 (sh_0 t) ⟨Nat.le_of_ble_eq_true rfl, Nat.le_of_ble_eq_true rfl⟩ rfl (Nat.le_of_ble_eq_true rfl) (nd_shne t) (nd_rel_kc hrel) (Nat.le_trans (Nat.le_add_right _ _) hks) (nd_rel_len hrel) (t_X10_windows F t (nd_rel_len hrel) _ _ hc3) ?_
  refine nd_aload_n dL_law_1167 2 rfl ?_
  refine nd_aload_n dL_law_1168 0 rfl ?_
  refine nd_iload_n dL_law_1169 3 rfl ?_
  refine nd_iconst dL_law_1170 ic_1 ?_
  refine nd_iadd dL_law_1171 ?_
  refine nd_sloadN dL_law_1172 rfl h (fun h => ?_)
  obtain ⟨r4, σ5, hc6, h⟩ := nd_bind_e h
  refine nd_cviG [.int (xs ((x3 + (1 : Int32))).toNatClampNeg)] [.int r1] dL_law_1173 cl_L_145 (sh_60 t) ⟨Nat.le_of_ble_eq_true rfl, Nat.le_of_ble_eq_true rfl⟩ rfl (Nat.le_of_ble_eq_true rfl) (nd_shne t) (nd_rel_kc hrel) (Nat.le_trans (Nat.le_add_right _ _) hks) (nd_rel_len hrel) (t_X11_windows F t (nd_rel_len hrel) _ _ hc6) ?_
  refine nd_icmp_eqN dL_law_1176 1299 (by decide) h (fun h => ?_) (fun h => ?_)
  · have hg9 := nd_no_e h
    have h := hg9.2
    have hg9 := Classical.not_not.mp hg9.1
    refine nd_iinc (v := (x3 + (6 : Int32))) (ls' := [(3, .int (x3 + (6 : Int32))), (0, .ref nd_scr), (1, .ref 0), (2, .ref 60)]) dL_law_1299 3 rfl (congrArg (HAdd.hAdd _) ic_6) (Nat.le_of_ble_eq_true rfl) rfl ?_
    refine nd_goto dL_law_1302 18 (by decide) ?_
    refine nd_sub [1, 2, 3, 0] rfl ?_
    exact hrec18 _ _ t ks (nd_rel_of hrel hg9) hks h
  · refine nd_iconst dL_law_1179 ic_0 ?_
    cases h
set_option maxRecDepth 100000 in
set_option maxHeartbeats 4000000 in
theorem b_law_1181 (F Ln : Nat) (xs : Nat → Int32) (rec18 : Int32 → nd_Mem → nd_Res) {z : Int32 × nd_Mem} (hrec18 : ∀ (x3 : Int32) (σ : nd_Mem) (t : List nd_S) (ks : Nat), nd_rel t σ → ks + (if t = [] then 1344 else 0) ≤ 7302250 → rec18 x3 σ = some z → nd_V (M_law Ln xs) room_1 nd_PL (100 + t.length) ks 18 [(0, .ref nd_scr), (1, .ref 0), (2, .ref 60), (3, .int x3)] [] (nd_SH ++ t) σ) (t : List nd_S) (ks : Nat) (x3 : Int32) (σ : nd_Mem) (hrel : nd_rel t σ) (hks : ks + (if t = [] then 1344 else 0) ≤ 7302250) (h : f_law_1181 F Ln xs rec18 x3 σ = some z) : nd_V (M_law Ln xs) room_1 nd_PL (100 + t.length) ks 1181 [(0, .ref nd_scr), (1, .ref 0), (2, .ref 60), (3, .int x3)] [] (nd_SH ++ t) σ := by
  unfold f_law_1181 at h
  refine nd_aload_n dL_law_1181 1 rfl ?_
  refine nd_aload_n dL_law_1182 0 rfl ?_
  refine nd_iload_n dL_law_1183 3 rfl ?_
  refine nd_iconst dL_law_1184 ic_1 ?_
  refine nd_iadd dL_law_1185 ?_
  refine nd_sloadN dL_law_1186 rfl h (fun h => ?_)
  refine nd_aload_n dL_law_1187 0 rfl ?_
  refine nd_iload_n dL_law_1188 3 rfl ?_
  refine nd_iconst dL_law_1189 ic_2 ?_
  refine nd_iadd dL_law_1190 ?_
  refine nd_sloadN dL_law_1191 rfl h (fun h => ?_)
  refine nd_aload_n dL_law_1192 0 rfl ?_
  refine nd_iload_n dL_law_1193 3 rfl ?_
  refine nd_iconst dL_law_1194 ic_3 ?_
  refine nd_iadd dL_law_1195 ?_
  refine nd_sloadN dL_law_1196 rfl h (fun h => ?_)
  obtain ⟨r1, σ2, hc3, h⟩ := nd_bind_e h
  refine nd_cviG [.int (xs ((x3 + (1 : Int32))).toNatClampNeg), .int (xs ((x3 + (2 : Int32))).toNatClampNeg), .int (xs ((x3 + (3 : Int32))).toNatClampNeg)] [] dL_law_1197 cl_L_146 (sh_0 t) ⟨Nat.le_of_ble_eq_true rfl, Nat.le_of_ble_eq_true rfl⟩ rfl (Nat.le_of_ble_eq_true rfl) (nd_shne t) (nd_rel_kc hrel) (Nat.le_trans (Nat.le_add_right _ _) hks) (nd_rel_len hrel) (t_X10_game F t (nd_rel_len hrel) _ _ _ _ hc3) ?_
  refine nd_aload_n dL_law_1200 2 rfl ?_
  refine nd_aload_n dL_law_1201 0 rfl ?_
  refine nd_iload_n dL_law_1202 3 rfl ?_
  refine nd_iconst dL_law_1203 ic_1 ?_
  refine nd_iadd dL_law_1204 ?_
  refine nd_sloadN dL_law_1205 rfl h (fun h => ?_)
  refine nd_aload_n dL_law_1206 0 rfl ?_
  refine nd_iload_n dL_law_1207 3 rfl ?_
  refine nd_iconst dL_law_1208 ic_2 ?_
  refine nd_iadd dL_law_1209 ?_
  refine nd_sloadN dL_law_1210 rfl h (fun h => ?_)
  refine nd_aload_n dL_law_1211 0 rfl ?_
  refine nd_iload_n dL_law_1212 3 rfl ?_
  refine nd_iconst dL_law_1213 ic_3 ?_
  refine nd_iadd dL_law_1214 ?_
  refine nd_sloadN dL_law_1215 rfl h (fun h => ?_)
  obtain ⟨r4, σ5, hc6, h⟩ := nd_bind_e h
  refine nd_cviG [.int (xs ((x3 + (1 : Int32))).toNatClampNeg), .int (xs ((x3 + (2 : Int32))).toNatClampNeg), .int (xs ((x3 + (3 : Int32))).toNatClampNeg)] [.int r1] dL_law_1216 cl_L_149 (sh_60 t) ⟨Nat.le_of_ble_eq_true rfl, Nat.le_of_ble_eq_true rfl⟩ rfl (Nat.le_of_ble_eq_true rfl) (nd_shne t) (nd_rel_kc hrel) (Nat.le_trans (Nat.le_add_right _ _) hks) (nd_rel_len hrel) (t_X11_game F t (nd_rel_len hrel) _ _ _ _ hc6) ?_
  refine nd_icmp_eqN dL_law_1219 1299 (by decide) h (fun h => ?_) (fun h => ?_)
  · have hg9 := nd_no_e h
    have h := hg9.2
    have hg9 := Classical.not_not.mp hg9.1
    refine nd_iinc (v := (x3 + (6 : Int32))) (ls' := [(3, .int (x3 + (6 : Int32))), (0, .ref nd_scr), (1, .ref 0), (2, .ref 60)]) dL_law_1299 3 rfl (congrArg (HAdd.hAdd _) ic_6) (Nat.le_of_ble_eq_true rfl) rfl ?_
    refine nd_goto dL_law_1302 18 (by decide) ?_
    refine nd_sub [1, 2, 3, 0] rfl ?_
    exact hrec18 _ _ t ks (nd_rel_of hrel hg9) hks h
  · refine nd_iconst dL_law_1222 ic_0 ?_
    cases h
set_option maxRecDepth 100000 in
set_option maxHeartbeats 4000000 in
theorem b_law_1224 (F Ln : Nat) (xs : Nat → Int32) (rec18 : Int32 → nd_Mem → nd_Res) {z : Int32 × nd_Mem} (hrec18 : ∀ (x3 : Int32) (σ : nd_Mem) (t : List nd_S) (ks : Nat), nd_rel t σ → ks + (if t = [] then 1344 else 0) ≤ 7302250 → rec18 x3 σ = some z → nd_V (M_law Ln xs) room_1 nd_PL (100 + t.length) ks 18 [(0, .ref nd_scr), (1, .ref 0), (2, .ref 60), (3, .int x3)] [] (nd_SH ++ t) σ) (t : List nd_S) (ks : Nat) (x3 : Int32) (σ : nd_Mem) (hrel : nd_rel t σ) (hks : ks + (if t = [] then 1344 else 0) ≤ 7302250) (h : f_law_1224 F Ln xs rec18 x3 σ = some z) : nd_V (M_law Ln xs) room_1 nd_PL (100 + t.length) ks 1224 [(0, .ref nd_scr), (1, .ref 0), (2, .ref 60), (3, .int x3)] [] (nd_SH ++ t) σ := by
  unfold f_law_1224 at h
  refine nd_aload_n dL_law_1224 1 rfl ?_
  obtain ⟨r1, σ2, hc3, h⟩ := nd_bind_e h
  refine nd_cviG [] [] dL_law_1225 cl_L_150 (sh_0 t) ⟨Nat.le_of_ble_eq_true rfl, Nat.le_of_ble_eq_true rfl⟩ rfl (Nat.le_of_ble_eq_true rfl) (nd_shne t) (nd_rel_kc hrel) (Nat.le_trans (Nat.le_add_right _ _) hks) (nd_rel_len hrel) (t_X10_undo F t (nd_rel_len hrel) _ hc3) ?_
  refine nd_aload_n dL_law_1228 2 rfl ?_
  obtain ⟨r4, σ5, hc6, h⟩ := nd_bind_e h
  refine nd_cviG [] [.int r1] dL_law_1229 cl_L_154 (sh_60 t) ⟨Nat.le_of_ble_eq_true rfl, Nat.le_of_ble_eq_true rfl⟩ rfl (Nat.le_of_ble_eq_true rfl) (nd_shne t) (nd_rel_kc hrel) (Nat.le_trans (Nat.le_add_right _ _) hks) (nd_rel_len hrel) (t_X11_undo F t (nd_rel_len hrel) _ hc6) ?_
  refine nd_icmp_eqN dL_law_1232 1299 (by decide) h (fun h => ?_) (fun h => ?_)
  · have hg9 := nd_no_e h
    have h := hg9.2
    have hg9 := Classical.not_not.mp hg9.1
    refine nd_iinc (v := (x3 + (6 : Int32))) (ls' := [(3, .int (x3 + (6 : Int32))), (0, .ref nd_scr), (1, .ref 0), (2, .ref 60)]) dL_law_1299 3 rfl (congrArg (HAdd.hAdd _) ic_6) (Nat.le_of_ble_eq_true rfl) rfl ?_
    refine nd_goto dL_law_1302 18 (by decide) ?_
    refine nd_sub [1, 2, 3, 0] rfl ?_
    exact hrec18 _ _ t ks (nd_rel_of hrel hg9) hks h
  · refine nd_iconst dL_law_1235 ic_0 ?_
    cases h
set_option maxRecDepth 100000 in
set_option maxHeartbeats 4000000 in
theorem b_law_1237 (F Ln : Nat) (xs : Nat → Int32) (rec18 : Int32 → nd_Mem → nd_Res) {z : Int32 × nd_Mem} (hrec18 : ∀ (x3 : Int32) (σ : nd_Mem) (t : List nd_S) (ks : Nat), nd_rel t σ → ks + (if t = [] then 1344 else 0) ≤ 7302250 → rec18 x3 σ = some z → nd_V (M_law Ln xs) room_1 nd_PL (100 + t.length) ks 18 [(0, .ref nd_scr), (1, .ref 0), (2, .ref 60), (3, .int x3)] [] (nd_SH ++ t) σ) (t : List nd_S) (ks : Nat) (x3 : Int32) (σ : nd_Mem) (hrel : nd_rel t σ) (hks : ks + (if t = [] then 1344 else 0) ≤ 7302250) (h : f_law_1237 F Ln xs rec18 x3 σ = some z) : nd_V (M_law Ln xs) room_1 nd_PL (100 + t.length) ks 1237 [(0, .ref nd_scr), (1, .ref 0), (2, .ref 60), (3, .int x3)] [] (nd_SH ++ t) σ := by
  unfold f_law_1237 at h
  refine nd_aload_n dL_law_1237 1 rfl ?_
  refine nd_aload_n dL_law_1238 0 rfl ?_
  refine nd_iload_n dL_law_1239 3 rfl ?_
  refine nd_iconst dL_law_1240 ic_1 ?_
  refine nd_iadd dL_law_1241 ?_
  refine nd_sloadN dL_law_1242 rfl h (fun h => ?_)
  refine nd_if_eqN dL_law_1243 1250 (by decide) h (fun h => ?_) (fun h => ?_)
  · refine nd_iconst dL_law_1250 ic_0 ?_
    obtain ⟨r1, σ2, hc3, h⟩ := nd_bind_e h
    refine nd_cviG [.int (0 : Int32)] [] dL_law_1251 cl_L_155 (sh_0 t) ⟨Nat.le_of_ble_eq_true rfl, Nat.le_of_ble_eq_true rfl⟩ rfl (Nat.le_of_ble_eq_true rfl) (nd_shne t) (nd_rel_kc hrel) (Nat.le_trans (Nat.le_add_right _ _) hks) (nd_rel_len hrel) (t_X10_imageB F t (nd_rel_len hrel) _ _ (nd_rel_pic hrel) (fun _ => rfl) hc3) ?_
    refine nd_aload_n dL_law_1254 2 rfl ?_
    refine nd_aload_n dL_law_1255 0 rfl ?_
    refine nd_iload_n dL_law_1256 3 rfl ?_
    refine nd_iconst dL_law_1257 ic_1 ?_
    refine nd_iadd dL_law_1258 ?_
    refine nd_sloadN dL_law_1259 rfl h (fun h => ?_)
    refine nd_if_eqN dL_law_1260 1267 (by decide) h (fun h => ?_) (fun h => ?_)
    · refine nd_iconst dL_law_1267 ic_0 ?_
      obtain ⟨r4, σ5, hc6, h⟩ := nd_bind_e h
      refine nd_cviG [.int (0 : Int32)] [.int r1] dL_law_1268 cl_L_159 (sh_60 t) ⟨Nat.le_of_ble_eq_true rfl, Nat.le_of_ble_eq_true rfl⟩ rfl (Nat.le_of_ble_eq_true rfl) (nd_shne t) (nd_rel_kc hrel) (Nat.le_trans (Nat.le_add_right _ _) hks) (nd_rel_len hrel) (t_X11_image F t (nd_rel_len hrel) _ _ hc6) ?_
      refine nd_icmp_eqN dL_law_1271 1299 (by decide) h (fun h => ?_) (fun h => ?_)
      · have hg9 := nd_no_e h
        have h := hg9.2
        have hg9 := Classical.not_not.mp hg9.1
        refine nd_iinc (v := (x3 + (6 : Int32))) (ls' := [(3, .int (x3 + (6 : Int32))), (0, .ref nd_scr), (1, .ref 0), (2, .ref 60)]) dL_law_1299 3 rfl (congrArg (HAdd.hAdd _) ic_6) (Nat.le_of_ble_eq_true rfl) rfl ?_
        refine nd_goto dL_law_1302 18 (by decide) ?_
        refine nd_sub [1, 2, 3, 0] rfl ?_
        exact hrec18 _ _ t ks (nd_rel_of hrel hg9) hks h
      · refine nd_iconst dL_law_1274 ic_0 ?_
        cases h
    · refine nd_iconst dL_law_1263 ic_1 ?_
      refine nd_goto dL_law_1264 1268 (by decide) ?_
      obtain ⟨r7, σ8, hc9, h⟩ := nd_bind_e h
      refine nd_cviG [.int (1 : Int32)] [.int r1] dL_law_1268 cl_L_159 (sh_60 t) ⟨Nat.le_of_ble_eq_true rfl, Nat.le_of_ble_eq_true rfl⟩ rfl (Nat.le_of_ble_eq_true rfl) (nd_shne t) (nd_rel_kc hrel) (Nat.le_trans (Nat.le_add_right _ _) hks) (nd_rel_len hrel) (t_X11_image F t (nd_rel_len hrel) _ _ hc9) ?_
      refine nd_icmp_eqN dL_law_1271 1299 (by decide) h (fun h => ?_) (fun h => ?_)
      · have hg9 := nd_no_e h
        have h := hg9.2
        have hg9 := Classical.not_not.mp hg9.1
        refine nd_iinc (v := (x3 + (6 : Int32))) (ls' := [(3, .int (x3 + (6 : Int32))), (0, .ref nd_scr), (1, .ref 0), (2, .ref 60)]) dL_law_1299 3 rfl (congrArg (HAdd.hAdd _) ic_6) (Nat.le_of_ble_eq_true rfl) rfl ?_
        refine nd_goto dL_law_1302 18 (by decide) ?_
        refine nd_sub [1, 2, 3, 0] rfl ?_
        exact hrec18 _ _ t ks (nd_rel_of hrel hg9) hks h
      · refine nd_iconst dL_law_1274 ic_0 ?_
        cases h
  · refine nd_iconst dL_law_1246 ic_1 ?_
    refine nd_goto dL_law_1247 1251 (by decide) ?_
    rcases nd_ite_e h with ⟨hfl, h⟩ | ⟨hfl, h⟩
    · obtain ⟨r10, σ11, hc12, h⟩ := nd_bind_e h
      obtain rfl := nd_rel_nil hrel hfl
      obtain ⟨q1, q2, q3, q4, T9, k9, q5⟩ := cl_L_155
      refine nd_callV (as := [.int (1 : Int32)]) (st := []) dL_law_1251 q1 q2 q3 q4 q5 (sh_0 []) ⟨Nat.le_of_ble_eq_true rfl, Nat.le_of_ble_eq_true rfl⟩ (Nat.le_of_ble_eq_true rfl) (Or.inr (nd_shne [])) (Nat.le_of_ble_eq_true rfl) hks (Nat.le_of_ble_eq_true rfl) (t_X10_imageA F _ _ hc12) (fun r9 sh9 σ9 hp => by rw [hp.2.1]; rfl) (fun r9 sh9 σ9 hp _ => ?_)
      obtain ⟨rfl, rfl, rfl⟩ := hp
      have hks : (ks + 1344) + 0 ≤ 7302250 := hks
      refine nd_aload_n dL_law_1254 2 rfl ?_
      refine nd_aload_n dL_law_1255 0 rfl ?_
      refine nd_iload_n dL_law_1256 3 rfl ?_
      refine nd_iconst dL_law_1257 ic_1 ?_
      refine nd_iadd dL_law_1258 ?_
      refine nd_sloadN dL_law_1259 rfl h (fun h => ?_)
      refine nd_if_eqN dL_law_1260 1267 (by decide) h (fun h => ?_) (fun h => ?_)
      · refine nd_iconst dL_law_1267 ic_0 ?_
        obtain ⟨r13, σ14, hc15, h⟩ := nd_bind_e h
        refine nd_cviG [.int (0 : Int32)] [.int r10] dL_law_1268 cl_L_159 (sh_60 nd_PIC) ⟨Nat.le_of_ble_eq_true rfl, Nat.le_of_ble_eq_true rfl⟩ rfl (Nat.le_of_ble_eq_true rfl) (nd_shne nd_PIC) (Nat.le_of_ble_eq_true rfl) hks nd_plen (t_X11_image F nd_PIC nd_plen _ _ hc15) ?_
        refine nd_icmp_eqN dL_law_1271 1299 (by decide) h (fun h => ?_) (fun h => ?_)
        · have hg9 := nd_no_e h
          have h := hg9.2
          have hg9 := hg9.1
          refine nd_iinc (v := (x3 + (6 : Int32))) (ls' := [(3, .int (x3 + (6 : Int32))), (0, .ref nd_scr), (1, .ref 0), (2, .ref 60)]) dL_law_1299 3 rfl (congrArg (HAdd.hAdd _) ic_6) (Nat.le_of_ble_eq_true rfl) rfl ?_
          refine nd_goto dL_law_1302 18 (by decide) ?_
          refine nd_sub [1, 2, 3, 0] rfl ?_
          exact hrec18 _ _ nd_PIC _ (Or.inr ⟨hg9, rfl⟩) hks h
        · refine nd_iconst dL_law_1274 ic_0 ?_
          cases h
      · refine nd_iconst dL_law_1263 ic_1 ?_
        refine nd_goto dL_law_1264 1268 (by decide) ?_
        obtain ⟨r16, σ17, hc18, h⟩ := nd_bind_e h
        refine nd_cviG [.int (1 : Int32)] [.int r10] dL_law_1268 cl_L_159 (sh_60 nd_PIC) ⟨Nat.le_of_ble_eq_true rfl, Nat.le_of_ble_eq_true rfl⟩ rfl (Nat.le_of_ble_eq_true rfl) (nd_shne nd_PIC) (Nat.le_of_ble_eq_true rfl) hks nd_plen (t_X11_image F nd_PIC nd_plen _ _ hc18) ?_
        refine nd_icmp_eqN dL_law_1271 1299 (by decide) h (fun h => ?_) (fun h => ?_)
        · have hg9 := nd_no_e h
          have h := hg9.2
          have hg9 := hg9.1
          refine nd_iinc (v := (x3 + (6 : Int32))) (ls' := [(3, .int (x3 + (6 : Int32))), (0, .ref nd_scr), (1, .ref 0), (2, .ref 60)]) dL_law_1299 3 rfl (congrArg (HAdd.hAdd _) ic_6) (Nat.le_of_ble_eq_true rfl) rfl ?_
          refine nd_goto dL_law_1302 18 (by decide) ?_
          refine nd_sub [1, 2, 3, 0] rfl ?_
          exact hrec18 _ _ nd_PIC _ (Or.inr ⟨hg9, rfl⟩) hks h
        · refine nd_iconst dL_law_1274 ic_0 ?_
          cases h
    · obtain ⟨r19, σ20, hc21, h⟩ := nd_bind_e h
      refine nd_cviG [.int (1 : Int32)] [] dL_law_1251 cl_L_155 (sh_0 t) ⟨Nat.le_of_ble_eq_true rfl, Nat.le_of_ble_eq_true rfl⟩ rfl (Nat.le_of_ble_eq_true rfl) (nd_shne t) (nd_rel_kc hrel) (Nat.le_trans (Nat.le_add_right _ _) hks) (nd_rel_len hrel) (t_X10_imageB F t (nd_rel_len hrel) _ _ (nd_rel_pic hrel) (fun e => absurd e hfl) hc21) ?_
      refine nd_aload_n dL_law_1254 2 rfl ?_
      refine nd_aload_n dL_law_1255 0 rfl ?_
      refine nd_iload_n dL_law_1256 3 rfl ?_
      refine nd_iconst dL_law_1257 ic_1 ?_
      refine nd_iadd dL_law_1258 ?_
      refine nd_sloadN dL_law_1259 rfl h (fun h => ?_)
      refine nd_if_eqN dL_law_1260 1267 (by decide) h (fun h => ?_) (fun h => ?_)
      · refine nd_iconst dL_law_1267 ic_0 ?_
        obtain ⟨r22, σ23, hc24, h⟩ := nd_bind_e h
        refine nd_cviG [.int (0 : Int32)] [.int r19] dL_law_1268 cl_L_159 (sh_60 t) ⟨Nat.le_of_ble_eq_true rfl, Nat.le_of_ble_eq_true rfl⟩ rfl (Nat.le_of_ble_eq_true rfl) (nd_shne t) (nd_rel_kc hrel) (Nat.le_trans (Nat.le_add_right _ _) hks) (nd_rel_len hrel) (t_X11_image F t (nd_rel_len hrel) _ _ hc24) ?_
        refine nd_icmp_eqN dL_law_1271 1299 (by decide) h (fun h => ?_) (fun h => ?_)
        · have hg9 := nd_no_e h
          have h := hg9.2
          have hg9 := Classical.not_not.mp hg9.1
          refine nd_iinc (v := (x3 + (6 : Int32))) (ls' := [(3, .int (x3 + (6 : Int32))), (0, .ref nd_scr), (1, .ref 0), (2, .ref 60)]) dL_law_1299 3 rfl (congrArg (HAdd.hAdd _) ic_6) (Nat.le_of_ble_eq_true rfl) rfl ?_
          refine nd_goto dL_law_1302 18 (by decide) ?_
          refine nd_sub [1, 2, 3, 0] rfl ?_
          exact hrec18 _ _ t ks (nd_rel_of hrel hg9) hks h
        · refine nd_iconst dL_law_1274 ic_0 ?_
          cases h
      · refine nd_iconst dL_law_1263 ic_1 ?_
        refine nd_goto dL_law_1264 1268 (by decide) ?_
        obtain ⟨r25, σ26, hc27, h⟩ := nd_bind_e h
        refine nd_cviG [.int (1 : Int32)] [.int r19] dL_law_1268 cl_L_159 (sh_60 t) ⟨Nat.le_of_ble_eq_true rfl, Nat.le_of_ble_eq_true rfl⟩ rfl (Nat.le_of_ble_eq_true rfl) (nd_shne t) (nd_rel_kc hrel) (Nat.le_trans (Nat.le_add_right _ _) hks) (nd_rel_len hrel) (t_X11_image F t (nd_rel_len hrel) _ _ hc27) ?_
        refine nd_icmp_eqN dL_law_1271 1299 (by decide) h (fun h => ?_) (fun h => ?_)
        · have hg9 := nd_no_e h
          have h := hg9.2
          have hg9 := Classical.not_not.mp hg9.1
          refine nd_iinc (v := (x3 + (6 : Int32))) (ls' := [(3, .int (x3 + (6 : Int32))), (0, .ref nd_scr), (1, .ref 0), (2, .ref 60)]) dL_law_1299 3 rfl (congrArg (HAdd.hAdd _) ic_6) (Nat.le_of_ble_eq_true rfl) rfl ?_
          refine nd_goto dL_law_1302 18 (by decide) ?_
          refine nd_sub [1, 2, 3, 0] rfl ?_
          exact hrec18 _ _ t ks (nd_rel_of hrel hg9) hks h
        · refine nd_iconst dL_law_1274 ic_0 ?_
          cases h
set_option maxRecDepth 100000 in
set_option maxHeartbeats 4000000 in
theorem b_law_1276 (F Ln : Nat) (xs : Nat → Int32) (rec18 : Int32 → nd_Mem → nd_Res) {z : Int32 × nd_Mem} (hrec18 : ∀ (x3 : Int32) (σ : nd_Mem) (t : List nd_S) (ks : Nat), nd_rel t σ → ks + (if t = [] then 1344 else 0) ≤ 7302250 → rec18 x3 σ = some z → nd_V (M_law Ln xs) room_1 nd_PL (100 + t.length) ks 18 [(0, .ref nd_scr), (1, .ref 0), (2, .ref 60), (3, .int x3)] [] (nd_SH ++ t) σ) (t : List nd_S) (ks : Nat) (x3 : Int32) (σ : nd_Mem) (hrel : nd_rel t σ) (hks : ks + (if t = [] then 1344 else 0) ≤ 7302250) (h : f_law_1276 F Ln xs rec18 x3 σ = some z) : nd_V (M_law Ln xs) room_1 nd_PL (100 + t.length) ks 1276 [(0, .ref nd_scr), (1, .ref 0), (2, .ref 60), (3, .int x3)] [] (nd_SH ++ t) σ := by
  unfold f_law_1276 at h
  refine nd_aload_n dL_law_1276 1 rfl ?_
  refine nd_aload_n dL_law_1277 0 rfl ?_
  refine nd_iload_n dL_law_1278 3 rfl ?_
  refine nd_iconst dL_law_1279 ic_1 ?_
  refine nd_iadd dL_law_1280 ?_
  refine nd_sloadN dL_law_1281 rfl h (fun h => ?_)
  obtain ⟨r1, σ2, hc3, h⟩ := nd_bind_e h
  refine nd_cviG [.int (xs ((x3 + (1 : Int32))).toNatClampNeg)] [] dL_law_1282 cl_L_160 (sh_0 t) ⟨Nat.le_of_ble_eq_true rfl, Nat.le_of_ble_eq_true rfl⟩ rfl (Nat.le_of_ble_eq_true rfl) (nd_shne t) (nd_rel_kc hrel) (Nat.le_trans (Nat.le_add_right _ _) hks) (nd_rel_len hrel) (t_X10_look F t (nd_rel_len hrel) _ _ hc3) ?_
  refine nd_aload_n dL_law_1285 2 rfl ?_
  refine nd_aload_n dL_law_1286 0 rfl ?_
  refine nd_iload_n dL_law_1287 3 rfl ?_
  refine nd_iconst dL_law_1288 ic_1 ?_
  refine nd_iadd dL_law_1289 ?_
  refine nd_sloadN dL_law_1290 rfl h (fun h => ?_)
  obtain ⟨r4, σ5, hc6, h⟩ := nd_bind_e h
  refine nd_cviG [.int (xs ((x3 + (1 : Int32))).toNatClampNeg)] [.int r1] dL_law_1291 cl_L_163 (sh_60 t) ⟨Nat.le_of_ble_eq_true rfl, Nat.le_of_ble_eq_true rfl⟩ rfl (Nat.le_of_ble_eq_true rfl) (nd_shne t) (nd_rel_kc hrel) (Nat.le_trans (Nat.le_add_right _ _) hks) (nd_rel_len hrel) (t_X11_look F t (nd_rel_len hrel) _ _ hc6) ?_
  refine nd_icmp_eqN dL_law_1294 1299 (by decide) h (fun h => ?_) (fun h => ?_)
  · have hg9 := nd_no_e h
    have h := hg9.2
    have hg9 := Classical.not_not.mp hg9.1
    refine nd_iinc (v := (x3 + (6 : Int32))) (ls' := [(3, .int (x3 + (6 : Int32))), (0, .ref nd_scr), (1, .ref 0), (2, .ref 60)]) dL_law_1299 3 rfl (congrArg (HAdd.hAdd _) ic_6) (Nat.le_of_ble_eq_true rfl) rfl ?_
    refine nd_goto dL_law_1302 18 (by decide) ?_
    refine nd_sub [1, 2, 3, 0] rfl ?_
    exact hrec18 _ _ t ks (nd_rel_of hrel hg9) hks h
  · refine nd_iconst dL_law_1297 ic_0 ?_
    cases h
set_option maxRecDepth 100000 in
set_option maxHeartbeats 4000000 in
theorem b_law_18 (F Ln : Nat) (xs : Nat → Int32) {z : Int32 × nd_Mem} (m9 : Nat) : ∀ (x3 : Int32) (σ : nd_Mem) (t : List nd_S) (ks : Nat), nd_rel t σ → ks + (if t = [] then 1344 else 0) ≤ 7302250 → f_law_18 F Ln xs m9 x3 σ = some z → nd_V (M_law Ln xs) room_1 nd_PL (100 + t.length) ks 18 [(0, .ref nd_scr), (1, .ref 0), (2, .ref 60), (3, .int x3)] [] (nd_SH ++ t) σ := by
  induction m9 with
  | zero =>
    intro x3 σ t ks hrel hks h
    have h : none = some z := h
    cases h
  | succ m9 hrec18 =>
    intro x3 σ t ks hrel hks h
    have h : f_law_18_b F Ln xs (f_law_18 F Ln xs m9) x3 σ = some z := h
    unfold f_law_18_b at h
    refine nd_iload_n dL_law_18 3 rfl ?_
    refine nd_aload_n dL_law_19 0 rfl ?_
    refine nd_slen (v := Int32.ofNat Ln) dL_law_20 rfl rfl ?_
    refine nd_bipush dL_law_21 ib_6 ?_
    refine nd_isub dL_law_23 ?_
    refine nd_icmp_gtN dL_law_24 1305 (by decide) h (fun h => ?_) (fun h => ?_)
    · refine nd_iconst dL_law_1305 ic_1 ?_
      exact nd_iret dL_law_1306 (nd_rel_kc hrel) (Nat.le_trans (Nat.le_add_right _ _) hks) rfl rfl
    · refine nd_aload_n dL_law_27 0 rfl ?_
      refine nd_iload_n dL_law_28 3 rfl ?_
      refine nd_sloadN dL_law_29 rfl h (fun h => ?_)
      refine nd_bipush dL_law_30 ib_63 ?_
      refine nd_iand dL_law_32 ?_
      rcases nd_ite_e h with ⟨c1, h⟩ | ⟨c1, h⟩
      · refine nd_tin dL_law_33 0 (by rw [c1] <;> decide) (by rw [c1] <;> decide) rfl 188 (by decide) ?_
        exact b_law_188 F Ln xs _ hrec18 t ks _ _ hrel hks h
      rcases nd_ite_e h with ⟨c2, h⟩ | ⟨c2, h⟩
      · refine nd_tin dL_law_33 1 (by rw [c2] <;> decide) (by rw [c2] <;> decide) rfl 211 (by decide) ?_
        exact b_law_211 F Ln xs _ hrec18 t ks _ _ hrel hks h
      rcases nd_ite_e h with ⟨c3, h⟩ | ⟨c3, h⟩
      · refine nd_tin dL_law_33 2 (by rw [c3] <;> decide) (by rw [c3] <;> decide) rfl 254 (by decide) ?_
        exact b_law_254 F Ln xs _ hrec18 t ks _ _ hrel hks h
      rcases nd_ite_e h with ⟨c4, h⟩ | ⟨c4, h⟩
      · refine nd_tin dL_law_33 3 (by rw [c4] <;> decide) (by rw [c4] <;> decide) rfl 297 (by decide) ?_
        exact b_law_297 F Ln xs _ hrec18 t ks _ _ hrel hks h
      rcases nd_ite_e h with ⟨c5, h⟩ | ⟨c5, h⟩
      · refine nd_tin dL_law_33 4 (by rw [c5] <;> decide) (by rw [c5] <;> decide) rfl 330 (by decide) ?_
        exact b_law_330 F Ln xs _ hrec18 t ks _ _ hrel hks h
      rcases nd_ite_e h with ⟨c6, h⟩ | ⟨c6, h⟩
      · refine nd_tin dL_law_33 5 (by rw [c6] <;> decide) (by rw [c6] <;> decide) rfl 353 (by decide) ?_
        exact b_law_353 F Ln xs _ hrec18 t ks _ _ hrel hks h
      rcases nd_ite_e h with ⟨c7, h⟩ | ⟨c7, h⟩
      · refine nd_tin dL_law_33 6 (by rw [c7] <;> decide) (by rw [c7] <;> decide) rfl 416 (by decide) ?_
        exact b_law_416 F Ln xs _ hrec18 t ks _ _ hrel hks h
      rcases nd_ite_e h with ⟨c8, h⟩ | ⟨c8, h⟩
      · refine nd_tin dL_law_33 7 (by rw [c8] <;> decide) (by rw [c8] <;> decide) rfl 439 (by decide) ?_
        exact b_law_439 F Ln xs _ hrec18 t ks _ _ hrel hks h
      rcases nd_ite_e h with ⟨c9, h⟩ | ⟨c9, h⟩
      · refine nd_tin dL_law_33 8 (by rw [c9] <;> decide) (by rw [c9] <;> decide) rfl 462 (by decide) ?_
        exact b_law_462 F Ln xs _ hrec18 t ks _ _ hrel hks h
      rcases nd_ite_e h with ⟨c10, h⟩ | ⟨c10, h⟩
      · refine nd_tin dL_law_33 9 (by rw [c10] <;> decide) (by rw [c10] <;> decide) rfl 485 (by decide) ?_
        exact b_law_485 F Ln xs _ hrec18 t ks _ _ hrel hks h
      rcases nd_ite_e h with ⟨c11, h⟩ | ⟨c11, h⟩
      · refine nd_tin dL_law_33 10 (by rw [c11] <;> decide) (by rw [c11] <;> decide) rfl 518 (by decide) ?_
        exact b_law_518 F Ln xs _ hrec18 t ks _ _ hrel hks h
      rcases nd_ite_e h with ⟨c12, h⟩ | ⟨c12, h⟩
      · refine nd_tin dL_law_33 11 (by rw [c12] <;> decide) (by rw [c12] <;> decide) rfl 551 (by decide) ?_
        exact b_law_551 F Ln xs _ hrec18 t ks _ _ hrel hks h
      rcases nd_ite_e h with ⟨c13, h⟩ | ⟨c13, h⟩
      · refine nd_tin dL_law_33 12 (by rw [c13] <;> decide) (by rw [c13] <;> decide) rfl 584 (by decide) ?_
        exact b_law_584 F Ln xs _ hrec18 t ks _ _ hrel hks h
      rcases nd_ite_e h with ⟨c14, h⟩ | ⟨c14, h⟩
      · refine nd_tin dL_law_33 13 (by rw [c14] <;> decide) (by rw [c14] <;> decide) rfl 607 (by decide) ?_
        exact b_law_607 F Ln xs _ hrec18 t ks _ _ hrel hks h
      rcases nd_ite_e h with ⟨c15, h⟩ | ⟨c15, h⟩
      · refine nd_tin dL_law_33 14 (by rw [c15] <;> decide) (by rw [c15] <;> decide) rfl 660 (by decide) ?_
        exact b_law_660 F Ln xs _ hrec18 t ks _ _ hrel hks h
      rcases nd_ite_e h with ⟨c16, h⟩ | ⟨c16, h⟩
      · refine nd_tin dL_law_33 15 (by rw [c16] <;> decide) (by rw [c16] <;> decide) rfl 683 (by decide) ?_
        exact b_law_683 F Ln xs _ hrec18 t ks _ _ hrel hks h
      rcases nd_ite_e h with ⟨c17, h⟩ | ⟨c17, h⟩
      · refine nd_tin dL_law_33 16 (by rw [c17] <;> decide) (by rw [c17] <;> decide) rfl 706 (by decide) ?_
        exact b_law_706 F Ln xs _ hrec18 t ks _ _ hrel hks h
      rcases nd_ite_e h with ⟨c18, h⟩ | ⟨c18, h⟩
      · refine nd_tin dL_law_33 17 (by rw [c18] <;> decide) (by rw [c18] <;> decide) rfl 739 (by decide) ?_
        exact b_law_739 F Ln xs _ hrec18 t ks _ _ hrel hks h
      rcases nd_ite_e h with ⟨c19, h⟩ | ⟨c19, h⟩
      · refine nd_tin dL_law_33 18 (by rw [c19] <;> decide) (by rw [c19] <;> decide) rfl 772 (by decide) ?_
        exact b_law_772 F Ln xs _ hrec18 t ks _ _ hrel hks h
      rcases nd_ite_e h with ⟨c20, h⟩ | ⟨c20, h⟩
      · refine nd_tin dL_law_33 19 (by rw [c20] <;> decide) (by rw [c20] <;> decide) rfl 805 (by decide) ?_
        exact b_law_805 F Ln xs _ hrec18 t ks _ _ hrel hks h
      rcases nd_ite_e h with ⟨c21, h⟩ | ⟨c21, h⟩
      · refine nd_tin dL_law_33 20 (by rw [c21] <;> decide) (by rw [c21] <;> decide) rfl 828 (by decide) ?_
        exact b_law_828 F Ln xs _ hrec18 t ks _ _ hrel hks h
      rcases nd_ite_e h with ⟨c22, h⟩ | ⟨c22, h⟩
      · refine nd_tin dL_law_33 21 (by rw [c22] <;> decide) (by rw [c22] <;> decide) rfl 851 (by decide) ?_
        exact b_law_851 F Ln xs _ hrec18 t ks _ _ hrel hks h
      rcases nd_ite_e h with ⟨c23, h⟩ | ⟨c23, h⟩
      · refine nd_tin dL_law_33 22 (by rw [c23] <;> decide) (by rw [c23] <;> decide) rfl 874 (by decide) ?_
        exact b_law_874 F Ln xs _ hrec18 t ks _ _ hrel hks h
      rcases nd_ite_e h with ⟨c24, h⟩ | ⟨c24, h⟩
      · refine nd_tin dL_law_33 23 (by rw [c24] <;> decide) (by rw [c24] <;> decide) rfl 907 (by decide) ?_
        exact b_law_907 F Ln xs _ hrec18 t ks _ _ hrel hks h
      rcases nd_ite_e h with ⟨c25, h⟩ | ⟨c25, h⟩
      · refine nd_tin dL_law_33 24 (by rw [c25] <;> decide) (by rw [c25] <;> decide) rfl 950 (by decide) ?_
        exact b_law_950 F Ln xs _ hrec18 t ks _ _ hrel hks h
      rcases nd_ite_e h with ⟨c26, h⟩ | ⟨c26, h⟩
      · refine nd_tin dL_law_33 25 (by rw [c26] <;> decide) (by rw [c26] <;> decide) rfl 1003 (by decide) ?_
        exact b_law_1003 F Ln xs _ hrec18 t ks _ _ hrel hks h
      rcases nd_ite_e h with ⟨c27, h⟩ | ⟨c27, h⟩
      · refine nd_tin dL_law_33 26 (by rw [c27] <;> decide) (by rw [c27] <;> decide) rfl 1046 (by decide) ?_
        exact b_law_1046 F Ln xs _ hrec18 t ks _ _ hrel hks h
      rcases nd_ite_e h with ⟨c28, h⟩ | ⟨c28, h⟩
      · refine nd_tin dL_law_33 27 (by rw [c28] <;> decide) (by rw [c28] <;> decide) rfl 1079 (by decide) ?_
        exact b_law_1079 F Ln xs _ hrec18 t ks _ _ hrel hks h
      rcases nd_ite_e h with ⟨c29, h⟩ | ⟨c29, h⟩
      · refine nd_tin dL_law_33 28 (by rw [c29] <;> decide) (by rw [c29] <;> decide) rfl 1092 (by decide) ?_
        exact b_law_1092 F Ln xs _ hrec18 t ks _ _ hrel hks h
      rcases nd_ite_e h with ⟨c30, h⟩ | ⟨c30, h⟩
      · refine nd_tin dL_law_33 29 (by rw [c30] <;> decide) (by rw [c30] <;> decide) rfl 1135 (by decide) ?_
        exact b_law_1135 F Ln xs _ hrec18 t ks _ _ hrel hks h
      rcases nd_ite_e h with ⟨c31, h⟩ | ⟨c31, h⟩
      · refine nd_tin dL_law_33 30 (by rw [c31] <;> decide) (by rw [c31] <;> decide) rfl 1158 (by decide) ?_
        exact b_law_1158 F Ln xs _ hrec18 t ks _ _ hrel hks h
      rcases nd_ite_e h with ⟨c32, h⟩ | ⟨c32, h⟩
      · refine nd_tin dL_law_33 31 (by rw [c32] <;> decide) (by rw [c32] <;> decide) rfl 1181 (by decide) ?_
        exact b_law_1181 F Ln xs _ hrec18 t ks _ _ hrel hks h
      rcases nd_ite_e h with ⟨c33, h⟩ | ⟨c33, h⟩
      · refine nd_tin dL_law_33 32 (by rw [c33] <;> decide) (by rw [c33] <;> decide) rfl 1224 (by decide) ?_
        exact b_law_1224 F Ln xs _ hrec18 t ks _ _ hrel hks h
      rcases nd_ite_e h with ⟨c34, h⟩ | ⟨c34, h⟩
      · refine nd_tin dL_law_33 33 (by rw [c34] <;> decide) (by rw [c34] <;> decide) rfl 1237 (by decide) ?_
        exact b_law_1237 F Ln xs _ hrec18 t ks _ _ hrel hks h
      rcases nd_ite_e h with ⟨c35, h⟩ | ⟨c35, h⟩
      · refine nd_tin dL_law_33 34 (by rw [c35] <;> decide) (by rw [c35] <;> decide) rfl 1276 (by decide) ?_
        exact b_law_1276 F Ln xs _ hrec18 t ks _ _ hrel hks h
      refine nd_tout dL_law_33 (fun j h1 h2 => ?_) 1299 (by decide) ?_
      · rcases (show j = 0 ∨ j = 1 ∨ j = 2 ∨ j = 3 ∨ j = 4 ∨ j = 5 ∨ j = 6 ∨ j = 7 ∨ j = 8 ∨ j = 9 ∨ j = 10 ∨ j = 11 ∨ j = 12 ∨ j = 13 ∨ j = 14 ∨ j = 15 ∨ j = 16 ∨ j = 17 ∨ j = 18 ∨ j = 19 ∨ j = 20 ∨ j = 21 ∨ j = 22 ∨ j = 23 ∨ j = 24 ∨ j = 25 ∨ j = 26 ∨ j = 27 ∨ j = 28 ∨ j = 29 ∨ j = 30 ∨ j = 31 ∨ j = 32 ∨ j = 33 ∨ j = 34 by omega) with rfl | rfl | rfl | rfl | rfl | rfl | rfl | rfl | rfl | rfl | rfl | rfl | rfl | rfl | rfl | rfl | rfl | rfl | rfl | rfl | rfl | rfl | rfl | rfl | rfl | rfl | rfl | rfl | rfl | rfl | rfl | rfl | rfl | rfl | rfl
        · exact fun e => c1 (e.trans ic_0)
        · exact fun e => c2 (e.trans ic_1)
        · exact fun e => c3 (e.trans ic_2)
        · exact fun e => c4 (e.trans ic_3)
        · exact fun e => c5 (e.trans ic_4)
        · exact fun e => c6 (e.trans ic_5)
        · exact fun e => c7 (e.trans ic_6)
        · exact fun e => c8 (e.trans ic_7)
        · exact fun e => c9 (e.trans ic_8)
        · exact fun e => c10 (e.trans ic_9)
        · exact fun e => c11 (e.trans ic_10)
        · exact fun e => c12 (e.trans ic_11)
        · exact fun e => c13 (e.trans ic_12)
        · exact fun e => c14 (e.trans ic_13)
        · exact fun e => c15 (e.trans ic_14)
        · exact fun e => c16 (e.trans ic_15)
        · exact fun e => c17 (e.trans ic_16)
        · exact fun e => c18 (e.trans ic_17)
        · exact fun e => c19 (e.trans ic_18)
        · exact fun e => c20 (e.trans ic_19)
        · exact fun e => c21 (e.trans ic_20)
        · exact fun e => c22 (e.trans ic_21)
        · exact fun e => c23 (e.trans ic_22)
        · exact fun e => c24 (e.trans ic_23)
        · exact fun e => c25 (e.trans ic_24)
        · exact fun e => c26 (e.trans ic_25)
        · exact fun e => c27 (e.trans ic_26)
        · exact fun e => c28 (e.trans ic_27)
        · exact fun e => c29 (e.trans ic_28)
        · exact fun e => c30 (e.trans ic_29)
        · exact fun e => c31 (e.trans ic_30)
        · exact fun e => c32 (e.trans ic_31)
        · exact fun e => c33 (e.trans ic_32)
        · exact fun e => c34 (e.trans ic_33)
        · exact fun e => c35 (e.trans ic_34)
      · have hg9 := nd_no_e h
        have h := hg9.2
        have hg9 := Classical.not_not.mp hg9.1
        refine nd_iinc (v := (x3 + (6 : Int32))) (ls' := [(3, .int (x3 + (6 : Int32))), (0, .ref nd_scr), (1, .ref 0), (2, .ref 60)]) dL_law_1299 3 rfl (congrArg (HAdd.hAdd _) ic_6) (Nat.le_of_ble_eq_true rfl) rfl ?_
        refine nd_goto dL_law_1302 18 (by decide) ?_
        refine nd_sub [1, 2, 3, 0] rfl ?_
        exact hrec18 _ _ t ks (nd_rel_of hrel hg9) hks h
