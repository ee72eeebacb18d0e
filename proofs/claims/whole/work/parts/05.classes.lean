/-! the classes' tables -/
theorem nd_tbl_of {w : Cond} (h : w ∈ lw_tbl) (hg : goodWord w = true) : w ∈ nd_tbl := List.mem_filter.mpr ⟨h, hg⟩
def nd_clP (q : vw_C) : Prop := (∀ w ∈ u_ws q.1 q.2.1 q.2.2, w ∈ nd_tbl) ∧ (∀ k : Nat, k < q.2.2 → (parseFieldDescriptor (q.2.1 k).2.2.1).isSome = true) ∧ ∀ a : Nat, a < q.2.2 → ∀ b : Nat, b < q.2.2 → a ≠ b → (q.2.1 a).2.1 ≠ (q.2.1 b).2.1
theorem nd_cl1 : nd_clP (RX1, TX1, 3) := ⟨by decide +kernel, by decide +kernel, nmX1⟩
theorem nd_cl2 : nd_clP (RX2, TX2, 4) := ⟨by decide +kernel, by decide +kernel, nmX2⟩
theorem nd_cl3 : nd_clP (RX3, TX3, 15) := ⟨by decide +kernel, by decide +kernel, nmX3⟩
theorem nd_cl4 : nd_clP (RX4, TX4, 2) := ⟨by decide +kernel, by decide +kernel, nmX4⟩
theorem nd_cl5 : nd_clP (RX5, TX5, 7) := ⟨by decide +kernel, by decide +kernel, nmX5⟩
theorem nd_cl6 : nd_clP (RX6, TX6, 9) := ⟨by decide +kernel, by decide +kernel, nmX6⟩
theorem nd_cl7 : nd_clP (RX7, TX7, 3) := ⟨by decide +kernel, by decide +kernel, nmX7⟩
theorem nd_cl8 : nd_clP (RX8, TX8, 6) := ⟨by decide +kernel, by decide +kernel, nmX8⟩
theorem nd_cl9 : nd_clP (RX9, TX9, 6) := ⟨by decide +kernel, by decide +kernel, nmX9⟩
theorem nd_cl10 : nd_clP (RX10, TX10, 11) := ⟨by decide +kernel, by decide +kernel, nmX10⟩
theorem nd_cl11 : nd_clP (RX11, TX11, 69) := ⟨by decide +kernel, by decide +kernel, nmX11⟩
theorem nd_clOK {ci : Nat} {q : vw_C} (h : nd_cl[ci]? = some q) : nd_clP q := by
  have h1 : ∀ q ∈ nd_cl, nd_clP q := List.forall_mem_cons.mpr ⟨nd_cl1, List.forall_mem_cons.mpr ⟨nd_cl2, List.forall_mem_cons.mpr ⟨nd_cl3, List.forall_mem_cons.mpr ⟨nd_cl4, List.forall_mem_cons.mpr ⟨nd_cl5, List.forall_mem_cons.mpr ⟨nd_cl6, List.forall_mem_cons.mpr ⟨nd_cl7, List.forall_mem_cons.mpr ⟨nd_cl8, List.forall_mem_cons.mpr ⟨nd_cl9, List.forall_mem_cons.mpr ⟨nd_cl10, List.forall_mem_cons.mpr ⟨nd_cl11, fun _ h => absurd h List.not_mem_nil⟩⟩⟩⟩⟩⟩⟩⟩⟩⟩⟩
  exact h1 q (List.mem_of_getElem? h)
def nd_ty (T : u_T) (k : Nat) : FieldType := (parseFieldDescriptor (T k).2.2.1).getD .int
theorem nd_tyOK {ci : Nat} {C : String} {T : u_T} {N : Nat} (h : nd_cl[ci]? = some (C, T, N)) : ∀ k, k < N → parseFieldDescriptor (T k).2.2.1 = some (nd_ty T k) := by
  intro k hk
  have h1 : (parseFieldDescriptor (T k).2.2.1).isSome = true := (nd_clOK h).2.1 k hk
  unfold nd_ty
  obtain ⟨t, ht⟩ := Option.isSome_iff_exists.mp h1
  rw [ht]
  rfl
/-- the entry 'idx' of the class 'own' names the field k of the class number ci -/
def nd_gf (own : String) (idx ci k : Nat) : Prop := ∃ (C : String) (T : u_T) (N : Nat), nd_cl[ci]? = some (C, T, N) ∧ k < N ∧ (Cond.fieldLink own idx (T k).1 (T k).2.1 (T k).2.2.1 ∈ nd_tbl ∨ ∃ host, Cond.fieldLinkNest own idx (T k).1 (T k).2.1 (T k).2.2.1 host ∈ nd_nest)
/-- .. which is of the type ty, final or not -/
def nd_pf (own : String) (idx ci k : Nat) (ty : FieldType) (fin : Bool) : Prop := ∃ (C : String) (T : u_T) (N : Nat), nd_cl[ci]? = some (C, T, N) ∧ k < N ∧ (Cond.fieldLink own idx (T k).1 (T k).2.1 (T k).2.2.1 ∈ nd_tbl ∨ (fin = false ∧ ∃ host, Cond.fieldLinkNest own idx (T k).1 (T k).2.1 (T k).2.2.1 host ∈ nd_nest)) ∧ (T k).2.2.2 = fin ∧ parseFieldDescriptor (T k).2.2.1 = some ty ∧ (fin = true → (T k).1 = own)
