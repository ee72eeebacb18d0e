/-! pure functions on the memory: what a method answers, and the memory behind it -/
abbrev nd_Res : Type := Option (Int32 × nd_Mem)
def nd_let (x : nd_Mem) (k : nd_Mem → nd_Res) : nd_Res := k x
def nd_bind (o : nd_Res) (k : Int32 → nd_Mem → nd_Res) : nd_Res := match o with
  | none => none
  | some q => k q.1 q.2
theorem nd_bind_e {o : nd_Res} {k : Int32 → nd_Mem → nd_Res} {z : Int32 × nd_Mem} (h : nd_bind o k = some z) : ∃ (r : Int32) (σ : nd_Mem), o = some (r, σ) ∧ k r σ = some z := by
  cases o with
  | none => cases h
  | some q => exact ⟨q.1, q.2, rfl, h⟩
theorem nd_ite_e {c : Prop} [i : Decidable c] {a b : nd_Res} {z : Int32 × nd_Mem} (h : (if c then a else b) = some z) : (c ∧ a = some z) ∨ (¬ c ∧ b = some z) := by
  by_cases hc : c
  · exact Or.inl ⟨hc, by rw [if_pos hc] at h; exact h⟩
  · exact Or.inr ⟨hc, by rw [if_neg hc] at h; exact h⟩
theorem nd_no_e {c : Prop} [i : Decidable c] {b : nd_Res} {z : Int32 × nd_Mem} (h : (if c then none else b) = some z) : ¬ c ∧ b = some z := by
  rcases nd_ite_e h with ⟨_, h⟩ | h
  · cases h
  · exact h
abbrev nd_rm (d : Nat) : Room := { frames := d, cells := 0, slots := 0, locals := 64 * d }
def nd_Pi (sh : List nd_S) (z : Int32 × nd_Mem) : nd_Post := fun r sh' σ' => r = some (.int z.1) ∧ sh' = sh ∧ σ' = z.2
def nd_Pv (sh : List nd_S) (z : Int32 × nd_Mem) : nd_Post := fun r sh' σ' => r = none ∧ sh' = sh ∧ σ' = z.2
section ND_F
variable {M : nd_M} {R : Room} {post : nd_Post} {kc ks pc : Nat} {ls : List (Nat × Value)} {st : List Value} {sh : List nd_S} {σ : nd_Mem} {z : Int32 × nd_Mem}
theorem nd_icmp_eqN {x y : Int32} {off : Int} {a b : nd_Res} {i : Decidable (x = y)} (hd : decode M.2.1 pc = .ok (.if_icmp .eq off, 3)) (tgt : Nat) (ht : (pc : Int) + off = (tgt : Int)) (h : (if x = y then a else b) = some z) (kt : a = some z → nd_V M R post kc ks tgt ls st sh σ) (kf : b = some z → nd_V M R post kc ks (pc + 3) ls st sh σ) : nd_V M R post kc ks pc ls (.int y :: .int x :: st) sh σ := by
  refine nd_icmp_eq hd tgt ht (fun hc => kt ?_) (fun hc => kf ?_)
  · rw [if_pos hc] at h; exact h
  · rw [if_neg hc] at h; exact h
theorem nd_icmp_neN {x y : Int32} {off : Int} {a b : nd_Res} {i : Decidable (x = y)} (hd : decode M.2.1 pc = .ok (.if_icmp .ne off, 3)) (tgt : Nat) (ht : (pc : Int) + off = (tgt : Int)) (h : (if x = y then a else b) = some z) (kt : b = some z → nd_V M R post kc ks tgt ls st sh σ) (kf : a = some z → nd_V M R post kc ks (pc + 3) ls st sh σ) : nd_V M R post kc ks pc ls (.int y :: .int x :: st) sh σ := by
  refine nd_icmp_ne hd tgt ht (fun hc => kt ?_) (fun hc => kf ?_)
  · rw [if_neg hc] at h; exact h
  · rw [if_pos hc] at h; exact h
theorem nd_icmp_ltN {x y : Int32} {off : Int} {a b : nd_Res} {i : Decidable (x < y)} (hd : decode M.2.1 pc = .ok (.if_icmp .lt off, 3)) (tgt : Nat) (ht : (pc : Int) + off = (tgt : Int)) (h : (if x < y then a else b) = some z) (kt : a = some z → nd_V M R post kc ks tgt ls st sh σ) (kf : b = some z → nd_V M R post kc ks (pc + 3) ls st sh σ) : nd_V M R post kc ks pc ls (.int y :: .int x :: st) sh σ := by
  refine nd_icmp_lt hd tgt ht (fun hc => kt ?_) (fun hc => kf ?_)
  · rw [if_pos hc] at h; exact h
  · rw [if_neg hc] at h; exact h
theorem nd_icmp_geN {x y : Int32} {off : Int} {a b : nd_Res} {i : Decidable (y ≤ x)} (hd : decode M.2.1 pc = .ok (.if_icmp .ge off, 3)) (tgt : Nat) (ht : (pc : Int) + off = (tgt : Int)) (h : (if y ≤ x then a else b) = some z) (kt : a = some z → nd_V M R post kc ks tgt ls st sh σ) (kf : b = some z → nd_V M R post kc ks (pc + 3) ls st sh σ) : nd_V M R post kc ks pc ls (.int y :: .int x :: st) sh σ := by
  refine nd_icmp_ge hd tgt ht (fun hc => kt ?_) (fun hc => kf ?_)
  · rw [if_pos hc] at h; exact h
  · rw [if_neg hc] at h; exact h
theorem nd_icmp_gtN {x y : Int32} {off : Int} {a b : nd_Res} {i : Decidable (y < x)} (hd : decode M.2.1 pc = .ok (.if_icmp .gt off, 3)) (tgt : Nat) (ht : (pc : Int) + off = (tgt : Int)) (h : (if y < x then a else b) = some z) (kt : a = some z → nd_V M R post kc ks tgt ls st sh σ) (kf : b = some z → nd_V M R post kc ks (pc + 3) ls st sh σ) : nd_V M R post kc ks pc ls (.int y :: .int x :: st) sh σ := by
  refine nd_icmp_gt hd tgt ht (fun hc => kt ?_) (fun hc => kf ?_)
  · rw [if_pos hc] at h; exact h
  · rw [if_neg hc] at h; exact h
theorem nd_icmp_leN {x y : Int32} {off : Int} {a b : nd_Res} {i : Decidable (x ≤ y)} (hd : decode M.2.1 pc = .ok (.if_icmp .le off, 3)) (tgt : Nat) (ht : (pc : Int) + off = (tgt : Int)) (h : (if x ≤ y then a else b) = some z) (kt : a = some z → nd_V M R post kc ks tgt ls st sh σ) (kf : b = some z → nd_V M R post kc ks (pc + 3) ls st sh σ) : nd_V M R post kc ks pc ls (.int y :: .int x :: st) sh σ := by
  refine nd_icmp_le hd tgt ht (fun hc => kt ?_) (fun hc => kf ?_)
  · rw [if_pos hc] at h; exact h
  · rw [if_neg hc] at h; exact h
theorem nd_if_eqN {x : Int32} {off : Int} {a b : nd_Res} {i : Decidable (x = 0)} (hd : decode M.2.1 pc = .ok (.ifCond .eq off, 3)) (tgt : Nat) (ht : (pc : Int) + off = (tgt : Int)) (h : (if x = 0 then a else b) = some z) (kt : a = some z → nd_V M R post kc ks tgt ls st sh σ) (kf : b = some z → nd_V M R post kc ks (pc + 3) ls st sh σ) : nd_V M R post kc ks pc ls (.int x :: st) sh σ := by
  refine nd_if_eq hd tgt ht (fun hc => kt ?_) (fun hc => kf ?_)
  · rw [if_pos hc] at h; exact h
  · rw [if_neg hc] at h; exact h
theorem nd_if_neN {x : Int32} {off : Int} {a b : nd_Res} {i : Decidable (x = 0)} (hd : decode M.2.1 pc = .ok (.ifCond .ne off, 3)) (tgt : Nat) (ht : (pc : Int) + off = (tgt : Int)) (h : (if x = 0 then a else b) = some z) (kt : b = some z → nd_V M R post kc ks tgt ls st sh σ) (kf : a = some z → nd_V M R post kc ks (pc + 3) ls st sh σ) : nd_V M R post kc ks pc ls (.int x :: st) sh σ := by
  refine nd_if_ne hd tgt ht (fun hc => kt ?_) (fun hc => kf ?_)
  · rw [if_neg hc] at h; exact h
  · rw [if_pos hc] at h; exact h
theorem nd_if_ltN {x : Int32} {off : Int} {a b : nd_Res} {i : Decidable (x < 0)} (hd : decode M.2.1 pc = .ok (.ifCond .lt off, 3)) (tgt : Nat) (ht : (pc : Int) + off = (tgt : Int)) (h : (if x < 0 then a else b) = some z) (kt : a = some z → nd_V M R post kc ks tgt ls st sh σ) (kf : b = some z → nd_V M R post kc ks (pc + 3) ls st sh σ) : nd_V M R post kc ks pc ls (.int x :: st) sh σ := by
  refine nd_if_lt hd tgt ht (fun hc => kt ?_) (fun hc => kf ?_)
  · rw [if_pos hc] at h; exact h
  · rw [if_neg hc] at h; exact h
theorem nd_if_geN {x : Int32} {off : Int} {a b : nd_Res} {i : Decidable (0 ≤ x)} (hd : decode M.2.1 pc = .ok (.ifCond .ge off, 3)) (tgt : Nat) (ht : (pc : Int) + off = (tgt : Int)) (h : (if 0 ≤ x then a else b) = some z) (kt : a = some z → nd_V M R post kc ks tgt ls st sh σ) (kf : b = some z → nd_V M R post kc ks (pc + 3) ls st sh σ) : nd_V M R post kc ks pc ls (.int x :: st) sh σ := by
  refine nd_if_ge hd tgt ht (fun hc => kt ?_) (fun hc => kf ?_)
  · rw [if_pos hc] at h; exact h
  · rw [if_neg hc] at h; exact h
theorem nd_if_gtN {x : Int32} {off : Int} {a b : nd_Res} {i : Decidable (0 < x)} (hd : decode M.2.1 pc = .ok (.ifCond .gt off, 3)) (tgt : Nat) (ht : (pc : Int) + off = (tgt : Int)) (h : (if 0 < x then a else b) = some z) (kt : a = some z → nd_V M R post kc ks tgt ls st sh σ) (kf : b = some z → nd_V M R post kc ks (pc + 3) ls st sh σ) : nd_V M R post kc ks pc ls (.int x :: st) sh σ := by
  refine nd_if_gt hd tgt ht (fun hc => kt ?_) (fun hc => kf ?_)
  · rw [if_pos hc] at h; exact h
  · rw [if_neg hc] at h; exact h
theorem nd_if_leN {x : Int32} {off : Int} {a b : nd_Res} {i : Decidable (x ≤ 0)} (hd : decode M.2.1 pc = .ok (.ifCond .le off, 3)) (tgt : Nat) (ht : (pc : Int) + off = (tgt : Int)) (h : (if x ≤ 0 then a else b) = some z) (kt : a = some z → nd_V M R post kc ks tgt ls st sh σ) (kf : b = some z → nd_V M R post kc ks (pc + 3) ls st sh σ) : nd_V M R post kc ks pc ls (.int x :: st) sh σ := by
  refine nd_if_le hd tgt ht (fun hc => kt ?_) (fun hc => kf ?_)
  · rw [if_pos hc] at h; exact h
  · rw [if_neg hc] at h; exact h
theorem nd_idivN {x y : Int32} {a : nd_Res} {i : Decidable (y = 0)} (hd : decode M.2.1 pc = .ok (.idiv, 1)) (h : (if y = 0 then none else a) = some z) (kk : a = some z → nd_V M R post kc ks (pc + 1) ls (.int (x / y) :: st) sh σ) : nd_V M R post kc ks pc ls (.int y :: .int x :: st) sh σ := nd_idiv hd (nd_no_e h).1 (kk (nd_no_e h).2)
theorem nd_iremN {x y : Int32} {a : nd_Res} {i : Decidable (y = 0)} (hd : decode M.2.1 pc = .ok (.irem, 1)) (h : (if y = 0 then none else a) = some z) (kk : a = some z → nd_V M R post kc ks (pc + 1) ls (.int (q_rem x y) :: st) sh σ) : nd_V M R post kc ks pc ls (.int y :: .int x :: st) sh σ := nd_irem hd (nd_no_e h).1 (kk (nd_no_e h).2)
theorem nd_putiN {idx ci k i : Nat} {fs : List (Int32 → Value)} {x : Int32} {K : nd_Mem → nd_Res} (hd : decode M.2.1 pc = .ok (.putfield idx, 3)) (hg : nd_pf M.1.cls idx ci k .int false) (he : sh[i]? = some (.inl (ci, fs))) (hv : fs[k]? = some Value.int) (h : nd_let (nd_up σ i k x) K = some z)
    (kk : ∀ σ : nd_Mem, K σ = some z → nd_V M R post kc ks (pc + 3) ls st sh σ) : nd_V M R post kc ks pc ls (.int x :: .ref i :: st) sh σ := nd_puti hd hg he hv (kk _ h)
theorem nd_putzN {idx ci k i : Nat} {fs : List (Int32 → Value)} {x : Int32} {K : nd_Mem → nd_Res} {d : Decidable (¬ (x = 0 ∨ x = 1))} (hd : decode M.2.1 pc = .ok (.putfield idx, 3)) (hg : nd_pf M.1.cls idx ci k .boolean false) (he : sh[i]? = some (.inl (ci, fs))) (hv : fs[k]? = some Value.int) (h : (if ¬ (x = 0 ∨ x = 1) then none else nd_let (nd_up σ i k x) K) = some z)
    (kk : ∀ σ : nd_Mem, K σ = some z → nd_V M R post kc ks (pc + 3) ls st sh σ) : nd_V M R post kc ks pc ls (.int x :: .ref i :: st) sh σ := nd_putz hd hg (fun h => absurd h (by decide)) he hv (Classical.not_not.mp (nd_no_e h).1) (kk _ (nd_no_e h).2)
theorem nd_ialoadN {i n : Nat} {j : Int32} {a : nd_Res} {d : Decidable (j < 0 ∨ n ≤ j.toNatClampNeg)} (hd : decode M.2.1 pc = .ok (.iaload, 1)) (he : sh[i]? = some (.inr (.inl n))) (h : (if j < 0 ∨ n ≤ j.toNatClampNeg then none else a) = some z) (kk : a = some z → nd_V M R post kc ks (pc + 1) ls (.int (σ i j.toNatClampNeg) :: st) sh σ) : nd_V M R post kc ks pc ls (.int j :: .ref i :: st) sh σ := nd_iaload hd he (nd_no_e h).1 (kk (nd_no_e h).2)
theorem nd_ialoadMN {j : Int32} {a : nd_Res} {d : Decidable (j < 0 ∨ 5 ≤ j.toNatClampNeg)} (hd : decode M.2.1 pc = .ok (.iaload, 1)) (h : (if j < 0 ∨ 5 ≤ j.toNatClampNeg then none else a) = some z) (kk : a = some z → nd_V M R post kc ks (pc + 1) ls (.int (nd_mo j.toNatClampNeg) :: st) sh σ) : nd_V M R post kc ks pc ls (.int j :: .ref nd_ro :: st) sh σ := nd_ialoadM hd (nd_no_e h).1 (kk (nd_no_e h).2)
theorem nd_iastoreN {i n : Nat} {j x : Int32} {K : nd_Mem → nd_Res} {d : Decidable (j < 0 ∨ n ≤ j.toNatClampNeg)} (hd : decode M.2.1 pc = .ok (.iastore, 1)) (he : sh[i]? = some (.inr (.inl n))) (h : (if j < 0 ∨ n ≤ j.toNatClampNeg then none else nd_let (nd_up σ i j.toNatClampNeg x) K) = some z) (kk : ∀ σ : nd_Mem, K σ = some z → nd_V M R post kc ks (pc + 1) ls st sh σ) : nd_V M R post kc ks pc ls (.int x :: .int j :: .ref i :: st) sh σ := nd_iastore hd he (nd_no_e h).1 (kk _ (nd_no_e h).2)
theorem nd_copyN {idx i0 i1 n0 n1 : Nat} {sp dp n : Int32} {K : nd_Mem → nd_Res} {d : Decidable (sp < 0 ∨ dp < 0 ∨ n < 0 ∨ n0 < sp.toNatClampNeg + n.toNatClampNeg ∨ n1 < dp.toNatClampNeg + n.toNatClampNeg)} (hd : decode M.2.1 pc = .ok (.invokestatic idx, 3)) (h1 : Cond.methodLink M.1.cls idx arraycopyName ∈ nd_tbl) (h2 : Cond.native arraycopyName ∈ nd_tbl) (h3 : Cond.static arraycopyName ∈ nd_tbl) (h4 : Cond.initialized "java/lang/System" ∈ nd_tbl) (he0 : sh[i0]? = some (.inr (.inl n0))) (he1 : sh[i1]? = some (.inr (.inl n1))) (hR : 1 ≤ R.frames ∧ 8 + (nativeFrameWords "java/lang/System" "arraycopy" 5 + 11) ≤ R.locals) (hst : (st.map (fun v => v.category)).sum ≤ 8)
    (h : (if sp < 0 ∨ dp < 0 ∨ n < 0 ∨ n0 < sp.toNatClampNeg + n.toNatClampNeg ∨ n1 < dp.toNatClampNeg + n.toNatClampNeg then none else nd_let (nd_row σ i1 (va_cpy (σ i0) (σ i1) sp.toNatClampNeg dp.toNatClampNeg n.toNatClampNeg)) K) = some z) (kk : ∀ σ : nd_Mem, K σ = some z → nd_V M R post kc ks (pc + 3) ls st sh σ) : nd_V M R post kc ks pc ls (.int n :: .int dp :: .ref i1 :: .int sp :: .ref i0 :: st) sh σ := by
  have h9 := nd_no_e h
  simp only [not_or, Nat.not_lt] at h9
  exact nd_copy hd h1 h2 h3 h4 he0 he1 h9.1.1 h9.1.2.1 h9.1.2.2.1 h9.1.2.2.2.1 h9.1.2.2.2.2 hR hst (kk _ h9.2)
theorem nd_zok {t : FieldType} {v : Int32} (ht : t = .boolean) (h : v = 0 ∨ v = 1) : nd_okr (some t) (some (.int v)) := by
  subst ht
  rcases h with rfl | rfl <;> rfl
end ND_F
/-! calls that make no cell -/
def nd_cs (own : String) (idx : Nat) (N : nd_M) (n : Nat) : Prop := nd_okN N n ∧ Cond.static N.1 ∈ nd_tbl ∧ (Cond.methodLink own idx N.1 ∈ nd_tbl ∨ ∃ host, Cond.methodLinkNest own idx N.1 host ∈ nd_nest)
def nd_cv (own : String) (idx : Nat) (N : nd_M) (n ci : Nat) : Prop := nd_okN N n ∧ Cond.instanceMethod N.1 ∈ nd_tbl ∧ Cond.selects N.1.cls N.1 N.1 ∈ nd_tbl ∧ Cond.methodLink own idx N.1 ∈ nd_tbl ∧ ∃ (T : u_T) (k : Nat), nd_cl[ci]? = some (N.1.cls, T, k)
def nd_ct (own : String) (idx : Nat) (N : nd_M) (n : Nat) : Prop := nd_okN N n ∧ N.1.cls = "java/lang/String" ∧ Cond.instanceMethod N.1 ∈ nd_tbl ∧ Cond.selects "java/lang/String" N.1 N.1 ∈ nd_tbl ∧ Cond.methodLink own idx N.1 ∈ nd_tbl
section ND_G
variable {M : nd_M} {d e : Nat} {post : nd_Post} {pc : Nat} {ls : List (Nat × Value)} {sh : List nd_S} {σ : nd_Mem} {N : nd_M} {idx : Nat} {z : Int32 × nd_Mem}
theorem nd_sz0 {P : nd_Post} (h : ∀ r sh' σ', P r sh' σ' → sh' = sh) : ∀ r sh' σ', P r sh' σ' → sh'.length = sh.length + (nd_rm e).cells := fun r sh' σ' hp => by rw [h r sh' σ' hp]; rfl
theorem nd_csi {st0 : List Value} (as st : List Value) (hd : decode M.2.1 pc = .ok (.invokestatic idx, 3)) (hc : nd_cs M.1.cls idx N as.length) (hR : nd_roomN N (nd_rm e) (nd_rm d)) (hst : as.reverse ++ st = st0) (hcat : (st.map (fun v => v.category)).sum ≤ 8) (hL : sh.length < nd_ro) (hF : nd_Fn N (nd_rm e) as sh σ (nd_Pi sh z)) (kk : nd_V M (nd_rm d) post 0 0 (pc + 3) ls (.int z.1 :: st) sh z.2) : nd_V M (nd_rm d) post 0 0 pc ls st0 sh σ := by
  subst hst
  refine nd_callS hd hc.1 hc.2.1 hc.2.2 hR hcat (Or.inl rfl) (Nat.le_refl _) (Nat.le_refl _) hL hF (nd_sz0 (fun _ _ _ h => h.2.1)) (fun r sh' σ' hp _ => ?_)
  obtain ⟨rfl, rfl, rfl⟩ := hp
  exact kk
theorem nd_csv {st0 : List Value} (as st : List Value) (hd : decode M.2.1 pc = .ok (.invokestatic idx, 3)) (hc : nd_cs M.1.cls idx N as.length) (hR : nd_roomN N (nd_rm e) (nd_rm d)) (hst : as.reverse ++ st = st0) (hcat : (st.map (fun v => v.category)).sum ≤ 8) (hL : sh.length < nd_ro) (hF : nd_Fn N (nd_rm e) as sh σ (nd_Pv sh z)) (kk : nd_V M (nd_rm d) post 0 0 (pc + 3) ls st sh z.2) : nd_V M (nd_rm d) post 0 0 pc ls st0 sh σ := by
  subst hst
  refine nd_callS hd hc.1 hc.2.1 hc.2.2 hR hcat (Or.inl rfl) (Nat.le_refl _) (Nat.le_refl _) hL hF (nd_sz0 (fun _ _ _ h => h.2.1)) (fun r sh' σ' hp _ => ?_)
  obtain ⟨rfl, rfl, rfl⟩ := hp
  exact kk
theorem nd_cvi {b ci : Nat} {fs : List (Int32 → Value)} {st0 : List Value} (as st : List Value) (hd : decode M.2.1 pc = .ok (.invokevirtual idx, 3)) (hc : nd_cv M.1.cls idx N as.length ci) (he : sh[b]? = some (.inl (ci, fs))) (hR : nd_roomN N (nd_rm e) (nd_rm d)) (hst : as.reverse ++ .ref b :: st = st0) (hcat : (st.map (fun v => v.category)).sum ≤ 8) (hL : sh.length < nd_ro) (hF : nd_Fn N (nd_rm e) (.ref b :: as) sh σ (nd_Pi sh z)) (kk : nd_V M (nd_rm d) post 0 0 (pc + 3) ls (.int z.1 :: st) sh z.2) : nd_V M (nd_rm d) post 0 0 pc ls st0 sh σ := by
  subst hst
  obtain ⟨h1, h2, h3, h4, T, k, h5⟩ := hc
  refine nd_callV hd h1 h2 h3 h4 h5 he hR hcat (Or.inl rfl) (Nat.le_refl _) (Nat.le_refl _) hL hF (nd_sz0 (fun _ _ _ h => h.2.1)) (fun r sh' σ' hp _ => ?_)
  obtain ⟨rfl, rfl, rfl⟩ := hp
  exact kk
theorem nd_cvv {b ci : Nat} {fs : List (Int32 → Value)} {st0 : List Value} (as st : List Value) (hd : decode M.2.1 pc = .ok (.invokevirtual idx, 3)) (hc : nd_cv M.1.cls idx N as.length ci) (he : sh[b]? = some (.inl (ci, fs))) (hR : nd_roomN N (nd_rm e) (nd_rm d)) (hst : as.reverse ++ .ref b :: st = st0) (hcat : (st.map (fun v => v.category)).sum ≤ 8) (hL : sh.length < nd_ro) (hF : nd_Fn N (nd_rm e) (.ref b :: as) sh σ (nd_Pv sh z)) (kk : nd_V M (nd_rm d) post 0 0 (pc + 3) ls st sh z.2) : nd_V M (nd_rm d) post 0 0 pc ls st0 sh σ := by
  subst hst
  obtain ⟨h1, h2, h3, h4, T, k, h5⟩ := hc
  refine nd_callV hd h1 h2 h3 h4 h5 he hR hcat (Or.inl rfl) (Nat.le_refl _) (Nat.le_refl _) hL hF (nd_sz0 (fun _ _ _ h => h.2.1)) (fun r sh' σ' hp _ => ?_)
  obtain ⟨rfl, rfl, rfl⟩ := hp
  exact kk
theorem nd_cti {i : Nat} {st0 : List Value} (as st : List Value) (hi : i < 5) (hd : decode M.2.1 pc = .ok (.invokevirtual idx, 3)) (hc : nd_ct M.1.cls idx N as.length) (hR : nd_roomN N (nd_rm e) (nd_rm d)) (hst : as.reverse ++ .ref (1000001 + i) :: st = st0) (hcat : (st.map (fun v => v.category)).sum ≤ 8) (hL : sh.length < nd_ro) (hF : nd_Fn N (nd_rm e) (.ref (1000001 + i) :: as) sh σ (nd_Pi sh z)) (kk : nd_V M (nd_rm d) post 0 0 (pc + 3) ls (.int z.1 :: st) sh z.2) : nd_V M (nd_rm d) post 0 0 pc ls st0 sh σ := by
  subst hst
  obtain ⟨h1, h2, h3, h4, h5⟩ := hc
  refine nd_callT hi hd h1 h2 h3 h4 h5 hR hcat (Or.inl rfl) (Nat.le_refl _) (Nat.le_refl _) hL hF (nd_sz0 (fun _ _ _ h => h.2.1)) (fun r sh' σ' hp _ => ?_)
  obtain ⟨rfl, rfl, rfl⟩ := hp
  exact kk
end ND_G
theorem nd_lookD {dflt : Int} {x : Int32} : ∀ ps : List (Int × Int), (∀ q ∈ ps, x ≠ Int32.ofInt q.1) → Op.lookupswitch.offset ps dflt x.toInt = dflt := by
  intro ps
  induction ps with
  | nil => intro _; rfl
  | cons q r ih =>
    intro h
    obtain ⟨a, o⟩ := q
    rw [Op.lookupswitch.offset_cons, if_neg, ih (fun q hq => h q (List.mem_cons_of_mem _ hq))]
    intro e
    exact h (a, o) List.mem_cons_self (by rw [e]; exact (Int32.ofInt_toInt x).symm)
theorem nd_ti {i : Nat} {w : Cond} (h : tables_1[i]? = some w) (hg : goodWord w = true) : w ∈ nd_tbl := nd_tbl_of (List.mem_append_right _ (List.mem_of_getElem? h)) hg
theorem nd_tp {i : Nat} {w : Cond} (h : (k2_sels lw_privs)[i]? = some w) (hg : goodWord w = true) : w ∈ nd_tbl := nd_tbl_of (List.mem_append_left _ (List.mem_of_getElem? h)) hg
theorem nd_tn {i : Nat} {w : Cond} (h : tables_1[i]? = some w) (hg : nd_isNest w = true) : w ∈ nd_nest := List.mem_filter.mpr ⟨List.mem_append_right _ (List.mem_of_getElem? h), hg⟩
