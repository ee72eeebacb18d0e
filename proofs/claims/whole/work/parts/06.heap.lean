section ND_H
variable {M : nd_M} {R : Room} {post : nd_Post} {kc ks pc : Nat} {ls : List (Nat × Value)} {st : List Value} {sh : List nd_S} {σ : nd_Mem}
theorem nd_get {idx ci k i : Nat} {fs : List (Int32 → Value)} {x : Int32 → Value} (hd : decode M.2.1 pc = .ok (.getfield idx, 3)) (hg : nd_gf M.1.cls idx ci k) (he : sh[i]? = some (.inl (ci, fs))) (hv : fs[k]? = some x) (kk : nd_V M R post kc ks (pc + 3) ls (x (σ i k) :: st) sh σ) : nd_V M R post kc ks pc ls (.ref i :: st) sh σ := by
  intro l p e s m args below meth c g ad A Q hf hr H locs la hz hI hS hl
  obtain ⟨C, T, N, hc, hk, hl2⟩ := hg
  have hw := nd_world_get (ad := ad) (g := g) (σ := σ) he
  have hx : (fs.mapIdx (fun k g => nd_v ad (g (σ i k))))[k]? = some (nd_v ad (x (σ i k))) := by rw [List.getElem?_mapIdx, hv]; rfl
  rcases hl2 with h | ⟨host, h⟩
  · exact va_get hf.1 hf.2.1 hf.2.2.2.2.1 (nd_clOK hc).1 hf.2.2.2.1 hf.2.2.2.2.2.2.1 hI.1 i hw hc k hk (hf.2.2.2.2.1 _ h) (fun _ h9 => h9) hx hd (kk l p e s m args below meth c g ad A Q hf hr H locs la hz hI hS hl)
  · exact va_getN hf.1 hf.2.1 hf.2.2.2.2.1 (nd_clOK hc).1 hf.2.2.2.1 hf.2.2.2.2.2.2.1 hI.1 i hw hc k hk (va_Nw.use rfl (hf.2.2.2.2.2.1 _ h)) (fun _ h9 => h9) hx hd (kk l p e s m args below meth c g ad A Q hf hr H locs la hz hI hS hl)
theorem nd_put0 {idx ci k i : Nat} {fs : List (Int32 → Value)} {e' : nd_S} {σ' : nd_Mem} {v : Value} {ty : FieldType} {fin : Bool} (hd : decode M.2.1 pc = .ok (.putfield idx, 3)) (hg : nd_pf M.1.cls idx ci k ty fin) (hfin : fin = true → M.1.name = "<init>") (he : sh[i]? = some (.inl (ci, fs))) (hk0 : k < fs.length) (hn : ∀ ad : Nat → Nat, narrow ty (nd_v ad v) = nd_v ad v) (hfit : ∀ ad : Nat → Nat, fits ty (nd_v ad v) = true)
    (hx : ∀ (ad : Nat → Nat) (cI cS : ClassId), nd_cell ad cI cS (σ' i) e' = .inr (ci, (fs.mapIdx (fun k g => nd_v ad (g (σ i k)))).set k (nd_v ad v))) (ho : ∀ a : Nat, a ≠ i → σ' a = σ a)
    (kk : nd_V M R post kc ks (pc + 3) ls st (sh.set i e') σ') : nd_V M R post kc ks pc ls (v :: .ref i :: st) sh σ := by
  intro l p e s m args below meth c g ad A Q hf hr H locs la hz hI hS hl
  obtain ⟨C, T, N, hc, hk, hl2, hT, hd2, hdecl⟩ := hg
  have hw := nd_world_get (ad := ad) (g := g) (σ := σ) he
  have hz2 : k < (fs.mapIdx (fun k g => nd_v ad (g (σ i k)))).length := by rw [List.length_mapIdx]; exact hk0
  have key : ∀ (H1 : Heap) (locs1 : List Loc), va_P g.1 nd_cl ((nd_world ad g sh σ).set i (ad i, .inr (ci, (fs.mapIdx (fun k g => nd_v ad (g (σ i k)))).set k (nd_v ad v)))) H1 → va_D A ((nd_world ad g sh σ).set i (ad i, .inr (ci, (fs.mapIdx (fun k g => nd_v ad (g (σ i k)))).set k (nd_v ad v)))) → va_S A s.heap H1 locs1 → W p l e R s m args below meth c H1 locs1 kc ks Q (F0 m (pc + 3) la (st.map (nd_v ad))) := by
    intro H1 locs1 hP hD hS1
    rw [← nd_world_set (hx ad g.2.1 g.2.2) ho] at hP hD
    exact kk l p e s m args below meth c g ad A Q hf hr H1 locs1 la (by rw [List.length_set]; exact hz) ⟨hP, hD⟩ hS1 hl
  cases fin with
  | false =>
    rcases hl2 with h | ⟨-, host, h⟩
    · exact va_put hf.1 hf.2.1 hf.2.2.2.2.1 (nd_clOK hc).1 (nd_ty T) (nd_tyOK hc) (nd_clOK hc).2.2 hf.2.2.2.1 hf.2.2.2.2.2.2.1 hI.1 hI.2 hS i hw hc k hk (hf.2.2.2.2.1 _ h) (fun _ h9 => h9) hT hd2 (hn ad) (hfit ad) hz2 hd key
    · exact va_putN hf.1 hf.2.1 hf.2.2.2.2.1 (nd_clOK hc).1 (nd_ty T) (nd_tyOK hc) (nd_clOK hc).2.2 hf.2.2.2.1 hf.2.2.2.2.2.2.1 hI.1 hI.2 hS i hw hc k hk (va_Nw.use rfl (hf.2.2.2.2.2.1 _ h)) (fun _ h9 => h9) hT hd2 (hn ad) (hfit ad) hz2 hd key
  | true =>
    rcases hl2 with h | ⟨hb, -⟩
    · exact va_putF hf.1 hf.2.1 hf.2.2.2.2.1 (nd_clOK hc).1 (nd_ty T) (nd_tyOK hc) (nd_clOK hc).2.2 hf.2.2.2.1 hf.2.2.2.2.2.2.1 hI.1 hI.2 hS i hw hc k hk (hf.2.2.2.2.1 _ h) (fun _ h9 => h9) hT (hf.2.2.2.2.2.2.2.2.2.1.trans (hfin rfl)) (hdecl rfl) hd2 (hn ad) (hfit ad) hz2 hd key
    · exact absurd hb (by decide)
theorem nd_mapset {ad : Nat → Nat} {f : Nat → Int32} {fs : List (Int32 → Value)} {k : Nat} {x : Int32} {y : Int32 → Value} (hv : fs[k]? = some y) : fs.mapIdx (fun j g => nd_v ad (g (upd f k x j))) = (fs.mapIdx (fun j g => nd_v ad (g (f j)))).set k (nd_v ad (y x)) := by
  apply List.ext_getElem?
  intro j
  have hl := (List.getElem?_eq_some_iff.mp hv).1
  rw [List.getElem?_mapIdx, List.getElem?_set]
  by_cases hj : k = j
  · subst hj
    rw [if_pos rfl, if_pos (by rw [List.length_mapIdx]; exact hl), hv]
    simp [upd]
  · rw [if_neg hj, List.getElem?_mapIdx]
    have : upd f k x j = f j := by simp [upd, Ne.symm hj]
    rw [this]
theorem nd_mapset2 {ad : Nat → Nat} {f : Nat → Int32} {fs : List (Int32 → Value)} {k : Nat} {v : Value} : (fs.set k (fun _ => v)).mapIdx (fun j g => nd_v ad (g (f j))) = (fs.mapIdx (fun j g => nd_v ad (g (f j)))).set k (nd_v ad v) := by
  apply List.ext_getElem?
  intro j
  rw [List.getElem?_mapIdx, List.getElem?_set, List.getElem?_set]
  by_cases hj : k = j
  · subst hj
    rw [if_pos rfl, if_pos rfl, List.length_mapIdx]
    by_cases hl : k < fs.length
    · rw [if_pos hl, if_pos hl]; rfl
    · rw [if_neg hl, if_neg hl]; rfl
  · rw [if_neg hj, if_neg hj, List.getElem?_mapIdx]
/-- a field that is read off the memory gets the memory's number x, which stands for v -/
theorem nd_putx {idx ci k i : Nat} {fs : List (Int32 → Value)} {y : Int32 → Value} {v : Value} {x : Int32} {ty : FieldType} {fin : Bool} (hd : decode M.2.1 pc = .ok (.putfield idx, 3)) (hg : nd_pf M.1.cls idx ci k ty fin) (hfin : fin = true → M.1.name = "<init>") (he : sh[i]? = some (.inl (ci, fs))) (hv : fs[k]? = some y) (hy : y x = v) (hn : ∀ ad : Nat → Nat, narrow ty (nd_v ad v) = nd_v ad v) (hfit : ∀ ad : Nat → Nat, fits ty (nd_v ad v) = true)
    (kk : nd_V M R post kc ks (pc + 3) ls st sh (nd_up σ i k x)) : nd_V M R post kc ks pc ls (v :: .ref i :: st) sh σ := by
  refine nd_put0 (e' := .inl (ci, fs)) (σ' := nd_up σ i k x) hd hg hfin he (List.getElem?_eq_some_iff.mp hv).1 hn hfit (fun ad cI cS => ?_) (fun a ha => nd_up_ne ha) (by rw [nd_set_self he]; exact kk)
  rw [nd_up_at]
  show Sum.inr (ci, fs.mapIdx (fun j g => nd_v ad (g (upd (σ i) k x j)))) = _
  rw [← hy, nd_mapset hv]
theorem nd_puti {idx ci k i : Nat} {fs : List (Int32 → Value)} {x : Int32} (hd : decode M.2.1 pc = .ok (.putfield idx, 3)) (hg : nd_pf M.1.cls idx ci k .int false) (he : sh[i]? = some (.inl (ci, fs))) (hv : fs[k]? = some Value.int)
    (kk : nd_V M R post kc ks (pc + 3) ls st sh (nd_up σ i k x)) : nd_V M R post kc ks pc ls (.int x :: .ref i :: st) sh σ := nd_putx hd hg (fun h => absurd h (by decide)) he hv rfl (fun _ => vp_nar_int x) (fun _ => rfl) kk
/-- a boolean -/
def nd_z (x : Int32) : Prop := x = 0 ∨ x = 1
theorem nd_putz {idx ci k i : Nat} {fs : List (Int32 → Value)} {x : Int32} {fin : Bool} (hd : decode M.2.1 pc = .ok (.putfield idx, 3)) (hg : nd_pf M.1.cls idx ci k .boolean fin) (hfin : fin = true → M.1.name = "<init>") (he : sh[i]? = some (.inl (ci, fs))) (hv : fs[k]? = some Value.int) (hx : nd_z x)
    (kk : nd_V M R post kc ks (pc + 3) ls st sh (nd_up σ i k x)) : nd_V M R post kc ks pc ls (.int x :: .ref i :: st) sh σ := nd_putx hd hg hfin he hv rfl (fun _ => by rcases hx with rfl | rfl <;> rfl) (fun _ => by rcases hx with rfl | rfl <;> rfl) kk
/-- a reference that stays: the shape takes it -/
theorem nd_putr {idx ci k i : Nat} {fs : List (Int32 → Value)} {v : Value} {ty : FieldType} {fin : Bool} (hd : decode M.2.1 pc = .ok (.putfield idx, 3)) (hg : nd_pf M.1.cls idx ci k ty fin) (hfin : fin = true → M.1.name = "<init>") (he : sh[i]? = some (.inl (ci, fs))) (hk : k < fs.length) (hn : ∀ ad : Nat → Nat, narrow ty (nd_v ad v) = nd_v ad v) (hfit : ∀ ad : Nat → Nat, fits ty (nd_v ad v) = true)
    (kk : nd_V M R post kc ks (pc + 3) ls st (sh.set i (.inl (ci, fs.set k (fun _ => v)))) σ) : nd_V M R post kc ks pc ls (v :: .ref i :: st) sh σ := by
  refine nd_put0 (e' := .inl (ci, fs.set k (fun _ => v))) (σ' := σ) hd hg hfin he hk hn hfit (fun ad cI cS => ?_) (fun a ha => rfl) kk
  show Sum.inr (ci, (fs.set k (fun _ => v)).mapIdx (fun j g => nd_v ad (g (σ i j)))) = _
  rw [nd_mapset2]
theorem nd_iaload {i n : Nat} {j : Int32} (hd : decode M.2.1 pc = .ok (.iaload, 1)) (he : sh[i]? = some (.inr (.inl n))) (hin : vp_in j n) (kk : nd_V M R post kc ks (pc + 1) ls (.int (σ i j.toNatClampNeg) :: st) sh σ) : nd_V M R post kc ks pc ls (.int j :: .ref i :: st) sh σ := by
  intro l p e s m args below meth c g ad A Q hf hr H locs la hz hI hS hl
  exact va_iald hf.1 hf.2.1 hf.2.2.2.2.2.2.1 hI.1 i 0 (nd_world_get he) rfl hin hd (kk l p e s m args below meth c g ad A Q hf hr H locs la hz hI hS hl)
theorem nd_iastore {i n : Nat} {j x : Int32} (hd : decode M.2.1 pc = .ok (.iastore, 1)) (he : sh[i]? = some (.inr (.inl n))) (hin : vp_in j n) (kk : nd_V M R post kc ks (pc + 1) ls st sh (nd_up σ i j.toNatClampNeg x)) : nd_V M R post kc ks pc ls (.int x :: .int j :: .ref i :: st) sh σ := by
  intro l p e s m args below meth c g ad A Q hf hr H locs la hz hI hS hl
  refine va_iast hf.1 hf.2.1 hf.2.2.2.2.2.2.1 hI.1 hI.2 hS i 0 (nd_world_get he) rfl hin hd (fun H1 locs1 hP hD hS1 => ?_)
  have e1 := nd_world_set (ad := ad) (g := g) (sh := sh) (σ := σ) (σ' := nd_up σ i j.toNatClampNeg x) (i := i) (e' := .inr (.inl n)) (x := .inl (g.2.1, n, .inl (upd (σ i) j.toNatClampNeg x))) (by rw [nd_up_at]; rfl) (fun a ha => nd_up_ne ha)
  rw [nd_set_self he] at e1
  rw [← e1] at hP hD
  exact kk l p e s m args below meth c g ad A Q hf hr H1 locs1 la hz ⟨hP, hD⟩ hS1 hl
theorem nd_alen {i n : Nat} {v : Int32} (hd : decode M.2.1 pc = .ok (.arraylength, 1)) (he : sh[i]? = some (.inr (.inl n))) (hv : Int32.ofNat n = v) (kk : nd_V M R post kc ks (pc + 1) ls (.int v :: st) sh σ) : nd_V M R post kc ks pc ls (.ref i :: st) sh σ := by
  intro l p e s m args below meth c g ad A Q hf hr H locs la hz hI hS hl
  exact va_alen hf.1 hf.2.1 hf.2.2.2.2.2.2.1 hI.1 i 0 (nd_world_get he) (ty := .int) rfl hv hd (kk l p e s m args below meth c g ad A Q hf hr H locs la hz hI hS hl)
theorem nd_aaload {i n : Nat} {f : Nat → Option Nat} {j : Int32} {k : Nat} (hd : decode M.2.1 pc = .ok (.aaload, 1)) (he : sh[i]? = some (.inr (.inr (n, f)))) (hin : vp_in j n) (hk : f j.toNatClampNeg = some k) (kk : nd_V M R post kc ks (pc + 1) ls (.ref k :: st) sh σ) : nd_V M R post kc ks pc ls (.int j :: .ref i :: st) sh σ := by
  intro l p e s m args below meth c g ad A Q hf hr H locs la hz hI hS hl
  refine va_aldq hf.1 hf.2.1 hf.2.2.2.2.2.2.1 hI.1 i 1 (nd_world_get he) rfl hin hd ?_
  have e1 : va_rf ((f j.toNatClampNeg).map ad) = .ref (ad k) := by rw [hk]; rfl
  rw [e1]
  exact kk l p e s m args below meth c g ad A Q hf hr H locs la hz hI hS hl
theorem nd_lcmp {x y : Int64} (hd : decode M.2.1 pc = .ok (.lcmp, 1)) (kk : nd_V M R post kc ks (pc + 1) ls (.int (lg_cmp x y) :: st) sh σ) : nd_V M R post kc ks pc ls (.long y :: .long x :: st) sh σ := by
  intro l p e s m args below meth c g ad A Q hf hr H locs la hz hI hS hl
  exact W.lcmp hf.1 hf.2.1 hd (kk l p e s m args below meth c g ad A Q hf hr H locs la hz hI hS hl)
theorem nd_cats (ad : Nat → Nat) (st : List Value) : ((st.map (nd_v ad)).map (fun v => v.category)).sum = (st.map (fun v => v.category)).sum := by
  rw [List.map_map]
  congr 1
  exact List.map_congr_left (fun v _ => nd_cat ad v)
theorem nd_max {idx : Nat} {x y : Int32} (hd : decode M.2.1 pc = .ok (.invokestatic idx, 3)) (h1 : Cond.methodLink M.1.cls idx Lib.Math.max.name ∈ nd_tbl) (h2 : Cond.static Lib.Math.max.name ∈ nd_tbl) (h3 : Cond.initialized "java/lang/Math" ∈ nd_tbl) (h4 : Cond.code Lib.Math.max.name Lib.Math.max.code 2 (some .int) ∈ nd_tbl) (hR : 1 ≤ R.frames ∧ 21 ≤ R.locals) (hc : kc ≤ R.cells) (hs : ks ≤ R.slots) (hst : (st.map (fun v => v.category)).sum ≤ 8) (kk : nd_V M R post kc ks (pc + 3) ls (.int (if x < y then y else x) :: st) sh σ) : nd_V M R post kc ks pc ls (.int y :: .int x :: st) sh σ := by
  intro l p e s m args below meth c g ad A Q hf hr H locs la hz hI hS hl
  exact va_mmax hf.1 hf.2.1 (hf.2.2.1.trans hl.1.symm) hf.2.2.2.1 (hf.2.2.2.2.1 _ h1) (hf.2.2.2.2.1 _ h2) (hf.2.2.2.2.1 _ h3) (hf.2.2.2.2.1 _ h4) hR.1 (by rw [nd_cats]; omega) hc hs hd (kk l p e s m args below meth c g ad A Q hf hr H locs la hz hI hS hl)
theorem nd_min {idx : Nat} {x y : Int32} (hd : decode M.2.1 pc = .ok (.invokestatic idx, 3)) (h1 : Cond.methodLink M.1.cls idx Lib.Math.min.name ∈ nd_tbl) (h2 : Cond.static Lib.Math.min.name ∈ nd_tbl) (h3 : Cond.initialized "java/lang/Math" ∈ nd_tbl) (h4 : Cond.code Lib.Math.min.name Lib.Math.min.code 2 (some .int) ∈ nd_tbl) (hR : 1 ≤ R.frames ∧ 21 ≤ R.locals) (hc : kc ≤ R.cells) (hs : ks ≤ R.slots) (hst : (st.map (fun v => v.category)).sum ≤ 8) (kk : nd_V M R post kc ks (pc + 3) ls (.int (if y < x then y else x) :: st) sh σ) : nd_V M R post kc ks pc ls (.int y :: .int x :: st) sh σ := by
  intro l p e s m args below meth c g ad A Q hf hr H locs la hz hI hS hl
  exact va_mmin hf.1 hf.2.1 (hf.2.2.1.trans hl.1.symm) hf.2.2.2.1 (hf.2.2.2.2.1 _ h1) (hf.2.2.2.2.1 _ h2) (hf.2.2.2.2.1 _ h3) (hf.2.2.2.2.1 _ h4) hR.1 (by rw [nd_cats]; omega) hc hs hd (kk l p e s m args below meth c g ad A Q hf hr H locs la hz hI hS hl)
/-- System.arraycopy between rows of ints -/
theorem nd_copy {idx i0 i1 n0 n1 : Nat} {sp dp n : Int32} (hd : decode M.2.1 pc = .ok (.invokestatic idx, 3)) (h1 : Cond.methodLink M.1.cls idx arraycopyName ∈ nd_tbl) (h2 : Cond.native arraycopyName ∈ nd_tbl) (h3 : Cond.static arraycopyName ∈ nd_tbl) (h4 : Cond.initialized "java/lang/System" ∈ nd_tbl) (he0 : sh[i0]? = some (.inr (.inl n0))) (he1 : sh[i1]? = some (.inr (.inl n1)))
    (hs1 : ¬ sp < 0) (hs2 : ¬ dp < 0) (hs3 : ¬ n < 0) (hs4 : sp.toNatClampNeg + n.toNatClampNeg ≤ n0) (hs5 : dp.toNatClampNeg + n.toNatClampNeg ≤ n1) (hR : 1 ≤ R.frames ∧ 8 + (nativeFrameWords "java/lang/System" "arraycopy" 5 + 11) ≤ R.locals) (hst : (st.map (fun v => v.category)).sum ≤ 8)
    (kk : nd_V M R post kc ks (pc + 3) ls st sh (nd_row σ i1 (va_cpy (σ i0) (σ i1) sp.toNatClampNeg dp.toNatClampNeg n.toNatClampNeg))) : nd_V M R post kc ks pc ls (.int n :: .int dp :: .ref i1 :: .int sp :: .ref i0 :: st) sh σ := by
  intro l p e s m args below meth c g ad A Q hf hr H locs la hz hI hS hl
  refine va_copyi hf.1 hf.2.1 (hf.2.2.1.trans hl.1.symm) hf.2.2.2.1 (hf.2.2.2.2.1 _ h1) (hf.2.2.2.2.1 _ h2) (hf.2.2.2.2.1 _ h3) (hf.2.2.2.2.1 _ h4) hf.2.2.2.2.2.2.1 hI.1 hI.2 hS i0 i1 0 0 (nd_world_get he0) (nd_world_get he1) (ty := .int) rfl rfl rfl hs1 hs2 hs3 hs4 hs5 (fun _ _ => rfl) hR.1 (by rw [nd_cats]; omega) hd (fun H1 locs1 hP hD hS1 => ?_)
  have e1 := nd_world_set (ad := ad) (g := g) (sh := sh) (σ := σ) (σ' := nd_row σ i1 (va_cpy (σ i0) (σ i1) sp.toNatClampNeg dp.toNatClampNeg n.toNatClampNeg)) (i := i1) (e' := .inr (.inl n1)) (x := .inl (g.2.1, n1, .inl (va_cpy (σ i0) (σ i1) sp.toNatClampNeg dp.toNatClampNeg n.toNatClampNeg))) (by rw [nd_row_at]; rfl) (fun a ha => nd_row_ne ha)
  rw [nd_set_self he1] at e1
  rw [← e1] at hP hD
  exact kk l p e s m args below meth c g ad A Q hf hr H1 locs1 la hz ⟨hP, hD⟩ hS1 hl
/-! cells that were there before -/
theorem nd_getsM {idx : Nat} (hd : decode M.2.1 pc = .ok (.getstatic idx, 3)) (h1 : Cond.fieldLink M.1.cls idx "NextDoorBrides" "MOST_OF" "[I" ∈ nd_tbl ∨ ∃ host, Cond.fieldLinkNest M.1.cls idx "NextDoorBrides" "MOST_OF" "[I" host ∈ nd_nest) (kk : nd_V M R post kc ks (pc + 3) ls (.ref nd_ro :: st) sh σ) : nd_V M R post kc ks pc ls st sh σ := by
  intro l p e s m args below meth c g ad A Q hf hr H locs la hz hI hS hl
  rcases h1 with h | ⟨host, h⟩
  · exact va_gets hf.1 hf.2.1 hf.2.2.2.2.2.2.2.2.1.1 hS hf.2.2.2.1 (hf.2.2.2.2.1 _ h) (fun _ h9 => h9) hd (kk l p e s m args below meth c g ad A Q hf hr H locs la hz hI hS hl)
  · exact va_getsN hf.1 hf.2.1 hf.2.2.2.2.2.2.2.2.1.1 hS hf.2.2.2.1 (va_Nw.use rfl (hf.2.2.2.2.2.1 _ h)) (fun _ h9 => h9) hd (kk l p e s m args below meth c g ad A Q hf hr H locs la hz hI hS hl)
theorem nd_alenM {v : Int32} (hd : decode M.2.1 pc = .ok (.arraylength, 1)) (hv : (5 : Int32) = v) (kk : nd_V M R post kc ks (pc + 1) ls (.int v :: st) sh σ) : nd_V M R post kc ks pc ls (.ref nd_ro :: st) sh σ := by
  intro l p e s m args below meth c g ad A Q hf hr H locs la hz hI hS hl
  exact va_tlen hf.1 hf.2.1 hf.2.2.2.2.2.2.2.2.1.2.1 hS (v := v) (by rw [← hv]; rfl) hd (kk l p e s m args below meth c g ad A Q hf hr H locs la hz hI hS hl)
theorem nd_ialoadM {j : Int32} (hd : decode M.2.1 pc = .ok (.iaload, 1)) (hin : vp_in j 5) (kk : nd_V M R post kc ks (pc + 1) ls (.int (nd_mo j.toNatClampNeg) :: st) sh σ) : nd_V M R post kc ks pc ls (.int j :: .ref nd_ro :: st) sh σ := by
  intro l p e s m args below meth c g ad A Q hf hr H locs la hz hI hS hl
  exact va_ti hf.1 hf.2.1 hf.2.2.2.2.2.2.2.2.1.2.1 hS hin rfl hd (kk l p e s m args below meth c g ad A Q hf hr H locs la hz hI hS hl)
theorem nd_slen {L : Nat} {xs : Nat → Int32} {v : Int32} (hd : decode M.2.1 pc = .ok (.arraylength, 1)) (hM : M.2.2.2.2 = some (L, xs)) (hv : Int32.ofNat L = v) (kk : nd_V M R post kc ks (pc + 1) ls (.int v :: st) sh σ) : nd_V M R post kc ks pc ls (.ref nd_scr :: st) sh σ := by
  intro l p e s m args below meth c g ad A Q hf hr H locs la hz hI hS hl
  obtain ⟨h1, h2, h3⟩ := hf.2.2.2.2.2.2.2.2.2.2.1 _ hM
  subst hv
  exact va_slen hf.1 hf.2.1 h1 h2 h3 hS hd (kk l p e s m args below meth c g ad A Q hf hr H locs la hz hI hS hl)
theorem nd_sload {L : Nat} {xs : Nat → Int32} {j : Int32} (hd : decode M.2.1 pc = .ok (.iaload, 1)) (hM : M.2.2.2.2 = some (L, xs)) (hin : vp_in j L) (kk : nd_V M R post kc ks (pc + 1) ls (.int (xs j.toNatClampNeg) :: st) sh σ) : nd_V M R post kc ks pc ls (.int j :: .ref nd_scr :: st) sh σ := by
  intro l p e s m args below meth c g ad A Q hf hr H locs la hz hI hS hl
  obtain ⟨h1, h2, h3⟩ := hf.2.2.2.2.2.2.2.2.2.2.1 _ hM
  exact va_sld hf.1 hf.2.1 h1 h2 h3 hS hin hd (kk l p e s m args below meth c g ad A Q hf hr H locs la hz hI hS hl)
theorem nd_getsC {idx : Nat} (hd : decode M.2.1 pc = .ok (.getstatic idx, 3)) (h1 : Cond.fieldLink M.1.cls idx "java/lang/String" "COMPACT_STRINGS" "Z" ∈ nd_tbl) (kk : nd_V M R post kc ks (pc + 3) ls (.int 1 :: st) sh σ) : nd_V M R post kc ks pc ls st sh σ := by
  intro l p e s m args below meth c g ad A Q hf hr H locs la hz hI hS hl
  exact va_gets hf.1 hf.2.1 hf.2.2.2.2.2.2.2.2.1.2.2.1.1 hS hf.2.2.2.1 (hf.2.2.2.2.1 _ h1) (fun _ h9 => h9) hd (kk l p e s m args below meth c g ad A Q hf hr H locs la hz hI hS hl)
theorem nd_getsF {idx : Nat} (hd : decode M.2.1 pc = .ok (.getstatic idx, 3)) (h1 : Cond.fieldLink M.1.cls idx "jdk/internal/util/Preconditions" "SIOOBE_FORMATTER" "Ljava/util/function/BiFunction;" ∈ nd_tbl) (kk : ∀ w : Value, w = .null ∨ w = .ref 1000030 → nd_V M R post kc ks (pc + 3) ls (w :: st) sh σ) : nd_V M R post kc ks pc ls st sh σ := by
  intro l p e s m args below meth c g ad A Q hf hr H locs la hz hI hS hl
  obtain ⟨w, hw, hZ⟩ := hf.2.2.2.2.2.2.2.2.1.2.2.1.2
  exact va_gets hf.1 hf.2.1 hZ hS hf.2.2.2.1 (hf.2.2.2.2.1 _ h1) (fun _ h9 => h9) hd (kk w hw l p e s m args below meth c g ad A Q hf hr H locs la hz hI hS hl)
theorem nd_ldcS {idx : Nat} (i : Nat) (hi : i < 5) (hd : decode M.2.1 pc = .ok (.ldc idx, 2)) (hM : M.1.cls = "NextDoorBrides$Reader") (hx : nd_px.getD i 0 = idx) (kk : nd_V M R post kc ks (pc + 2) ls (.ref (1000001 + i) :: st) sh σ) : nd_V M R post kc ks pc ls st sh σ := by
  intro l p e s m args below meth c g ad A Q hf hr H locs la hz hI hS hl
  have h := hf.2.2.2.2.2.2.2.2.1.2.2.2.2.1 i hi
  rw [hx] at h
  exact va_ldcS hf.1 hf.2.1 (by rw [← hM]; exact hf.2.2.2.1) h hd (kk l p e s m args below meth c g ad A Q hf hr H locs la hz hI hS hl)
theorem nd_getSv {idx i : Nat} (hi : i < 5) (hd : decode M.2.1 pc = .ok (.getfield idx, 3)) (h1 : Cond.fieldLink M.1.cls idx "java/lang/String" "value" "[B" ∈ nd_tbl) (kk : nd_V M R post kc ks (pc + 3) ls (.ref (1000006 + i) :: st) sh σ) : nd_V M R post kc ks pc ls (.ref (1000001 + i) :: st) sh σ := by
  intro l p e s m args below meth c g ad A Q hf hr H locs la hz hI hS hl
  exact vk_getf hf.1 hf.2.1 (hf.2.2.2.2.2.2.2.2.1.2.2.2.1.1 i hi).2.2.1 hS hf.2.2.2.1 (hf.2.2.2.2.1 _ h1) (fun _ h9 => h9) hd (kk l p e s m args below meth c g ad A Q hf hr H locs la hz hI hS hl)
theorem nd_getSc {idx i : Nat} (hi : i < 5) (hd : decode M.2.1 pc = .ok (.getfield idx, 3)) (h1 : Cond.fieldLink M.1.cls idx "java/lang/String" "coder" "B" ∈ nd_tbl) (kk : nd_V M R post kc ks (pc + 3) ls (.int 0 :: st) sh σ) : nd_V M R post kc ks pc ls (.ref (1000001 + i) :: st) sh σ := by
  intro l p e s m args below meth c g ad A Q hf hr H locs la hz hI hS hl
  exact vk_getf hf.1 hf.2.1 (hf.2.2.2.2.2.2.2.2.1.2.2.2.1.1 i hi).2.1 hS hf.2.2.2.1 (hf.2.2.2.2.1 _ h1) (fun _ h9 => h9) hd (kk l p e s m args below meth c g ad A Q hf hr H locs la hz hI hS hl)
theorem nd_alenS {i : Nat} {v : Int32} (hi : i < 5) (hd : decode M.2.1 pc = .ok (.arraylength, 1)) (hv : Int32.ofNat (nd_ln.getD i 0) = v) (kk : nd_V M R post kc ks (pc + 1) ls (.int v :: st) sh σ) : nd_V M R post kc ks pc ls (.ref (1000006 + i) :: st) sh σ := by
  intro l p e s m args below meth c g ad A Q hf hr H locs la hz hI hS hl
  exact va_tlen hf.1 hf.2.1 (hf.2.2.2.2.2.2.2.2.1.2.2.2.1.1 i hi).2.2.2 hS hv hd (kk l p e s m args below meth c g ad A Q hf hr H locs la hz hI hS hl)
theorem nd_baload {i : Nat} {j : Int32} (hi : i < 5) (hd : decode M.2.1 pc = .ok (.baload, 1)) (hin : vp_in j (nd_ln.getD i 0)) (kk : nd_V M R post kc ks (pc + 1) ls (.int ((nd_by.getD i []).getD j.toNatClampNeg 0) :: st) sh σ) : nd_V M R post kc ks pc ls (.int j :: .ref (1000006 + i) :: st) sh σ := by
  intro l p e s m args below meth c g ad A Q hf hr H locs la hz hI hS hl
  exact va_tb hf.1 hf.2.1 (hf.2.2.2.2.2.2.2.2.1.2.2.2.1.1 i hi).2.2.2 hS hin rfl hd (kk l p e s m args below meth c g ad A Q hf hr H locs la hz hI hS hl)
/-! the end of a method -/
theorem nd_ret {r : Option Value} (hd : decode M.2.1 pc = .ok ((match r with | none => .return_ | some (.int _) => .ireturn | some _ => .areturn), 1)) (hk : kc ≤ R.cells) (hs : ks ≤ R.slots) (hok : nd_okr M.2.2.2.1 r) (hp : post r sh σ) : nd_V M R post kc ks pc ls r.toList sh σ := by
  intro l p e s m args below meth c g ad A Q hf hr H locs la hz hI hS hl
  exact W.widen hk hs (hr r sh σ H locs la pc hp hok hI hS hd)
theorem nd_iret {v : Int32} (hd : decode M.2.1 pc = .ok (.ireturn, 1)) (hk : kc ≤ R.cells) (hs : ks ≤ R.slots) (hok : nd_okr M.2.2.2.1 (some (.int v))) (hp : post (some (.int v)) sh σ) : nd_V M R post kc ks pc ls [.int v] sh σ := nd_ret (r := some (.int v)) hd hk hs hok hp
theorem nd_vret (hd : decode M.2.1 pc = .ok (.return_, 1)) (hk : kc ≤ R.cells) (hs : ks ≤ R.slots) (hok : nd_okr M.2.2.2.1 none) (hp : post none sh σ) : nd_V M R post kc ks pc ls [] sh σ := nd_ret (r := none) hd hk hs hok hp
theorem nd_aret {a : Nat} (hd : decode M.2.1 pc = .ok (.areturn, 1)) (hk : kc ≤ R.cells) (hs : ks ≤ R.slots) (hok : nd_okr M.2.2.2.1 (some (.ref a))) (hp : post (some (.ref a)) sh σ) : nd_V M R post kc ks pc ls [.ref a] sh σ := nd_ret (r := some (.ref a)) hd hk hs hok hp
end ND_H
