/-! constructors: the heap grows behind sh0 -/
theorem nd_ag {sh0 L : List nd_S} {b j : Nat} {e : nd_S} (hb : sh0.length = b) (h : L[j]? = some e) : (sh0 ++ L)[b + j]? = some e := by
  subst hb
  rw [List.getElem?_append_right (Nat.le_add_right _ _), Nat.add_sub_cancel_left]
  exact h
theorem nd_aset {sh0 L : List nd_S} {b j : Nat} {e : nd_S} (hb : sh0.length = b) : (sh0 ++ L).set (b + j) e = sh0 ++ L.set j e := by
  subst hb
  rw [List.set_append_right _ _ (Nat.le_add_right _ _), Nat.add_sub_cancel_left]
theorem nd_ane {sh0 L : List nd_S} (h : L ≠ []) : sh0 ++ L ≠ [] := fun e => h (List.append_eq_nil_iff.mp e).2
abbrev nd_rc (d c s : Nat) : Room := { frames := d, cells := c, slots := s, locals := 64 * d }
section ND_W
variable {M : nd_M} {R : Room} {post : nd_Post} {kc ks pc : Nat} {ls : List (Nat × Value)} {st : List Value} {sh0 L L' : List nd_S} {σ : nd_Mem} {b j : Nat} {z : Int32 × nd_Mem} {K : nd_Mem → nd_Res}
theorem nd_newG {idx ci : Nat} {fs : List (Int32 → Value)} (hd : decode M.2.1 pc = .ok (.new idx, 3)) (hn : nd_nf M.1.cls idx ci fs) (hb : sh0.length = b) (hlt : b + 300 < nd_ro) (hj : L.length = j) (hj2 : j < 250) (hne : L ≠ []) (hc : kc + 1 ≤ R.cells) (hs : ks + fs.length ≤ R.slots) (hL' : L ++ [.inl (ci, fs)] = L') (h : nd_let (nd_row σ (b + j) (fun _ => 0)) K = some z)
    (kk : ∀ σ : nd_Mem, K σ = some z → nd_V M R post (kc + 1) (ks + fs.length) (pc + 3) ls (.ref (b + j) :: st) (sh0 ++ L') σ) : nd_V M R post kc ks pc ls st (sh0 ++ L) σ := by
  have hlen : (sh0 ++ L).length = b + j := by rw [List.length_append, hb, hj]
  refine nd_new hd hn (Or.inr (nd_ane hne)) (by rw [hlen]; omega) hc hs ?_
  rw [hlen, List.append_assoc, hL']
  exact kk _ h
theorem nd_newaG {n : Int32} {k : Nat} (hd : decode M.2.1 pc = .ok (.newarray .int, 2)) (hw : Cond.arrayClass .int ∈ nd_tbl) (hn : ¬ n < 0) (hk : n.toNatClampNeg = k) (hkb : k * 4 ≤ 536870912) (hb : sh0.length = b) (hlt : b + 300 < nd_ro) (hj : L.length = j) (hj2 : j < 250) (hne : L ≠ []) (hc : kc + 1 ≤ R.cells) (hs : ks + k ≤ R.slots) (hL' : L ++ [.inr (.inl k)] = L') (h : nd_let (nd_row σ (b + j) (fun _ => 0)) K = some z)
    (kk : ∀ σ : nd_Mem, K σ = some z → nd_V M R post (kc + 1) (ks + k) (pc + 2) ls (.ref (b + j) :: st) (sh0 ++ L') σ) : nd_V M R post kc ks pc ls (.int n :: st) (sh0 ++ L) σ := by
  have hlen : (sh0 ++ L).length = b + j := by rw [List.length_append, hb, hj]
  refine nd_newa hd hw hn hk hkb (Or.inr (nd_ane hne)) (by rw [hlen]; omega) hc hs ?_
  rw [hlen, List.append_assoc, hL']
  exact kk _ h
theorem nd_anewG {idx k : Nat} {n : Int32} (hd : decode M.2.1 pc = .ok (.anewarray idx, 3)) (hw : Cond.classLink M.1.cls idx "NextDoorBrides$Street" ∈ nd_tbl) (hn : ¬ n < 0) (hk : n.toNatClampNeg = k) (hkb : k * 4 ≤ 536870912) (hb : sh0.length = b) (hlt : b + 300 < nd_ro) (hj : L.length = j) (hj2 : j < 250) (hne : L ≠ []) (hc : kc + 1 ≤ R.cells) (hs : ks + k ≤ R.slots) (hL' : L ++ [.inr (.inr (k, fun _ => none))] = L')
    (kk : nd_V M R post (kc + 1) (ks + k) (pc + 3) ls (.ref (b + j) :: st) (sh0 ++ L') σ) : nd_V M R post kc ks pc ls (.int n :: st) (sh0 ++ L) σ := by
  have hlen : (sh0 ++ L).length = b + j := by rw [List.length_append, hb, hj]
  refine nd_anew hd hw hn hk hkb (Or.inr (nd_ane hne)) (by rw [hlen]; omega) hc hs ?_
  rw [hlen, List.append_assoc, hL']
  exact kk
theorem nd_aastoreG {i n q : Nat} {f : Nat → Option Nat} {fs : List (Int32 → Value)} {x : Int32} (hd : decode M.2.1 pc = .ok (.aastore, 1)) (hb : sh0.length = b) (he : L[i]? = some (.inr (.inr (n, f)))) (hq : L[q]? = some (.inl (5, fs))) (hin : vp_in x n) (hL' : L.set i (.inr (.inr (n, va_up f x.toNatClampNeg (some (b + q))))) = L') (kk : nd_V M R post kc ks (pc + 1) ls st (sh0 ++ L') σ) : nd_V M R post kc ks pc ls (.ref (b + q) :: .int x :: .ref (b + i) :: st) (sh0 ++ L) σ := by
  refine nd_aastore hd (nd_ag hb he) (nd_ag hb hq) hin ?_
  rw [nd_aset hb, hL']
  exact kk
/-- a reference into a field: the shape takes it -/
theorem nd_putrG {idx ci k : Nat} {fs : List (Int32 → Value)} {v : Value} {ty : FieldType} {fin : Bool} (hd : decode M.2.1 pc = .ok (.putfield idx, 3)) (hg : nd_pf M.1.cls idx ci k ty fin) (hfin : fin = true → M.1.name = "<init>") (hb : sh0.length = b) (he : L[j]? = some (.inl (ci, fs))) (hk : k < fs.length) (hn : ∀ ad : Nat → Nat, narrow ty (nd_v ad v) = nd_v ad v) (hfit : ∀ ad : Nat → Nat, fits ty (nd_v ad v) = true) (hL' : L.set j (.inl (ci, fs.set k (fun _ => v))) = L')
    (kk : nd_V M R post kc ks (pc + 3) ls st (sh0 ++ L') σ) : nd_V M R post kc ks pc ls (v :: .ref (b + j) :: st) (sh0 ++ L) σ := by
  refine nd_putr hd hg hfin (nd_ag hb he) hk hn hfit ?_
  rw [nd_aset hb, hL']
  exact kk
theorem nd_mapset3 {ad : Nat → Nat} {f : Nat → Int32} {fs : List (Int32 → Value)} {k : Nat} {v : Value} {y : Int32 → Value} (hy : y (f k) = v) : (fs.set k y).mapIdx (fun j g => nd_v ad (g (f j))) = (fs.mapIdx (fun j g => nd_v ad (g (f j)))).set k (nd_v ad v) := by
  apply List.ext_getElem?
  intro j
  rw [List.getElem?_mapIdx, List.getElem?_set, List.getElem?_set]
  by_cases hj : k = j
  · subst hj
    rw [if_pos rfl, if_pos rfl, List.length_mapIdx]
    by_cases hl : k < fs.length
    · rw [if_pos hl, if_pos hl, ← hy]; rfl
    · rw [if_neg hl, if_neg hl]; rfl
  · rw [if_neg hj, if_neg hj, List.getElem?_mapIdx]
/-- a reference into a field that is read off the memory from now on -/
theorem nd_putgG {idx ci k : Nat} {fs : List (Int32 → Value)} {v : Value} {y : Int32 → Value} {ty : FieldType} {fin : Bool} {a : nd_Res} {c : Prop} {dc : Decidable c} (hd : decode M.2.1 pc = .ok (.putfield idx, 3)) (hg : nd_pf M.1.cls idx ci k ty fin) (hfin : fin = true → M.1.name = "<init>") (hb : sh0.length = b) (he : L[j]? = some (.inl (ci, fs))) (hk : k < fs.length) (hn : ∀ ad : Nat → Nat, narrow ty (nd_v ad v) = nd_v ad v) (hfit : ∀ ad : Nat → Nat, fits ty (nd_v ad v) = true) (h : (if c then none else a) = some z) (hy : ¬ c → y (σ (b + j) k) = v) (hL' : L.set j (.inl (ci, fs.set k y)) = L')
    (kk : a = some z → nd_V M R post kc ks (pc + 3) ls st (sh0 ++ L') σ) : nd_V M R post kc ks pc ls (v :: .ref (b + j) :: st) (sh0 ++ L) σ := by
  refine nd_put0 (e' := .inl (ci, fs.set k y)) (σ' := σ) hd hg hfin (nd_ag hb he) hk hn hfit (fun ad cI cS => ?_) (fun a ha => rfl) ?_
  · show Sum.inr (ci, (fs.set k y).mapIdx (fun i g => nd_v ad (g (σ (b + j) i)))) = _
    rw [nd_mapset3 (hy (nd_no_e h).1)]
  · rw [nd_aset hb, hL']
    exact kk (nd_no_e h).2
theorem nd_putzF {idx ci k i : Nat} {fs : List (Int32 → Value)} {x : Int32} {sh : List nd_S} {d : Decidable (¬ (x = 0 ∨ x = 1))} (hd : decode M.2.1 pc = .ok (.putfield idx, 3)) (hg : nd_pf M.1.cls idx ci k .boolean true) (hfin : M.1.name = "<init>") (he : sh[i]? = some (.inl (ci, fs))) (hv : fs[k]? = some Value.int) (h : (if ¬ (x = 0 ∨ x = 1) then none else nd_let (nd_up σ i k x) K) = some z)
    (kk : ∀ σ : nd_Mem, K σ = some z → nd_V M R post kc ks (pc + 3) ls st sh σ) : nd_V M R post kc ks pc ls (.int x :: .ref i :: st) sh σ := nd_putz hd hg (fun _ => hfin) he hv (Classical.not_not.mp (nd_no_e h).1) (kk _ (nd_no_e h).2)
theorem nd_iastoreG {i n : Nat} {y x : Int32} {sh : List nd_S} (hd : decode M.2.1 pc = .ok (.iastore, 1)) (he : sh[i]? = some (.inr (.inl n))) (hin : 0 ≤ y.toInt ∧ y.toInt < n) (h : nd_let (nd_up σ i y.toNatClampNeg x) K = some z) (kk : ∀ σ : nd_Mem, K σ = some z → nd_V M R post kc ks (pc + 1) ls st sh σ) : nd_V M R post kc ks pc ls (.int x :: .int y :: .ref i :: st) sh σ := nd_iastore hd he (vp_in_iff.mpr hin) (kk _ h)
/-- a constructor's call -/
theorem nd_ctorG {N : nd_M} {RN : Room} {idx : Nat} {as : List Value} {st0 : List Value} {L1 L2 L3 : List nd_S} {z1 : Int32 × nd_Mem} (hd : decode M.2.1 pc = .ok (.invokespecial idx, 3)) (hN : nd_okN N as.length) (hret : N.2.2.2.1 = none) (hin : Cond.instanceMethod N.1 ∈ nd_tbl) (hnm : N.1.name = "<init>") (hlk : Cond.methodLink M.1.cls idx N.1 ∈ nd_tbl) (hR : nd_roomN N RN R) (hst : as.reverse ++ .ref (b + j) :: st = st0) (hcat : (st.map (fun v => v.category)).sum ≤ 8) (hb : sh0.length = b) (hlt : b + 300 < nd_ro) (hne : L ≠ []) (hlen : L.length + RN.cells = L'.length) (hlen2 : L'.length < 250) (hc : kc + RN.cells ≤ R.cells) (hs : ks + RN.slots ≤ R.slots) (hL : L1 ++ L2 = L) (hL' : L1 ++ L3 = L')
    (hF : nd_Fn N RN (.ref (b + j) :: as) ((sh0 ++ L1) ++ L2) σ (nd_Pv ((sh0 ++ L1) ++ L3) z1))
    (kk : nd_V M R post (kc + RN.cells) (ks + RN.slots) (pc + 3) ls st (sh0 ++ L') z1.2) : nd_V M R post kc ks pc ls st0 (sh0 ++ L) σ := by
  subst hst
  rw [List.append_assoc, List.append_assoc, hL, hL'] at hF
  refine nd_callI hd hN hret hin hnm hlk hR hcat (Or.inr (nd_ane hne)) hc hs (by rw [List.length_append, hb]; omega) hF (fun r sh' σ' hp => ?_) (fun r sh' σ' hp _ => ?_)
  · rw [hp.2.1, List.length_append, List.length_append]; omega
  · obtain ⟨rfl, rfl, rfl⟩ := hp
    exact kk
/-- a call within a constructor that makes no cell -/
theorem nd_csvG {N : nd_M} {e idx : Nat} {st0 : List Value} {sh : List nd_S} {z1 : Int32 × nd_Mem} (as : List Value) (st : List Value) (hd : decode M.2.1 pc = .ok (.invokestatic idx, 3)) (hc : nd_cs M.1.cls idx N as.length) (hR : nd_roomN N (nd_rm e) R) (hst : as.reverse ++ st = st0) (hcat : (st.map (fun v => v.category)).sum ≤ 8) (hne : sh ≠ []) (hkc : kc ≤ R.cells) (hks : ks ≤ R.slots) (hL : sh.length < nd_ro) (hF : nd_Fn N (nd_rm e) as sh σ (nd_Pv sh z1)) (kk : nd_V M R post kc ks (pc + 3) ls st sh z1.2) : nd_V M R post kc ks pc ls st0 sh σ := by
  subst hst
  refine nd_callS hd hc.1 hc.2.1 hc.2.2 hR hcat (Or.inr hne) hkc hks hL hF (nd_sz0 (fun _ _ _ h => h.2.1)) (fun r sh' σ' hp _ => ?_)
  obtain ⟨rfl, rfl, rfl⟩ := hp
  exact kk
theorem nd_cviG {N : nd_M} {e idx q ci : Nat} {fs : List (Int32 → Value)} {st0 : List Value} {sh : List nd_S} {z1 : Int32 × nd_Mem} (as : List Value) (st : List Value) (hd : decode M.2.1 pc = .ok (.invokevirtual idx, 3)) (hc : nd_cv M.1.cls idx N as.length ci) (he : sh[q]? = some (.inl (ci, fs))) (hR : nd_roomN N (nd_rm e) R) (hst : as.reverse ++ .ref q :: st = st0) (hcat : (st.map (fun v => v.category)).sum ≤ 8) (hne : sh ≠ []) (hkc : kc ≤ R.cells) (hks : ks ≤ R.slots) (hL : sh.length < nd_ro) (hF : nd_Fn N (nd_rm e) (.ref q :: as) sh σ (nd_Pi sh z1)) (kk : nd_V M R post kc ks (pc + 3) ls (.int z1.1 :: st) sh z1.2) : nd_V M R post kc ks pc ls st0 sh σ := by
  subst hst
  obtain ⟨h1, h2, h3, h4, T, k, h5⟩ := hc
  refine nd_callV hd h1 h2 h3 h4 h5 he hR hcat (Or.inr hne) hkc hks hL hF (nd_sz0 (fun _ _ _ h => h.2.1)) (fun r sh' σ' hp _ => ?_)
  obtain ⟨rfl, rfl, rfl⟩ := hp
  exact kk
end ND_W
