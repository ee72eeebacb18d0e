/-! new cells -/
theorem nd_world_push {ad : Nat → Nat} {g : nd_G} {sh : List nd_S} {σ σ' : nd_Mem} {e : nd_S} (ho : ∀ a : Nat, a < sh.length → σ' a = σ a) : nd_world ad g (sh ++ [e]) σ' = nd_world ad g sh σ ++ [(ad sh.length, nd_cell ad g.2.1 g.2.2 (σ' sh.length) e)] := by
  unfold nd_world
  rw [List.mapIdx_append]
  congr 1
  · apply List.ext_getElem?
    intro j
    rw [List.getElem?_mapIdx, List.getElem?_mapIdx]
    by_cases hj : j < sh.length
    · rw [ho j hj]
    · rw [List.getElem?_eq_none (by omega)]; rfl
  · simp
/-- the class C, number ci, can be made at the entry idx of the class own; fs: its fields at first -/
def nd_nf (own : String) (idx ci : Nat) (fs : List (Int32 → Value)) : Prop := ∃ (C : String) (T : u_T) (N : Nat), nd_cl[ci]? = some (C, T, N) ∧ Cond.classLink own idx C ∈ nd_tbl ∧ Cond.instantiable C N ∈ nd_tbl ∧ Cond.initialized C ∈ nd_tbl ∧ fs.length = N ∧ ∀ k : Nat, k < N → (fs.map (fun g => g 0))[k]? = (parseFieldDescriptor (T k).2.2.1).map defaultValue
section ND_N
variable {M : nd_M} {R : Room} {post : nd_Post} {kc ks pc : Nat} {ls : List (Nat × Value)} {st : List Value} {sh : List nd_S} {σ : nd_Mem}
theorem nd_defv (ad : Nat → Nat) (t : FieldType) : nd_v ad (defaultValue t) = defaultValue t := by cases t <;> rfl
theorem nd_new {idx ci : Nat} {fs : List (Int32 → Value)} (hd : decode M.2.1 pc = .ok (.new idx, 3)) (hn : nd_nf M.1.cls idx ci fs) (h0 : kc = 0 ∨ sh ≠ []) (hlt : sh.length + 1 < nd_ro) (hc : kc + 1 ≤ R.cells) (hs : ks + fs.length ≤ R.slots)
    (kk : nd_V M R post (kc + 1) (ks + fs.length) (pc + 3) ls (.ref sh.length :: st) (sh ++ [.inl (ci, fs)]) (nd_row σ sh.length (fun _ => 0))) : nd_V M R post kc ks pc ls st sh σ := by
  intro l p e s m args below meth c g ad A Q hf hr H locs la hz hI hS hl
  refine nd_sized hI hS hz hf.2.2.2.2.2.2.2.2.2.2.2 h0 (by omega) (fun hH => ?_)
  obtain ⟨C, T, N, hc1, hw1, hw2, hw3, hN, hfs⟩ := hn
  subst hN
  have hKn := hf.2.2.2.2.2.2.1.1 ci _ hc1
  refine W.newcK hf.1 hf.2.1 hf.2.2.2.1 (hf.2.2.2.2.1 _ hw1) (hf.2.2.2.2.1 _ hw2) (hf.2.2.2.2.1 _ hw3) rfl hd hc hs hKn.2.1 hH fun H1 kC hkC e1 z1 o1 => ?_
  have hcell : va_at g.1 nd_cl (ad sh.length, nd_cell ad g.2.1 g.2.2 (nd_row σ sh.length (fun _ => 0) sh.length) (.inl (ci, fs))) H1 := by
    refine ⟨_, hc1, (u_born (nd_ty T) hf.2.2.2.2.1 (nd_clOK hc1).1 hKn hkC e1 (nd_tyOK hc1)).to (fun j hj => ?_)⟩
    have h1 := hfs j hj
    rw [nd_tyOK hc1 j hj, List.getElem?_map] at h1
    rw [nd_row_at]
    unfold vp_V
    show _ = (fs.mapIdx (fun k g => nd_v ad (g 0))).getD j .null
    rw [List.getD_eq_getElem?_getD, List.getElem?_mapIdx]
    cases hg : fs[j]? with
    | none => rw [hg] at h1; cases h1
    | some y =>
      rw [hg] at h1
      have h2 : y 0 = defaultValue (nd_ty T j) := Option.some.inj h1
      show _ = nd_v ad (y 0)
      rw [h2, nd_defv]
  have hk : ∀ (k : Nat) (x : Nat × va_E), (nd_world ad g sh σ)[k]? = some x → H1[x.1]? = H[x.1]? := fun k x hx => o1 x.1 (by rw [← hH]; exact (hI.1 k x hx).lt)
  have hw : nd_world ad g (sh ++ [.inl (ci, fs)]) (nd_row σ sh.length (fun _ => 0)) = nd_world ad g sh σ ++ [(ad sh.length, nd_cell ad g.2.1 g.2.2 (nd_row σ sh.length (fun _ => 0) sh.length) (.inl (ci, fs)))] := nd_world_push (fun a ha => nd_row_ne (Nat.ne_of_lt ha))
  refine kk l p e s m args below meth c g ad A Q hf hr H1 locs la ?_ ?_ ⟨Nat.le_trans hS.1 (by omega), fun x h1 h2 => (o1 x (by rw [← hH]; exact Nat.lt_of_lt_of_le h1 hS.1)).trans (hS.2.1 x h1 h2), hS.2.2⟩ hl
  · rw [List.length_append, List.length_singleton, hf.2.2.2.2.2.2.2.2.2.2.2 sh.length 1 hlt]
    omega
  · refine ⟨?_, ?_⟩
    · rw [hw]
      refine (hI.1.kept hk).app (fun k x hx => ?_)
      have hz0 : k < 1 := (List.getElem?_eq_some_iff.mp hx).1
      rw [show k = 0 by omega] at hx
      cases hx
      exact hcell
    · rw [hw]
      exact hI.2.push hI.1 hH.symm (hf.2.2.2.2.2.2.2.1 _ (by rw [← hH]; exact hS.1))
theorem nd_newa {n : Int32} {k : Nat} (hd : decode M.2.1 pc = .ok (.newarray .int, 2)) (hw : Cond.arrayClass .int ∈ nd_tbl) (hn : ¬ n < 0) (hk : n.toNatClampNeg = k) (hb : k * 4 ≤ 536870912) (h0 : kc = 0 ∨ sh ≠ []) (hlt : sh.length + 1 < nd_ro) (hc : kc + 1 ≤ R.cells) (hs : ks + k ≤ R.slots)
    (kk : nd_V M R post (kc + 1) (ks + k) (pc + 2) ls (.ref sh.length :: st) (sh ++ [.inr (.inl k)]) (nd_row σ sh.length (fun _ => 0))) : nd_V M R post kc ks pc ls (.int n :: st) sh σ := by
  intro l p e s m args below meth c g ad A Q hf hr H locs la hz hI hS hl
  refine nd_sized hI hS hz hf.2.2.2.2.2.2.2.2.2.2.2 h0 (by omega) (fun hH => ?_)
  refine va_newaK hf.1 hf.2.1 (atype := .int) (hf.2.2.2.2.1 _ hw) rfl hd rfl hn hk hb hc hs hH fun H1 cA e1 z1 o1 hAr hNm => ?_
  have hcA : cA = g.2.1 := Option.some.inj (hNm.symm.trans (hf.2.2.2.2.2.2.1.2 0 _ rfl).2)
  subst hcA
  have hk2 : ∀ (k : Nat) (x : Nat × va_E), (nd_world ad g sh σ)[k]? = some x → H1[x.1]? = H[x.1]? := fun k x hx => o1 x.1 (by rw [← hH]; exact (hI.1 k x hx).lt)
  have hww : nd_world ad g (sh ++ [.inr (.inl k)]) (nd_row σ sh.length (fun _ => 0)) = nd_world ad g sh σ ++ [(ad sh.length, nd_cell ad g.2.1 g.2.2 (nd_row σ sh.length (fun _ => 0) sh.length) (.inr (.inl k)))] := nd_world_push (fun a ha => nd_row_ne (Nat.ne_of_lt ha))
  refine kk l p e s m args below meth c g ad A Q hf hr H1 locs la ?_ ?_ ⟨Nat.le_trans hS.1 (by omega), fun x h1 h2 => (o1 x (by rw [← hH]; exact Nat.lt_of_lt_of_le h1 hS.1)).trans (hS.2.1 x h1 h2), hS.2.2⟩ hl
  · rw [List.length_append, List.length_singleton, hf.2.2.2.2.2.2.2.2.2.2.2 sh.length 1 hlt]
    omega
  · refine ⟨?_, ?_⟩
    · rw [hww]
      refine (hI.1.kept hk2).app (fun k x hx => ?_)
      have hz0 : k < 1 := (List.getElem?_eq_some_iff.mp hx).1
      rw [show k = 0 by omega] at hx
      cases hx
      rw [nd_row_at]
      show H1[ad sh.length]? = some (vp_cell _ _)
      rw [vp_cell_i]
      exact e1
    · rw [hww]
      exact hI.2.push hI.1 hH.symm (hf.2.2.2.2.2.2.2.1 _ (by rw [← hH]; exact hS.1))
theorem nd_anew {idx k : Nat} {n : Int32} (hd : decode M.2.1 pc = .ok (.anewarray idx, 3)) (hw : Cond.classLink M.1.cls idx "NextDoorBrides$Street" ∈ nd_tbl) (hn : ¬ n < 0) (hk : n.toNatClampNeg = k) (hb : k * 4 ≤ 536870912) (h0 : kc = 0 ∨ sh ≠ []) (hlt : sh.length + 1 < nd_ro) (hc : kc + 1 ≤ R.cells) (hs : ks + k ≤ R.slots)
    (kk : nd_V M R post (kc + 1) (ks + k) (pc + 3) ls (.ref sh.length :: st) (sh ++ [.inr (.inr (k, fun _ => none))]) σ) : nd_V M R post kc ks pc ls (.int n :: st) sh σ := by
  intro l p e s m args below meth c g ad A Q hf hr H locs la hz hI hS hl
  refine nd_sized hI hS hz hf.2.2.2.2.2.2.2.2.2.2.2 h0 (by omega) (fun hH => ?_)
  subst hk
  refine W.anew hf.1 hf.2.1 hf.2.2.2.1 (hf.2.2.2.2.1 _ hw) (va_AO.use hf.2.2.2.2.2.2.2.2.1.2.2.2.2.2) rfl hd rfl hn hb hc hs fun cA kA comp f1 f2 f3 f4 => ?_
  have hcA : cA = g.2.2 := by
    obtain ⟨kA', comp', -, -, -, h4⟩ := (hf.2.2.2.2.2.2.1.2 1 _ rfl).2
    exact Option.some.inj (f1.symm.trans h4)
  subst hcA
  generalize hH1 : H.push ({ cls := g.2.2, slots := Array.replicate n.toNatClampNeg .null, vm := .none } : Cell) = H1
  have z1 : H1.size = H.size + 1 := by rw [← hH1, Array.size_push]
  have e1 : H1[H.size]? = some (arrV g.2.2 n.toNatClampNeg (fun _ => .null)) := by rw [← hH1, Array.getElem?_push_size, ← arrV_new]
  have o1 : ∀ q : Nat, q < H.size → H1[q]? = H[q]? := fun q hq => by rw [← hH1, Array.getElem?_push, if_neg (Nat.ne_of_lt hq)]
  have hk2 : ∀ (k : Nat) (x : Nat × va_E), (nd_world ad g sh σ)[k]? = some x → H1[x.1]? = H[x.1]? := fun k x hx => o1 x.1 ((hI.1 k x hx).lt)
  have hww : nd_world ad g (sh ++ [.inr (.inr (n.toNatClampNeg, fun _ => none))]) σ = nd_world ad g sh σ ++ [(ad sh.length, nd_cell ad g.2.1 g.2.2 (σ sh.length) (.inr (.inr (n.toNatClampNeg, fun _ => none))))] := nd_world_push (fun a ha => rfl)
  rw [hH]
  refine kk l p e s m args below meth c g ad A Q hf hr H1 locs la ?_ ?_ ⟨Nat.le_trans hS.1 (by omega), fun x h1 h2 => (o1 x (Nat.lt_of_lt_of_le h1 hS.1)).trans (hS.2.1 x h1 h2), hS.2.2⟩ hl
  · rw [List.length_append, List.length_singleton, hf.2.2.2.2.2.2.2.2.2.2.2 sh.length 1 hlt]
    omega
  · refine ⟨?_, ?_⟩
    · rw [hww]
      refine (hI.1.kept hk2).app (fun k x hx => ?_)
      have hz0 : k < 1 := (List.getElem?_eq_some_iff.mp hx).1
      rw [show k = 0 by omega] at hx
      cases hx
      show H1[ad sh.length]? = some (vp_cell _ _)
      rw [vp_cell_q, ← hH]
      exact e1
    · rw [hww]
      exact hI.2.push hI.1 hH.symm (hf.2.2.2.2.2.2.2.1 _ (by rw [← hH]; exact hS.1))
theorem nd_aastore {i n b : Nat} {f : Nat → Option Nat} {fs : List (Int32 → Value)} {j : Int32} (hd : decode M.2.1 pc = .ok (.aastore, 1)) (he : sh[i]? = some (.inr (.inr (n, f)))) (hb : sh[b]? = some (.inl (5, fs))) (hin : vp_in j n) (kk : nd_V M R post kc ks (pc + 1) ls st (sh.set i (.inr (.inr (n, va_up f j.toNatClampNeg (some b))))) σ) : nd_V M R post kc ks pc ls (.ref b :: .int j :: .ref i :: st) sh σ := by
  intro l p e s m args below meth c g ad A Q hf hr H locs la hz hI hS hl
  refine va_astq hf.1 hf.2.1 hf.2.2.2.2.2.2.1 hI.1 hI.2 hS i 1 b 5 (nd_world_get he) rfl (nd_world_get hb) (r := (RX6, TX6, 9)) rfl hin hd (fun H1 locs1 hP hD hS1 => ?_)
  have e1 := nd_world_set (ad := ad) (g := g) (sh := sh) (σ := σ) (σ' := σ) (i := i) (e' := .inr (.inr (n, va_up f j.toNatClampNeg (some b)))) (x := .inl (g.2.2, n, .inr (.inr (.inr (.inr (va_up (fun j => (f j).map ad) j.toNatClampNeg (some (ad b)))))))) (by
    show Sum.inl (g.2.2, n, _) = _
    congr 7
    funext q
    show (va_up f j.toNatClampNeg (some b) q).map ad = _
    unfold va_up
    by_cases hq : q = j.toNatClampNeg
    · rw [if_pos hq, if_pos hq]; rfl
    · rw [if_neg hq, if_neg hq]) (fun a ha => rfl)
  rw [← e1] at hP hD
  exact kk l p e s m args below meth c g ad A Q hf hr H1 locs1 la (by rw [List.length_set]; exact hz) ⟨hP, hD⟩ hS1 hl
end ND_N
