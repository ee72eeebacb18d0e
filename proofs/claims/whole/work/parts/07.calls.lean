section ND_C
variable {M : nd_M} {R : Room} {post : nd_Post} {kc ks pc : Nat} {ls : List (Nat × Value)} {st : List Value} {sh : List nd_S} {σ : nd_Mem}
theorem nd_ofW {l : Launch} {y : MethodName} {ws ws' : List Cond} {rm : Room} {Pc : Array Value → State → Prop} {Qc : Array Value → State → Outcome → State → Prop} {mc ms : Nat} {free : Addr → Prop} {cc : ByteArray} {maxL : Nat} {ret : Option FieldType} (hy : plainFor y = true) (hw : ws = Cond.code y cc maxL ret :: ws')
    (body : ∀ p e s m args below meth c s₁, BodyLoose p l y (headSpec ws rm) cc maxL ret e s m args below meth c s₁ → c.maxLocals = maxL → Pc args s → W p l e (headSpec ws rm).room s m args below meth c s.heap [] 0 0 (MQ below Qc args s mc ms free) (entryFrame m args maxL)) : Met l y ws rm Pc Qc mc ms free := by
  refine MetFree.of_bodySF (code := cc) (maxLocals := maxL) (ret := ret) hy (fun args s m h hn => ?_) (fun p e s m args below meth c s₁ B hml hP _ => ?_)
  · obtain ⟨meth, c, h1, h2, h3, h4, h5, h6, -, -⟩ := Cond.code_spec hn (atoms_spec (ws := ws) h _ (by rw [hw]; exact List.mem_cons_self))
    exact ⟨meth, c, h1, h2, h3, h4, h5, h6⟩
  · obtain ⟨t, a1, o, b1, b2, b3⟩ := body p e s m args below meth c s₁ B hml hP s₁ (by rw [B.state]; rfl) (Stand.of_body B)
    exact ⟨t, o, a1, b1, b2, b3⟩
/-- a method's contract, out of its body -/
theorem nd_Fn.ofV {as : List Value} (hpl : plainFor M.1 = true) (hscr : M.2.2.2.2 = none) (hle : ∀ ad : Nat → Nat, (lg_sl (as.map (nd_v ad))).length ≤ M.2.2.1) (hls : ∀ ad : Nat → Nat, lv_args 0 (as.map (nd_v ad)) = ls.map (fun q => (q.1, nd_v ad q.2))) (hV : nd_V M R post 0 0 0 ls [] sh σ) : nd_Fn M R as sh σ post := by
  intro l g ad sz
  refine nd_ofW (cc := M.2.1) (maxL := M.2.2.1) (ret := M.2.2.2.1) hpl rfl ?_
  intro p e s m args below meth c s₁ B hml hv
  obtain ⟨rfl, hsz, hsz2, hI, hn, hK, hO, hAd⟩ := hv
  subst hsz
  have hts := atoms_spec (ws := nd_ws M) B.pre
  have hr := B.returns
  have hlocks := B.notSynchronized
  have hl := lv_entry (as.map (nd_v ad)) (n := M.2.2.1) (hle ad)
  rw [hls ad] at hl
  rw [lg_entry_eq]
  refine hV l p e s m _ below meth c g ad (nd_A ad g sh σ s.heap.size) _ ⟨B.exec, B.bytes, hml, findClass_of_methodNamed B.named, fun w hw => hts w (List.mem_cons_of_mem _ hw), hn, hK, fun q h => Or.inr h, hO, (name_of_methodNamed B.named B.method).1, (fun q hq => by rw [hscr] at hq; cases hq), hAd⟩ ?_ s.heap [] _ (by rw [Nat.add_zero]; exact hsz2) hI va_S.rf hl
  intro r sh' σ' H locs la pc' hp hok hI' hS' hd
  cases r with
  | none =>
    cases hret : M.2.2.2.1 with
    | some t => rw [hret] at hok; exact absurd hok (by simp [nd_okr])
    | none => exact W.vret B.exec B.bytes (hr.trans hret) (fun t ht hW => ⟨⟨none, sh', σ', rfl, hok, hp, by rw [ht]; exact hI'⟩, hS'.F ht⟩) hS'.2.2 hd
  | some v =>
    cases hret : M.2.2.2.1 with
    | none => rw [hret] at hok; cases v <;> exact absurd hok (by simp [nd_okr])
    | some ty =>
      cases v with
      | int v => exact W.zret B.exec B.bytes (hr.trans hret) (by rw [hret] at hok; exact hok) (fun t ht hW => ⟨⟨some (.int v), sh', σ', rfl, hok, hp, by rw [ht]; exact hI'⟩, hS'.F ht⟩) hS'.2.2 hd
      | ref a => exact W.aret B.exec B.bytes (hr.trans hret) (by rw [hret] at hok; exact hok) (Or.inr ⟨_, rfl⟩) (fun t ht hW => ⟨⟨some (.ref a), sh', σ', rfl, hok, hp, by rw [ht]; exact hI'⟩, hS'.F ht⟩) hS'.2.2 hd
      | _ => rw [hret] at hok; exact absurd hok (by simp [nd_okr])
theorem nd_blind {as : List Value} {g : nd_G} {ad : Nat → Nat} {sz : Nat} : FrameBlind (nd_Pc as g ad sh σ sz) := by
  intro a U fr mk q
  obtain ⟨q0, q1, q2, qI, qn, qK, qO, qA⟩ := q
  exact ⟨q0, q1, q2, qI, fun w hw => nd_nest_same (u := U) hw rfl (qn w hw), va_K.moved (u := U) (U := U.calling fr mk a) (Vm.Alike.refl U.vm) qK, nd_Old.same (u := U) rfl qO, qA⟩
variable {p : Program} {l : Launch} {e : Env} {s : State} {m : MethodId} {args : Array Value} {below : List Frame} {meth : Method} {c : Code} {H : Heap} {locs : List Loc} {Q : State → Prop} {g : nd_G} {ad : Nat → Nat} {A : Nat → Prop} {la : Array Slot}
theorem nd_inA (hI : nd_In g ad A sh σ H) (hS : va_S A s.heap H locs) (hA : ∀ q : Nat, s.heap.size ≤ q → A q) : ∀ q, nd_A ad g sh σ H.size q → A q := by
  intro q h
  rcases h with ⟨k, x, h⟩ | h
  · exact hI.2.2 k (q, x) h
  · exact hA q (Nat.le_trans hS.1 h)
theorem nd_pre {as : List Value} (hf : nd_Fix M p s m args meth c g ad A) (hI : nd_In g ad A sh σ H) (hS : va_S A s.heap H locs) (hsz : H.size = ad sh.length) : ∀ U : State, U.heap = H → s.WarmedH U.vm → nd_Pc as g ad sh σ H.size (as.map (nd_v ad)).toArray U := by
  intro U hU hW
  have hA := nd_inA hI hS hf.2.2.2.2.2.2.2.1
  refine ⟨rfl, by rw [hU], hsz, by rw [hU]; exact hI.narrow, fun w hw => nd_nest_warm hw hW (hf.2.2.2.2.2.1 w hw), va_K.moved hW.alike hf.2.2.2.2.2.2.1, ?_, hf.2.2.2.2.2.2.2.2.2.2.2⟩
  rw [hU]
  exact ((hf.2.2.2.2.2.2.2.2.1.kept hS.2.1).narrow hA).moved hW
/-- how large the heap is: every new cell is one of ours -/
theorem nd_sized {fr : JFrame} (hI : nd_In g ad A sh σ H) (hS : va_S A s.heap H locs) (hz : s.heap.size + kc = ad sh.length) (hA : nd_Ad ad) (h0 : kc = 0 ∨ sh ≠ []) (hlt : sh.length < nd_ro) (k : H.size = ad sh.length → W p l e R s m args below meth c H locs kc ks Q fr) : W p l e R s m args below meth c H locs kc ks Q fr := by
  intro T hT X
  refine k ?_ T hT X
  have h1 : T.heap.size ≤ s.heap.size + kc := X.heapSize
  rw [hT] at h1
  have h2 : s.heap.size ≤ H.size := hS.1
  rcases h0 with h0 | h0
  · omega
  · cases hsh : sh.length with
    | zero => exact absurd (List.length_eq_zero_iff.mp hsh) h0
    | succ n =>
      have hn : n < sh.length := by omega
      have hg : sh[n]? = some sh[n] := List.getElem?_eq_getElem hn
      have h3 := (hI.1 n _ (nd_world_get hg)).lt
      have h4 : ad (n + 1) = ad n + 1 := hA n 1 (by omega)
      have h5 : ad n < H.size := h3
      rw [hsh] at hz
      omega
/-- behind a call -/
theorem nd_call0 {N : nd_M} {RN : Room} {postN : nd_Post} {st0 rest : List Value} {a : Array Value} (hrun : va_Run p l e R s m args below meth c H locs kc ks RN.cells RN.slots (F0 m pc la st0) rest (nd_Q N g ad (nd_A ad g sh σ H.size) postN a) (nd_A ad g sh σ H.size)) (hI : nd_In g ad A sh σ H) (hS : va_S A s.heap H locs) (hA : ∀ q : Nat, s.heap.size ≤ q → A q)
    (kk : ∀ (r : Option Value) (sh' : List nd_S) (σ' : nd_Mem) (H1 : Heap) (locs1 : List Loc), postN r sh' σ' → nd_okr N.2.2.2.1 r → nd_In g ad A sh' σ' H1 → va_S A s.heap H1 locs1 → W p l e R s m args below meth c H1 locs1 (kc + RN.cells) (ks + RN.slots) Q (F0 m (pc + 3) la ((r.map (nd_v ad)).toList ++ rest))) : W p l e R s m args below meth c H locs kc ks Q (F0 m pc la st0) := by
  have hFA := nd_inA hI hS hA
  intro T hT X
  obtain ⟨v, st₀, t, T', L, h0, X', hL, e1, e2, ⟨⟨r, sh', σ', hv, hok, hp, hI1⟩, hz, hk⟩, step⟩ := hrun T hT X
  cases hv
  rw [h0] at hz hk
  obtain ⟨t2, a1, b1⟩ := kk r sh' σ' T'.heap (locs ++ L) hp hok (by rw [e1]; exact ⟨hI1.1, hI1.2.weaken (fun k q _ h => hFA q.1 h)⟩)
    ⟨Nat.le_trans hS.1 (by rw [e1]; exact hz), fun q h1 h2 => by rw [e1, hk q (Nat.lt_of_lt_of_le h1 hS.1) (fun z => h2 (hFA q z))]; exact hS.2.1 q h1 h2, fun q hq => by
      rcases List.mem_append.mp hq with h | h
      · exact hS.2.2 q h
      · exact hFA _ (hL q h)⟩ T' rfl X'
  exact ⟨t2, step t2 a1, b1⟩
end ND_C
/-! calls -/
def nd_okN (N : nd_M) (n : Nat) : Prop := Cond.code N.1 N.2.1 N.2.2.1 N.2.2.2.1 ∈ nd_tbl ∧ Cond.initialized N.1.cls ∈ nd_tbl ∧ N.1.cls ≠ "java/lang/invoke/MethodHandle" ∧ N.1.cls ≠ "java/lang/invoke/VarHandle" ∧ (parseMethodDescriptor N.1.desc).map (fun d => d.parameters.length) = some n
def nd_roomN (N : nd_M) (RN R : Room) : Prop := RN.frames + 1 ≤ R.frames ∧ 8 + (N.2.2.1 + 11) + RN.locals ≤ R.locals
section ND_D
variable {M : nd_M} {R : Room} {post : nd_Post} {kc ks pc : Nat} {ls : List (Nat × Value)} {st : List Value} {sh : List nd_S} {σ : nd_Mem} {N : nd_M} {RN : Room} {postN : nd_Post} {idx : Nat} {as : List Value}
theorem nd_stk (ad : Nat → Nat) (as st : List Value) : (as.reverse ++ st).map (nd_v ad) = (as.map (nd_v ad)).reverse ++ st.map (nd_v ad) := by rw [List.map_append, List.map_reverse]
theorem nd_stk2 (ad : Nat → Nat) (as st : List Value) (b : Nat) : (as.reverse ++ .ref b :: st).map (nd_v ad) = (as.map (nd_v ad)).reverse ++ .ref (ad b) :: st.map (nd_v ad) := by rw [List.map_append, List.map_reverse]; rfl
theorem nd_stk3 (ad : Nat → Nat) (r : Option Value) (st : List Value) : (r.map (nd_v ad)).toList ++ st.map (nd_v ad) = (r.toList ++ st).map (nd_v ad) := by cases r <;> rfl
theorem nd_cont {p : Program} {l : Launch} {e : Env} {s : State} {m : MethodId} {args : Array Value} {below : List Frame} {meth : Method} {c : Code} {Q : State → Prop} {g : nd_G} {ad : Nat → Nat} {A : Nat → Prop} {la : Array Slot} (hf : nd_Fix M p s m args meth c g ad A)
    (hr : ∀ (r : Option Value) (sh' : List nd_S) (σ' : nd_Mem) (H : Heap) (locs : List Loc) (la : Array Slot) (pc' : Nat), post r sh' σ' → nd_okr M.2.2.2.1 r → nd_In g ad A sh' σ' H → va_S A s.heap H locs → decode M.2.1 pc' = .ok ((match r with | none => .return_ | some (.int _) => .ireturn | some _ => .areturn), 1) → W p l e R s m args below meth c H locs R.cells R.slots Q (F0 m pc' la (r.toList.map (nd_v ad))))
    (hl : lv_has la M.2.2.1 (ls.map (fun q => (q.1, nd_v ad q.2)))) (hz : s.heap.size + kc = ad sh.length) (hsz : ∀ r sh' σ', postN r sh' σ' → sh'.length = sh.length + RN.cells) (hlt : sh.length + RN.cells < nd_ro)
    (kk : ∀ (r : Option Value) (sh' : List nd_S) (σ' : nd_Mem), postN r sh' σ' → nd_okr N.2.2.2.1 r → nd_V M R post (kc + RN.cells) (ks + RN.slots) (pc + 3) ls (r.toList ++ st) sh' σ') :
    ∀ (r : Option Value) (sh' : List nd_S) (σ' : nd_Mem) (H1 : Heap) (locs1 : List Loc), postN r sh' σ' → nd_okr N.2.2.2.1 r → nd_In g ad A sh' σ' H1 → va_S A s.heap H1 locs1 → W p l e R s m args below meth c H1 locs1 (kc + RN.cells) (ks + RN.slots) Q (F0 m (pc + 3) la ((r.map (nd_v ad)).toList ++ st.map (nd_v ad))) := by
  intro r sh' σ' H1 locs1 hp hok hI1 hS1
  rw [nd_stk3]
  refine kk r sh' σ' hp hok l p e s m args below meth c g ad A Q hf hr H1 locs1 la ?_ hI1 hS1 hl
  rw [hsz r sh' σ' hp, hf.2.2.2.2.2.2.2.2.2.2.2 sh.length RN.cells hlt]
  omega
/-- a static method -/
theorem nd_callS (hd : decode M.2.1 pc = .ok (.invokestatic idx, 3)) (hN : nd_okN N as.length) (hst : Cond.static N.1 ∈ nd_tbl) (hlk : Cond.methodLink M.1.cls idx N.1 ∈ nd_tbl ∨ ∃ host, Cond.methodLinkNest M.1.cls idx N.1 host ∈ nd_nest) (hR : nd_roomN N RN R) (hcat : (st.map (fun v => v.category)).sum ≤ 8) (h0 : kc = 0 ∨ sh ≠ []) (hc : kc + RN.cells ≤ R.cells) (hs : ks + RN.slots ≤ R.slots) (hlt : sh.length + RN.cells < nd_ro) (hF : nd_Fn N RN as sh σ postN) (hsz : ∀ r sh' σ', postN r sh' σ' → sh'.length = sh.length + RN.cells)
    (kk : ∀ (r : Option Value) (sh' : List nd_S) (σ' : nd_Mem), postN r sh' σ' → nd_okr N.2.2.2.1 r → nd_V M R post (kc + RN.cells) (ks + RN.slots) (pc + 3) ls (r.toList ++ st) sh' σ') : nd_V M R post kc ks pc ls (as.reverse ++ st) sh σ := by
  intro l p e s m args below meth c g ad A Q hf hr H locs la hz hI hS hl
  refine nd_sized hI hS hz hf.2.2.2.2.2.2.2.2.2.2.2 h0 (by omega) (fun hH => ?_)
  rw [nd_stk]
  have hcall := nd_cont hf hr hl hz hsz hlt kk
  have hfix : CallFix p m c M.2.1 M.2.2.1 s args nd_tbl M.1.cls := ⟨hf.1, hf.2.1, hf.2.2.1, hf.2.2.2.1, hf.2.2.2.2.1⟩
  have hm : (as.map (nd_v ad)).length = as.length := List.length_map _
  rcases hlk with hlk | ⟨host, hlk⟩
  · exact nd_call0 (va_runS hfix (hF l g ad H.size) ⟨callB_of as.length hf.2.2.2.2.1 (nd_good hN.1) rfl rfl rfl (hf.2.2.2.2.1 _ hN.2.1) (hf.2.2.2.2.1 _ hlk) hN.2.2 hR, hf.2.2.2.2.1 _ hst⟩ ⟨nd_blind, nd_pre hf hI hS hH⟩ rfl hm hl.1 rfl (lv_room (by rw [nd_cats]; exact hcat)) hd ⟨hc, hs⟩) hI hS hf.2.2.2.2.2.2.2.1 hcall
  · exact nd_call0 (va_runSN hfix (hF l g ad H.size) ⟨va_cnB as.length hf.2.2.2.2.1 (nd_good hN.1) rfl rfl rfl (hf.2.2.2.2.2.1 _ hlk) (hf.2.2.2.2.1 _ hN.2.1) hN.2.2 hR, hf.2.2.2.2.1 _ hst, trivial⟩ ⟨nd_blind, nd_pre hf hI hS hH⟩ rfl hm hl.1 rfl (lv_room (by rw [nd_cats]; exact hcat)) hd ⟨hc, hs⟩) hI hS hf.2.2.2.2.2.2.2.1 hcall
/-- a constructor -/
theorem nd_callI {b : Nat} (hd : decode M.2.1 pc = .ok (.invokespecial idx, 3)) (hN : nd_okN N as.length) (hret : N.2.2.2.1 = none) (hin : Cond.instanceMethod N.1 ∈ nd_tbl) (hnm : N.1.name = "<init>") (hlk : Cond.methodLink M.1.cls idx N.1 ∈ nd_tbl) (hR : nd_roomN N RN R) (hcat : (st.map (fun v => v.category)).sum ≤ 8) (h0 : kc = 0 ∨ sh ≠ []) (hc : kc + RN.cells ≤ R.cells) (hs : ks + RN.slots ≤ R.slots) (hlt : sh.length + RN.cells < nd_ro) (hF : nd_Fn N RN (.ref b :: as) sh σ postN) (hsz : ∀ r sh' σ', postN r sh' σ' → sh'.length = sh.length + RN.cells)
    (kk : ∀ (r : Option Value) (sh' : List nd_S) (σ' : nd_Mem), postN r sh' σ' → nd_okr N.2.2.2.1 r → nd_V M R post (kc + RN.cells) (ks + RN.slots) (pc + 3) ls (r.toList ++ st) sh' σ') : nd_V M R post kc ks pc ls (as.reverse ++ .ref b :: st) sh σ := by
  intro l p e s m args below meth c g ad A Q hf hr H locs la hz hI hS hl
  refine nd_sized hI hS hz hf.2.2.2.2.2.2.2.2.2.2.2 h0 (by omega) (fun hH => ?_)
  rw [nd_stk2]
  have hcall := nd_cont hf hr hl hz hsz hlt kk
  have hfix : CallFix p m c M.2.1 M.2.2.1 s args nd_tbl M.1.cls := ⟨hf.1, hf.2.1, hf.2.2.1, hf.2.2.2.1, hf.2.2.2.2.1⟩
  have hm : (as.map (nd_v ad)).length = as.length := List.length_map _
  have hw : nd_ws N = Cond.code N.1 N.2.1 N.2.2.1 none :: nd_tbl := by unfold nd_ws; rw [hret]
  exact nd_call0 (va_runI hfix (hF l g ad H.size) ⟨callB_of as.length hf.2.2.2.2.1 (nd_good hN.1) hw rfl rfl (hf.2.2.2.2.1 _ hN.2.1) (hf.2.2.2.2.1 _ hlk) hN.2.2 hR, hnm, hf.2.2.2.2.1 _ hin⟩ ⟨nd_blind, nd_pre (as := .ref b :: as) hf hI hS hH⟩ rfl hm hl.1 rfl (lv_room (by rw [nd_cats]; exact hcat)) hd ⟨hc, hs⟩) hI hS hf.2.2.2.2.2.2.2.1 hcall
/-- an instance method of one of our objects -/
theorem nd_callV {b ci : Nat} {fs : List (Int32 → Value)} {T : u_T} {n : Nat} (hd : decode M.2.1 pc = .ok (.invokevirtual idx, 3)) (hN : nd_okN N as.length) (hin : Cond.instanceMethod N.1 ∈ nd_tbl) (hsel : Cond.selects N.1.cls N.1 N.1 ∈ nd_tbl) (hlk : Cond.methodLink M.1.cls idx N.1 ∈ nd_tbl) (hcl : nd_cl[ci]? = some (N.1.cls, T, n)) (he : sh[b]? = some (.inl (ci, fs))) (hR : nd_roomN N RN R) (hcat : (st.map (fun v => v.category)).sum ≤ 8) (h0 : kc = 0 ∨ sh ≠ []) (hc : kc + RN.cells ≤ R.cells) (hs : ks + RN.slots ≤ R.slots) (hlt : sh.length + RN.cells < nd_ro) (hF : nd_Fn N RN (.ref b :: as) sh σ postN) (hsz : ∀ r sh' σ', postN r sh' σ' → sh'.length = sh.length + RN.cells)
    (kk : ∀ (r : Option Value) (sh' : List nd_S) (σ' : nd_Mem), postN r sh' σ' → nd_okr N.2.2.2.1 r → nd_V M R post (kc + RN.cells) (ks + RN.slots) (pc + 3) ls (r.toList ++ st) sh' σ') : nd_V M R post kc ks pc ls (as.reverse ++ .ref b :: st) sh σ := by
  intro l p e s m args below meth c g ad A Q hf hr H locs la hz hI hS hl
  refine nd_sized hI hS hz hf.2.2.2.2.2.2.2.2.2.2.2 h0 (by omega) (fun hH => ?_)
  rw [nd_stk2]
  have hcall := nd_cont hf hr hl hz hsz hlt kk
  have hfix : CallFix p m c M.2.1 M.2.2.1 s args nd_tbl M.1.cls := ⟨hf.1, hf.2.1, hf.2.2.1, hf.2.2.2.1, hf.2.2.2.2.1⟩
  have hm : (as.map (nd_v ad)).length = as.length := List.length_map _
  exact nd_call0 (va_runV (C := N.1.cls) hfix (hF l g ad H.size) ⟨callB_of as.length hf.2.2.2.2.1 (nd_good hN.1) rfl rfl rfl (hf.2.2.2.2.1 _ hN.2.1) (hf.2.2.2.2.1 _ hlk) hN.2.2 hR, hf.2.2.2.2.1 _ hin, hf.2.2.2.2.1 _ hsel⟩ ⟨nd_blind, va_recv hf.2.2.2.2.2.2.1 hI.1 hcl (nd_world_get he), nd_pre (as := .ref b :: as) hf hI hS hH⟩ rfl hm hl.1 rfl (lv_room (by rw [nd_cats]; exact hcat)) hd ⟨hc, hs⟩) hI hS hf.2.2.2.2.2.2.2.1 hcall
/-- an instance method of a String constant -/
theorem nd_callT {i : Nat} (hi : i < 5) (hd : decode M.2.1 pc = .ok (.invokevirtual idx, 3)) (hN : nd_okN N as.length) (hcn : N.1.cls = "java/lang/String") (hin : Cond.instanceMethod N.1 ∈ nd_tbl) (hsel : Cond.selects "java/lang/String" N.1 N.1 ∈ nd_tbl) (hlk : Cond.methodLink M.1.cls idx N.1 ∈ nd_tbl) (hR : nd_roomN N RN R) (hcat : (st.map (fun v => v.category)).sum ≤ 8) (h0 : kc = 0 ∨ sh ≠ []) (hc : kc + RN.cells ≤ R.cells) (hs : ks + RN.slots ≤ R.slots) (hlt : sh.length + RN.cells < nd_ro) (hF : nd_Fn N RN (.ref (1000001 + i) :: as) sh σ postN) (hsz : ∀ r sh' σ', postN r sh' σ' → sh'.length = sh.length + RN.cells)
    (kk : ∀ (r : Option Value) (sh' : List nd_S) (σ' : nd_Mem), postN r sh' σ' → nd_okr N.2.2.2.1 r → nd_V M R post (kc + RN.cells) (ks + RN.slots) (pc + 3) ls (r.toList ++ st) sh' σ') : nd_V M R post kc ks pc ls (as.reverse ++ .ref (1000001 + i) :: st) sh σ := by
  intro l p e s m args below meth c g ad A Q hf hr H locs la hz hI hS hl
  refine nd_sized hI hS hz hf.2.2.2.2.2.2.2.2.2.2.2 h0 (by omega) (fun hH => ?_)
  rw [nd_stk2]
  have hcall := nd_cont hf hr hl hz hsz hlt kk
  have hfix : CallFix p m c M.2.1 M.2.2.1 s args nd_tbl M.1.cls := ⟨hf.1, hf.2.1, hf.2.2.1, hf.2.2.2.1, hf.2.2.2.2.1⟩
  have hm : (as.map (nd_v ad)).length = as.length := List.length_map _
  exact nd_call0 (va_runV (C := "java/lang/String") hfix (hF l g ad H.size) ⟨callB_of as.length hf.2.2.2.2.1 (nd_good hN.1) rfl rfl rfl (hf.2.2.2.2.1 _ hN.2.1) (hf.2.2.2.2.1 _ hlk) hN.2.2 hR, hf.2.2.2.2.1 _ hin, hf.2.2.2.2.1 _ hsel⟩ ⟨nd_blind, vk_recv hf.2.2.2.2.2.2.2.2.1.2.2.2.1 hi hS, nd_pre (as := .ref (1000001 + i) :: as) hf hI hS hH⟩ rfl hm hl.1 rfl (lv_room (by rw [nd_cats]; exact hcat)) hd ⟨hc, hs⟩) hI hS hf.2.2.2.2.2.2.2.1 hcall
/-- the constructor of Object -/
theorem nd_objI {b : Nat} (hd : decode M.2.1 pc = .ok (.invokespecial idx, 3)) (hlk : Cond.methodLink M.1.cls idx objectInit ∈ nd_tbl) (hin : Cond.instanceMethod objectInit ∈ nd_tbl) (hco : Cond.code objectInit ⟨#[0xb1]⟩ 1 none ∈ nd_tbl) (hR : 1 ≤ R.frames ∧ 20 ≤ R.locals) (hcat : (st.map (fun v => v.category)).sum ≤ 8) (kk : nd_V M R post kc ks (pc + 3) ls st sh σ) : nd_V M R post kc ks pc ls (.ref b :: st) sh σ := by
  intro l p e s m args below meth c g ad A Q hf hr H locs la hz hI hS hl
  refine W.objInit hf.1 hf.2.1 hf.2.2.2.1 (hf.2.2.2.2.1 _ hlk) (hf.2.2.2.2.1 _ hin) (hf.2.2.2.2.1 _ hco) rfl (hl.1.trans hf.2.2.1.symm) rfl hd hR.1 ?_ (kk l p e s m args below meth c g ad A Q hf hr H locs la hz hI hS hl)
  have := nd_cats ad st
  show 2 * 0 + _ + 12 ≤ _
  omega
end ND_D
