def R_law : String := "NextDoorBridesLaw"
def lw_P (b : Addr) (xs : List Int32) (args : Array Value) (s : State) : Prop := args = #[.ref b] ∧ s.IntsAt b xs ∧ xs.length ≤ 3072 ∧ (Jvm.Cond.and given_1 narrow_1).before args s = true
def lw_Q (_ : Array Value) (s : State) (o : Outcome) (t : State) : Prop := o = .returned (some (.int 1)) ∧ Framed s o t [] 600000 7302250
def lw_Z (below : List Frame) (a : Array Value) (s : State) : State → Prop := fun t => ∃ o, t.status = .running ∧ Ended t below o ∧ lw_Q a s o t
/-- the law's own end, with 1 on the stack, nothing written that was there before, its room as the claim has it -/
theorem lw_ret {p : Program} {l : Launch} {e : Env} {s : State} {m : MethodId} {below : List Frame} {meth : Method} {c : Code} {b : Nat} (hx : p.tables.exec = Jvm.exec) (hb : c.code = code) (hr : meth.sig.returnType = ret) (hlocks : meth.locks = false) {pc : Nat} {H : Heap} {ls : Array Slot} (hdg : decode code pc = .ok (.ireturn, 1)) : W p l e room_1 s m #[Value.ref b] below meth c H [] 600000 7302250 (lw_Z below #[Value.ref b] s) (F0 m pc ls [.int 1]) := by
  intro T hT X
  obtain ⟨fs, hret, hrun, hended, hW, hframe⟩ := X.leave (v := some (.int 1)) (hlocks := hlocks) (fun h => by rw [hr] at h; cases h)
  have hmeth' : T.vm.method? m = some meth := X.method'
  refine ⟨T.setFrames fs, ?_, .returned (some (.int 1)), hrun, hended, rfl, ⟨_, rfl⟩, hW, hframe⟩
  jvm_step X.here [X.here.top, hx, hb, hdg, hmeth', hr, ret, narrow_b1]
  (try refine ⟨rfl, ?_⟩); (try refine ⟨rfl, ?_⟩)
  first | (intro acts; rw [hret _ acts rfl rfl rfl]) | rw [hret _ _ rfl rfl rfl]
  exact Steps.refl _
/-- what holds at the law's entry: the machine, the code, the tables' words (any of lw_tbl by 'hts w (by decide +kernel)'), the script of L ints xs at the cell b, what the Statement gives of the start (any of its parts by flat_of_before) -/
def lw_At (p : Program) (s : State) (m : MethodId) (meth : Method) (c : Code) (b L : Nat) (xs : Nat → Int32) : Prop :=
  p.tables.exec = Jvm.exec ∧ c.code = code ∧ meth.sig.returnType = ret ∧ c.maxLocals = 4 ∧ s.vm.findClass R_law = some m.cls ∧ (∀ w ∈ lw_tbl, w.before #[Value.ref b] s = true) ∧ va_X b L xs s s.heap ∧ b < s.heap.size ∧ meth.locks = false ∧ (Jvm.Cond.and given_1 narrow_1).before #[Value.ref b] s = true
/-- WHAT IS LEFT: pure, without the machine -/
def nd_Pure : Prop := ∀ (Ln : Nat) (xs : Nat → Int32), Ln ≤ 3072 → ∃ (F : Nat) (z : Int32 × nd_Mem), f_law F Ln xs (fun _ _ => 0) = some z
def nd_tm (i : Nat) : Term := .string "NextDoorBrides$Reader" (nd_px.getD i 0)
theorem ws_str1 : ∀ i : Nat, i < 5 → Cond.exactly (nd_tm i) "java/lang/String" ∈ flatC (Jvm.Cond.and given_1 narrow_1) := by decide +kernel
theorem ws_str2 : ∀ i : Nat, i < 5 → Cond.eq (.field (nd_tm i) "java/lang/String" "coder" "B") (.int 0) ∈ flatC (Jvm.Cond.and given_1 narrow_1) := by decide +kernel
theorem ws_str3 : ∀ i : Nat, i < 5 → Cond.arrayOf (.field (nd_tm i) "java/lang/String" "value" "[B") .byte ∈ flatC (Jvm.Cond.and given_1 narrow_1) := by decide +kernel
theorem ws_str4 : ∀ i : Nat, i < 5 → Cond.eq (.length (.field (nd_tm i) "java/lang/String" "value" "[B")) (.int (Int32.ofNat (nd_ln.getD i 0))) ∈ flatC (Jvm.Cond.and given_1 narrow_1) := by decide +kernel
theorem ws_s5_0 : ∀ j : Nat, j < 96 → (flatC (Jvm.Cond.and given_1 narrow_1))[21 + j]? = some (Cond.eq (.elem (.field (nd_tm 0) "java/lang/String" "value" "[B") (.int (Int32.ofNat j))) (.int ((nd_by.getD 0 []).getD j 0))) := by decide +kernel
theorem ws_s5_1 : ∀ j : Nat, j < 34 → (flatC (Jvm.Cond.and given_1 narrow_1))[121 + j]? = some (Cond.eq (.elem (.field (nd_tm 1) "java/lang/String" "value" "[B") (.int (Int32.ofNat j))) (.int ((nd_by.getD 1 []).getD j 0))) := by decide +kernel
theorem ws_s5_2 : ∀ j : Nat, j < 10 → (flatC (Jvm.Cond.and given_1 narrow_1))[160 + j]? = some (Cond.eq (.elem (.field (nd_tm 2) "java/lang/String" "value" "[B") (.int (Int32.ofNat j))) (.int ((nd_by.getD 2 []).getD j 0))) := by decide +kernel
theorem ws_s5_3 : ∀ j : Nat, j < 10 → (flatC (Jvm.Cond.and given_1 narrow_1))[176 + j]? = some (Cond.eq (.elem (.field (nd_tm 3) "java/lang/String" "value" "[B") (.int (Int32.ofNat j))) (.int ((nd_by.getD 3 []).getD j 0))) := by decide +kernel
theorem ws_s5_4 : ∀ j : Nat, j < 10 → (flatC (Jvm.Cond.and given_1 narrow_1))[193 + j]? = some (Cond.eq (.elem (.field (nd_tm 4) "java/lang/String" "value" "[B") (.int (Int32.ofNat j))) (.int ((nd_by.getD 4 []).getD j 0))) := by decide +kernel
theorem ws_ln : nd_ln = [96, 34, 10, 10, 10] := by decide +kernel
theorem ws_str5 : ∀ i : Nat, i < 5 → ∀ j : Nat, j < nd_ln.getD i 0 → Cond.eq (.elem (.field (nd_tm i) "java/lang/String" "value" "[B") (.int (Int32.ofNat j))) (.int ((nd_by.getD i []).getD j 0)) ∈ flatC (Jvm.Cond.and given_1 narrow_1) := by
  intro i hi j hj
  rw [ws_ln] at hj
  rcases (show i = 0 ∨ i = 1 ∨ i = 2 ∨ i = 3 ∨ i = 4 by omega) with rfl | rfl | rfl | rfl | rfl
  · exact List.mem_of_getElem? (ws_s5_0 j hj)
  · exact List.mem_of_getElem? (ws_s5_1 j hj)
  · exact List.mem_of_getElem? (ws_s5_2 j hj)
  · exact List.mem_of_getElem? (ws_s5_3 j hj)
  · exact List.mem_of_getElem? (ws_s5_4 j hj)
theorem ws_str6 : ∀ i : Nat, i < 5 → ∀ j : Nat, j < 5 → i ≠ j → Cond.not (Cond.eq (nd_tm i) (nd_tm j)) ∈ flatC (Jvm.Cond.and given_1 narrow_1) ∨ Cond.not (Cond.eq (nd_tm j) (nd_tm i)) ∈ flatC (Jvm.Cond.and given_1 narrow_1) := by decide +kernel
theorem ws_str7 : ∀ i : Nat, i < 5 → nd_ln.getD i 0 < 2 ^ 31 := by decide +kernel
theorem ws_str8 : ∀ i : Nat, i < 5 → Cond.stringRef "NextDoorBrides$Reader" (nd_px.getD i 0) (nd_tx.getD i "") ∈ lw_tbl := by decide +kernel
theorem ws_mo1 : Cond.arrayOf (.static "NextDoorBrides" "MOST_OF" "[I") .int ∈ flatC (Jvm.Cond.and given_1 narrow_1) := by decide +kernel
theorem ws_mo2 : Cond.eq (.length (.static "NextDoorBrides" "MOST_OF" "[I")) (.int (Int32.ofNat 5)) ∈ flatC (Jvm.Cond.and given_1 narrow_1) := by decide +kernel
theorem ws_mo3 : ∀ j : Nat, j < 5 → Cond.eq (.elem (.static "NextDoorBrides" "MOST_OF" "[I") (.int (Int32.ofNat j))) (.int (nd_mo j)) ∈ flatC (Jvm.Cond.and given_1 narrow_1) := by decide +kernel
theorem ws_mo4 : Cond.laysStatic "NextDoorBrides" "MOST_OF" "[I" ∈ lw_tbl := by decide +kernel
theorem ws_cs1 : Cond.eq (.static "java/lang/String" "COMPACT_STRINGS" "Z") (.int 1) ∈ flatC (Jvm.Cond.and given_1 narrow_1) := by decide +kernel
theorem ws_fm1 : Cond.isRef (.static "jdk/internal/util/Preconditions" "SIOOBE_FORMATTER" "Ljava/util/function/BiFunction;") ∈ flatC (Jvm.Cond.and given_1 narrow_1) := by decide +kernel
theorem ws_fm2 : Cond.laysStatic "jdk/internal/util/Preconditions" "SIOOBE_FORMATTER" "Ljava/util/function/BiFunction;" ∈ lw_tbl := by decide +kernel
theorem ws_fm3 : Cond.initialized "jdk/internal/util/Preconditions" ∈ lw_tbl := by decide +kernel
theorem ws_cs2 : Cond.laysStatic "java/lang/String" "COMPACT_STRINGS" "Z" ∈ lw_tbl := by decide +kernel
theorem ws_in1 : Cond.initialized "NextDoorBrides" ∈ lw_tbl := by decide +kernel
theorem ws_in2 : Cond.initialized "java/lang/String" ∈ lw_tbl := by decide +kernel
theorem ws_ar1 : Cond.arrayClass .int ∈ lw_tbl := by decide +kernel
theorem ws_ar2 : Cond.arrayOver (.object "NextDoorBrides$Street") ∈ lw_tbl := by decide +kernel
theorem ws_cls : ∀ q ∈ nd_cl, Cond.instantiable q.1 q.2.2 ∈ lw_tbl := by decide +kernel
/-- which address a cell of ours has: new ones from sz on; the old ones as they are -/
def nd_ad (sz t0 b c0 : Nat) (aK aV : Nat → Nat) : Nat → Nat := fun i => if i < nd_ro then sz + i else if i = nd_ro then t0 else if i < 1000006 then aK (i - 1000001) else if i < 1000011 then aV (i - 1000006) else if i = 1000030 then c0 else b
set_option maxHeartbeats 4000000 in
set_option maxRecDepth 100000 in
theorem nd_start {args : Array Value} {s : State} {b : Nat} (hts : ∀ w ∈ lw_tbl, w.before args s = true) (hgv : (Jvm.Cond.and given_1 narrow_1).before args s = true) : ∃ (g : nd_G) (ad : Nat → Nat), va_K g.1 nd_cl (nd_tys g) s ∧ nd_Old ad (fun q => s.heap.size ≤ q) s s.heap ∧ nd_Ad ad ∧ ad 0 = s.heap.size ∧ ad nd_scr = b := by
  have hf := flat_of_before _ hgv
  have hA : ∀ a : Nat, a < s.heap.size → ¬ (fun q : Nat => s.heap.size ≤ q) a := fun a h1 h2 => absurd h1 (Nat.not_lt.mpr h2)
  obtain ⟨aK, aV, hS, hE⟩ := vk_Sof (args := args) (s := s) (N := 5) (tm := nd_tm) (len := nd_ln) (byt := nd_by) (A := fun q => s.heap.size ≤ q) ws_str7 (fun i hi => hf _ (ws_str1 i hi)) (fun i hi => hf _ (ws_str2 i hi)) (fun i hi => hf _ (ws_str3 i hi)) (fun i hi => hf _ (ws_str4 i hi)) (fun i hi j hj => hf _ (ws_str5 i hi j hj)) (fun i j hi hj hij => (ws_str6 i hi j hj hij).imp (hf _) (hf _)) hA
  obtain ⟨t0, ht0, hT⟩ := va_Tof (args := args) (s := s) (tm := .static "NextDoorBrides" "MOST_OF" "[I") (ty := .int) (N := 5) (f := fun j => .int (nd_mo j)) (A := fun q => s.heap.size ≤ q) (by decide) (hf _ ws_mo1) (va_eqt (hf _ ws_mo2)) (fun j hj => va_eqt (hf _ (ws_mo3 j hj))) hA
  have hZ := va_Zref (A := fun q => s.heap.size ≤ q) (hts _ ws_mo4) (hts _ ws_in1) ht0 hA
  have hC := va_Zof (A := fun q => s.heap.size ≤ q) (hts _ ws_cs2) (hts _ ws_in2) (va_eqi (hf _ ws_cs1)) hA
  have hv9 : ∃ v0 : Value, (Term.static "jdk/internal/util/Preconditions" "SIOOBE_FORMATTER" "Ljava/util/function/BiFunction;").eval args s none [] s = some v0 ∧ (v0 = .null ∨ ∃ a : Nat, v0 = .ref a) := by
    have h := hf _ ws_fm1
    cases hv : (Term.static "jdk/internal/util/Preconditions" "SIOOBE_FORMATTER" "Ljava/util/function/BiFunction;").eval args s none [] s with
    | none => simp [Cond.before, Cond.holds, Cond.value, hv] at h
    | some w =>
      simp only [Cond.before, Cond.holds, Cond.value, hv] at h
      cases w with
      | ref a => exact ⟨_, rfl, Or.inr ⟨a, rfl⟩⟩
      | null => exact ⟨_, rfl, Or.inl rfl⟩
      | _ => simp at h
  obtain ⟨v0, hv0, hr0⟩ := hv9
  obtain ⟨c0, w0, hw0, hq0⟩ : ∃ (c0 : Nat) (w : Value), (w = .null ∨ w = .ref 1000030) ∧ v0 = nd_v (nd_ad s.heap.size t0 b c0 aK aV) w := by
    rcases hr0 with rfl | ⟨a, rfl⟩
    · exact ⟨0, .null, Or.inl rfl, rfl⟩
    · exact ⟨a, .ref 1000030, Or.inr rfl, rfl⟩
  have hM := va_Zof (A := fun q => s.heap.size ≤ q) (hts _ ws_fm2) (hts _ ws_fm3) hv0 hA
  rw [hq0] at hM
  have hk : ∀ k : Nat, ∃ q : ClassId × (Nat → Nat), ∀ w, nd_cl[k]? = some w → u_Kn s w.1 w.2.1 w.2.2 q.1 q.2 := by
    intro k
    cases hw : nd_cl[k]? with
    | none => exact ⟨(0, fun _ => 0), fun w h => by cases h⟩
    | some w =>
      obtain ⟨cC, iS, hK⟩ := u_known (ws := lw_tbl) (C := w.1) (T := w.2.1) (N := w.2.2) (n := w.2.2) hts (fun w' h' => (List.mem_filter.mp ((nd_clOK hw).1 w' h')).1) (hts _ (ws_cls w (List.mem_of_getElem? hw)))
      exact ⟨(cC, iS), fun w2 h => by cases h; exact hK⟩
  obtain ⟨D, hD⟩ := Classical.axiomOfChoice hk
  obtain ⟨cI, kI, coI, i1, i2, i3⟩ := Cond.arrayClass_spec (hts _ ws_ar1)
  obtain ⟨coS, cS, kS, s1, s2, s3, s4, s5⟩ := Cond.arrayOver_spec (hts _ ws_ar2)
  refine ⟨((fun k => (D k).1, fun k => (D k).2), cI, cS), nd_ad s.heap.size t0 b c0 aK aV, ⟨fun k q hq => hD k q hq, fun k q hq => ?_⟩, ⟨hZ, hT, ⟨hC, w0, hw0, hM⟩, ?_, fun i hi => ?_, va_AO.of (hts _ ws_ar2)⟩, ?_, rfl, rfl⟩
  · match k, hq with
    | 0, hq => cases hq; exact ⟨fun n z => ⟨fun k h => (by cases h), kI, i2, coI, i3⟩, i1⟩
    | 1, hq => cases hq; exact ⟨fun n z => ⟨fun k h => (by cases h), kS, s3, coS, s4⟩, kS, coS, s3, s4, s1, s5⟩
    | k + 2, hq => cases hq
  · refine ⟨fun i hi => ?_, fun i j hi hj e => ?_⟩
    · have e1 : nd_ad s.heap.size t0 b c0 aK aV (1000001 + i) = aK i := by
        unfold nd_ad
        rw [if_neg (by show ¬ _ < 1000000; omega), if_neg (by show ¬ _ = 1000000; omega), if_pos (by omega), Nat.add_sub_cancel_left]
      have e2 : nd_ad s.heap.size t0 b c0 aK aV (1000006 + i) = aV i := by
        unfold nd_ad
        rw [if_neg (by show ¬ _ < 1000000; omega), if_neg (by show ¬ _ = 1000000; omega), if_neg (by omega), if_pos (by omega), Nat.add_sub_cancel_left]
      have h9 := hS.1 i hi
      rw [← e1, ← e2] at h9
      exact h9
    · have e1 : ∀ i : Nat, i < 5 → nd_ad s.heap.size t0 b c0 aK aV (1000001 + i) = aK i := by
        intro i hi
        unfold nd_ad
        rw [if_neg (by show ¬ _ < 1000000; omega), if_neg (by show ¬ _ = 1000000; omega), if_pos (by omega), Nat.add_sub_cancel_left]
      exact hS.2 i j hi hj (by rw [← e1 i hi, ← e1 j hj]; exact e)
  · have e1 : nd_ad s.heap.size t0 b c0 aK aV (1000001 + i) = aK i := by
      unfold nd_ad
      rw [if_neg (by show ¬ _ < 1000000; omega), if_neg (by show ¬ _ = 1000000; omega), if_pos (by omega), Nat.add_sub_cancel_left]
    rw [e1]
    exact vk_R.of (hts _ (ws_str8 i hi)) (hE i hi)
  · intro i n h
    have h : i + n < 1000000 := h
    unfold nd_ad
    rw [if_pos (show i + n < 1000000 from h), if_pos (show i < 1000000 by omega)]
    omega
set_option maxHeartbeats 4000000 in
set_option maxRecDepth 100000 in
theorem whole_start_open (hp : nd_Pure) {p : Program} {e : Env} {s : State} {m : MethodId} {below : List Frame} {meth : Method} {c : Code} (l : Launch) {b L : Nat} {xs : Nat → Int32} (hnm : meth.name = "law") (hL : L ≤ 3072) (C0 : lw_At p s m meth c b L xs) : W p l e room_1 s m #[Value.ref b] below meth c s.heap [] 0 0 (lw_Z below #[Value.ref b] s) (entryFrame m ([Value.ref b] : List Value).toArray 4) := by
  obtain ⟨hx, hb, hr, hml, hown, hts, hX, hbl, hlocks, hgv⟩ := C0
  obtain ⟨F, z, hz⟩ := hp L xs hL
  have hV := t_law F L xs (fun _ _ => 0) hz
  obtain ⟨g, ad, hK, hO, hAd, had, hsc⟩ := nd_start (b := b) hts hgv
  have hl := lv_entry ([.ref b]) (n := 4) (Nat.le_of_ble_eq_true rfl)
  rw [lg_entry_eq]
  rw [← hsc]
  rw [← hsc] at hl hX hbl hts hgv
  refine hV l p e s m _ below meth c g ad (fun q => s.heap.size ≤ q) _ ⟨hx, hb, hml, hown, fun w hw => hts w (List.mem_filter.mp hw).1, fun w hw => ?_, hK, fun q h => h, hO, ?_, fun q hq => ?_, hAd⟩ ?_ s.heap [] _ (by rw [Nat.add_zero]; exact had.symm) ⟨fun k q h => by simp [nd_world] at h, fun i j p q h => by simp [nd_world] at h, fun k q h => by simp [nd_world] at h⟩ va_S.rf hl
  · refine va_Nw.of ?_ (hts w (List.mem_filter.mp hw).1)
    have h1 := (List.mem_filter.mp hw).2
    cases w <;> first | rfl | (exact absurd h1 (by simp [nd_isNest]))
  · exact hnm
  · cases hq
    exact ⟨hX, hbl, Nat.not_le.mpr hbl⟩
  · intro r sh' σ' H locs la pc' hp' hok hI hS hd
    cases hp'
    refine va_forget (fun q hq => hS.2.2 q hq) ?_
    exact lw_ret hx hb hr hlocks hd
