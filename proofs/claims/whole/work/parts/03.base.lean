/-! ===== the machine of this proof: a heap of cells by number, all contents in one memory ===== -/
abbrev nd_Mem : Type := Nat → Nat → Int32
/-- a cell's shape: an object (class, how each field is read off the memory), a row of ints, a row of references -/
abbrev nd_S : Type := (Nat × List (Int32 → Value)) ⊕ (Nat ⊕ (Nat × (Nat → Option Nat)))
abbrev nd_M : Type := MethodName × ByteArray × Nat × Option FieldType × Option (Nat × (Nat → Int32))
abbrev nd_G : Type := va_G × ClassId × ClassId
def nd_up (σ : nd_Mem) (i k : Nat) (v : Int32) : nd_Mem := fun a j => if a = i then (if j = k then v else σ a j) else σ a j
def nd_row (σ : nd_Mem) (i : Nat) (f : Nat → Int32) : nd_Mem := fun a => if a = i then f else σ a
def nd_v (ad : Nat → Nat) : Value → Value
  | .ref k => .ref (ad k)
  | v => v
def nd_cell (ad : Nat → Nat) (cI cS : ClassId) (f : Nat → Int32) : nd_S → va_E
  | .inl o => .inr (o.1, o.2.mapIdx (fun k g => nd_v ad (g (f k))))
  | .inr (.inl n) => .inl (cI, n, .inl f)
  | .inr (.inr q) => .inl (cS, q.1, .inr (.inr (.inr (.inr (fun j => (q.2 j).map ad)))))
def nd_world (ad : Nat → Nat) (g : nd_G) (sh : List nd_S) (σ : nd_Mem) : va_W := sh.mapIdx (fun i e => (ad i, nd_cell ad g.2.1 g.2.2 (σ i) e))
abbrev nd_cl : List vw_C := [(RX1, TX1, 3), (RX2, TX2, 4), (RX3, TX3, 15), (RX4, TX4, 2), (RX5, TX5, 7), (RX6, TX6, 9), (RX7, TX7, 3), (RX8, TX8, 6), (RX9, TX9, 6), (RX10, TX10, 11), (RX11, TX11, 69)]
def nd_isNest : Cond → Bool
  | .fieldLinkNest .. => true
  | .methodLinkNest .. => true
  | _ => false
def nd_tbl : List Cond := lw_tbl.filter goodWord
def nd_nest : List Cond := lw_tbl.filter nd_isNest
/-- numbers from here on are cells that were there before the law began -/
abbrev nd_ro : Nat := 1000000
abbrev nd_scr : Nat := 1000020
/-- new cells come one behind the other -/
def nd_Ad (ad : Nat → Nat) : Prop := ∀ i n : Nat, i + n < nd_ro → ad (i + n) = ad i + n
def nd_mo : Nat → Int32 := fun j => if j = 2 then 9999 else if j = 4 then 1 else 9
def nd_tx : List String := ["goes bears brings when or and not girls boys couples dowry widow number side jug gaps generation", "in girl boy widow comfort give jug", "house feud", "house side", ";+-*/()<=>"]
def nd_by : List (List Int32) := nd_tx.map (fun t => t.toList.map (fun c => Int32.ofNat c.toNat))
def nd_ln : List Nat := nd_by.map List.length
def nd_px : List Nat := [35, 75, 77, 79, 192]
def nd_Old (ad : Nat → Nat) (A : Nat → Prop) (U : State) (H : Heap) : Prop :=
  va_Z "NextDoorBrides" "MOST_OF" "[I" (.ref (ad nd_ro)) A U H ∧ va_T .int (ad nd_ro) 5 (fun j => .int (nd_mo j)) A U H ∧ (va_Z "java/lang/String" "COMPACT_STRINGS" "Z" (.int 1) A U H ∧ ∃ w : Value, (w = .null ∨ w = .ref 1000030) ∧ va_Z "jdk/internal/util/Preconditions" "SIOOBE_FORMATTER" "Ljava/util/function/BiFunction;" (nd_v ad w) A U H) ∧
  vk_S 5 nd_ln nd_by (fun i => ad (1000001 + i)) (fun i => ad (1000006 + i)) A U H ∧ (∀ i : Nat, i < 5 → vk_R "NextDoorBrides$Reader" (nd_px.getD i 0) (nd_tx.getD i "") (ad (1000001 + i)) U) ∧ va_AO "NextDoorBrides$Street" U
def nd_In (g : nd_G) (ad : Nat → Nat) (A : Nat → Prop) (sh : List nd_S) (σ : nd_Mem) (H : Heap) : Prop := va_P g.1 nd_cl (nd_world ad g sh σ) H ∧ va_D A (nd_world ad g sh σ)
abbrev nd_tys (g : nd_G) : List (ClassId × FieldType) := [(g.2.1, .int), (g.2.2, .object "NextDoorBrides$Street")]
def nd_Scr (M : nd_M) (ad : Nat → Nat) (A : Nat → Prop) (s : State) : Prop := ∀ q, M.2.2.2.2 = some q → va_X (ad nd_scr) q.1 q.2 s s.heap ∧ ad nd_scr < s.heap.size ∧ ¬ A (ad nd_scr)
/-- what stays while a method's body runs -/
def nd_Fix (M : nd_M) (p : Program) (s : State) (m : MethodId) (args : Array Value) (meth : Method) (c : Code) (g : nd_G) (ad : Nat → Nat) (A : Nat → Prop) : Prop :=
  p.tables.exec = Jvm.exec ∧ c.code = M.2.1 ∧ c.maxLocals = M.2.2.1 ∧ s.vm.findClass M.1.cls = some m.cls ∧ (∀ w ∈ nd_tbl, w.before args s = true) ∧ (∀ w ∈ nd_nest, va_Nw w s) ∧ va_K g.1 nd_cl (nd_tys g) s ∧ (∀ q : Nat, s.heap.size ≤ q → A q) ∧ nd_Old ad A s s.heap ∧ meth.name = M.1.name ∧ nd_Scr M ad A s ∧ nd_Ad ad
/-- the answer fits the method's type -/
def nd_okr : Option FieldType → Option Value → Prop
  | none, none => True
  | some t, some (.int v) => narrow t (.int v) = .int v
  | some t, some (.ref _) => (∃ n, t = .object n) ∨ ∃ t', t = .array t'
  | _, _ => False
abbrev nd_Post : Type := Option Value → List nd_S → nd_Mem → Prop
/-- from the point pc, with these locals, this stack and this memory, the method M comes to an end with 'post' -/
def nd_V (M : nd_M) (R : Room) (post : nd_Post) (kc ks pc : Nat) (ls : List (Nat × Value)) (st : List Value) (sh : List nd_S) (σ : nd_Mem) : Prop :=
  ∀ (l : Launch) (p : Program) (e : Env) (s : State) (m : MethodId) (args : Array Value) (below : List Frame) (meth : Method) (c : Code) (g : nd_G) (ad : Nat → Nat) (A : Nat → Prop) (Q : State → Prop), nd_Fix M p s m args meth c g ad A →
    (∀ (r : Option Value) (sh' : List nd_S) (σ' : nd_Mem) (H : Heap) (locs : List Loc) (la : Array Slot) (pc' : Nat), post r sh' σ' → nd_okr M.2.2.2.1 r → nd_In g ad A sh' σ' H → va_S A s.heap H locs → decode M.2.1 pc' = .ok ((match r with | none => .return_ | some (.int _) => .ireturn | some _ => .areturn), 1) → W p l e R s m args below meth c H locs R.cells R.slots Q (F0 m pc' la (r.toList.map (nd_v ad)))) →
    ∀ (H : Heap) (locs : List Loc) (la : Array Slot), s.heap.size + kc = ad sh.length → nd_In g ad A sh σ H → va_S A s.heap H locs → lv_has la M.2.2.1 (ls.map (fun q => (q.1, nd_v ad q.2))) → W p l e R s m args below meth c H locs kc ks Q (F0 m pc la (st.map (nd_v ad)))
def nd_ws (M : nd_M) : List Cond := Cond.code M.1 M.2.1 M.2.2.1 M.2.2.2.1 :: nd_tbl
def nd_Env (g : nd_G) (ad : Nat → Nat) (A : Nat → Prop) (U : State) : Prop := (∀ w ∈ nd_nest, va_Nw w U) ∧ va_K g.1 nd_cl (nd_tys g) U ∧ nd_Old ad A U U.heap ∧ nd_Ad ad
def nd_Q (M : nd_M) (g : nd_G) (ad : Nat → Nat) (A : Nat → Prop) (post : nd_Post) : Array Value → State → Outcome → State → Prop := fun _ st oc t =>
  (∃ (r : Option Value) (sh' : List nd_S) (σ' : nd_Mem), oc = .returned (r.map (nd_v ad)) ∧ nd_okr M.2.2.2.1 r ∧ post r sh' σ' ∧ nd_In g ad A sh' σ' t.heap) ∧ va_F A st t
abbrev nd_A (ad : Nat → Nat) (g : nd_G) (sh : List nd_S) (σ : nd_Mem) (sz : Nat) : Nat → Prop := va_A (nd_world ad g sh σ) sz
abbrev nd_Pc (as : List Value) (g : nd_G) (ad : Nat → Nat) (sh : List nd_S) (σ : nd_Mem) (sz : Nat) : Array Value → State → Prop := va_Pc (as.map (nd_v ad)) (fun U => U.heap.size = sz ∧ sz = ad sh.length ∧ nd_In g ad (nd_A ad g sh σ sz) sh σ U.heap ∧ nd_Env g ad (nd_A ad g sh σ sz) U)
/-- the method M, called with 'as' on this memory, returns with 'post' -/
def nd_Fn (M : nd_M) (R : Room) (as : List Value) (sh : List nd_S) (σ : nd_Mem) (post : nd_Post) : Prop :=
  ∀ (l : Launch) (g : nd_G) (ad : Nat → Nat) (sz : Nat), Met l M.1 (nd_ws M) R (nd_Pc as g ad sh σ sz) (nd_Q M g ad (nd_A ad g sh σ sz) post) R.cells R.slots (nd_A ad g sh σ sz)
/-! worlds -/
theorem nd_world_get {ad : Nat → Nat} {g : nd_G} {sh : List nd_S} {σ : nd_Mem} {i : Nat} {e : nd_S} (h : sh[i]? = some e) : (nd_world ad g sh σ)[i]? = some (ad i, nd_cell ad g.2.1 g.2.2 (σ i) e) := by
  unfold nd_world
  rw [List.getElem?_mapIdx, h]
  rfl
theorem nd_up_ne {σ : nd_Mem} {i k a : Nat} {v : Int32} (h : a ≠ i) : nd_up σ i k v a = σ a := by
  funext j
  simp [nd_up, h]
theorem nd_up_at {σ : nd_Mem} {i k : Nat} {v : Int32} : nd_up σ i k v i = upd (σ i) k v := by
  funext j
  simp [nd_up, upd]
theorem nd_row_ne {σ : nd_Mem} {i a : Nat} {f : Nat → Int32} (h : a ≠ i) : nd_row σ i f a = σ a := by simp [nd_row, h]
theorem nd_row_at {σ : nd_Mem} {i : Nat} {f : Nat → Int32} : nd_row σ i f i = f := by simp [nd_row]
/-- a change of one cell -/
theorem nd_world_set {ad : Nat → Nat} {g : nd_G} {sh : List nd_S} {σ σ' : nd_Mem} {i : Nat} {e' : nd_S} {x : va_E} (hx : nd_cell ad g.2.1 g.2.2 (σ' i) e' = x) (ho : ∀ a : Nat, a ≠ i → σ' a = σ a) : nd_world ad g (sh.set i e') σ' = (nd_world ad g sh σ).set i (ad i, x) := by
  apply List.ext_getElem?
  intro j
  unfold nd_world
  rw [List.getElem?_mapIdx, List.getElem?_set, List.getElem?_set]
  by_cases hj : i = j
  · subst hj
    simp only [if_true, List.length_mapIdx]
    by_cases hl : i < sh.length
    · simp [hl, hx]
    · simp [hl]
  · simp only [hj, if_false]
    rw [List.getElem?_mapIdx, ho j (fun h => hj h.symm)]
theorem nd_set_self {sh : List nd_S} {i : Nat} {e : nd_S} (h : sh[i]? = some e) : sh.set i e = sh := by
  apply List.ext_getElem?
  intro j
  rw [List.getElem?_set]
  by_cases hj : i = j
  · subst hj
    have hl := (List.getElem?_eq_some_iff.mp h).1
    rw [if_pos rfl, if_pos hl, h]
  · simp [hj]
theorem nd_In.narrow {g : nd_G} {ad : Nat → Nat} {A : Nat → Prop} {sh : List nd_S} {σ : nd_Mem} {H : Heap} {sz : Nat} (h : nd_In g ad A sh σ H) : nd_In g ad (nd_A ad g sh σ sz) sh σ H := ⟨h.1, h.2.self⟩
theorem nd_Old.moved {ad : Nat → Nat} {A : Nat → Prop} {u U : State} {H : Heap} (hW : u.WarmedH U.vm) (h : nd_Old ad A u H) : nd_Old ad A U H :=
  ⟨h.1.moved hW.alike, h.2.1.moved hW.alike, ⟨h.2.2.1.1.moved hW.alike, h.2.2.1.2.choose, h.2.2.1.2.choose_spec.1, h.2.2.1.2.choose_spec.2.moved hW.alike⟩, h.2.2.2.1.moved hW.alike, fun i hi => (h.2.2.2.2.1 i hi).warm hW, h.2.2.2.2.2.moved hW.alike⟩
theorem nd_Old.same {ad : Nat → Nat} {A : Nat → Prop} {u U : State} {H : Heap} (hv : U.vm = u.vm) (h : nd_Old ad A u H) : nd_Old ad A U H := by
  have hal : u.vm.Alike U.vm := by rw [hv]; exact Vm.Alike.refl u.vm
  exact ⟨h.1.moved hal, h.2.1.moved hal, ⟨h.2.2.1.1.moved hal, h.2.2.1.2.choose, h.2.2.1.2.choose_spec.1, h.2.2.1.2.choose_spec.2.moved hal⟩, h.2.2.2.1.moved hal, fun i hi => (h.2.2.2.2.1 i hi).same hv, h.2.2.2.2.2.moved hal⟩
theorem nd_Old.kept {ad : Nat → Nat} {A : Nat → Prop} {U : State} {H H1 : Heap} (h : nd_Old ad A U H) (hq : ∀ a : Nat, a < H.size → ¬ A a → H1[a]? = H[a]?) : nd_Old ad A U H1 :=
  ⟨h.1.kept hq, h.2.1.kept hq, ⟨h.2.2.1.1.kept hq, h.2.2.1.2.choose, h.2.2.1.2.choose_spec.1, h.2.2.1.2.choose_spec.2.kept hq⟩, h.2.2.2.1.kept hq, h.2.2.2.2⟩
theorem nd_Old.narrow {ad : Nat → Nat} {A B : Nat → Prop} {U : State} {H : Heap} (h : nd_Old ad A U H) (hAB : ∀ q, B q → A q) : nd_Old ad B U H :=
  ⟨h.1.narrow hAB, h.2.1.narrow hAB, ⟨h.2.2.1.1.narrow hAB, h.2.2.1.2.choose, h.2.2.1.2.choose_spec.1, h.2.2.1.2.choose_spec.2.narrow hAB⟩, h.2.2.2.1.narrow hAB, h.2.2.2.2⟩
theorem nd_nest_warm {w : Cond} (h : w ∈ nd_nest) {s U : State} (hW : s.WarmedH U.vm) (hz : va_Nw w s) : va_Nw w U := by
  have h1 : nd_isNest w = true := (List.mem_filter.mp h).2
  cases w <;> first | exact va_Nw.warmF hW hz | exact va_Nw.warmM hW hz | (exact absurd h1 (by simp [nd_isNest]))
theorem nd_nest_same {w : Cond} (h : w ∈ nd_nest) {u U : State} (hv : u.vm = U.vm) (hz : va_Nw w u) : va_Nw w U := by
  have h1 : nd_isNest w = true := (List.mem_filter.mp h).2
  refine va_Nw.same ?_ hv hz
  cases w <;> first | rfl | (exact absurd h1 (by simp [nd_isNest]))
theorem nd_tbl_good {w : Cond} (h : w ∈ nd_tbl) : (w.onTables && w.keeps) = true ∨ ∃ ty, w = .arrayClass ty := good_of_word (List.mem_filter.mp h).2
theorem nd_good {M : nd_M} (hc : Cond.code M.1 M.2.1 M.2.2.1 M.2.2.2.1 ∈ nd_tbl) : GoodIn nd_tbl (nd_ws M) := by
  intro w hw
  have : w ∈ nd_tbl := by
    rcases List.mem_cons.mp hw with rfl | h
    · exact hc
    · exact h
  exact ⟨this, nd_tbl_good this⟩
