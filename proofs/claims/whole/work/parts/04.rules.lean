section ND_R
variable {M : nd_M} {R : Room} {post : nd_Post} {kc ks pc : Nat} {ls : List (Nat × Value)} {st : List Value} {sh : List nd_S} {σ : nd_Mem}
theorem nd_cat (ad : Nat → Nat) (v : Value) : (nd_v ad v).category = v.category := by cases v <;> rfl
theorem nd_at {ad : Nat → Nat} {ls : List (Nat × Value)} {k i : Nat} {v : Value} (h : ls[k]? = some (i, v)) : (ls.map (fun q => (q.1, nd_v ad q.2)))[k]? = some (i, nd_v ad v) := by
  rw [List.getElem?_map, h]
  rfl
theorem nd_filter1 {ad : Nat → Nat} {ls ls' : List (Nat × Value)} {i : Nat} {v : Value} (h : (i, v) :: ls.filter (fun q => !(q.1 == i) && !(q.1 + 1 == i && q.2.category == 2)) = ls') : (i, nd_v ad v) :: (ls.map (fun q => (q.1, nd_v ad q.2))).filter (fun q => !(q.1 == i) && !(q.1 + 1 == i && q.2.category == 2)) = ls'.map (fun q => (q.1, nd_v ad q.2)) := by
  subst h
  rw [List.filter_map, List.map_cons]
  simp only [Function.comp_def, nd_cat]
theorem nd_filter2 {ad : Nat → Nat} {ls ls' : List (Nat × Value)} {i : Nat} {v : Value} (h : (i, v) :: ls.filter (fun q => !(q.1 == i) && (!(q.1 == i + 1) && !(q.1 + 1 == i && q.2.category == 2))) = ls') : (i, nd_v ad v) :: (ls.map (fun q => (q.1, nd_v ad q.2))).filter (fun q => !(q.1 == i) && (!(q.1 == i + 1) && !(q.1 + 1 == i && q.2.category == 2))) = ls'.map (fun q => (q.1, nd_v ad q.2)) := by
  subst h
  rw [List.filter_map, List.map_cons]
  simp only [Function.comp_def, nd_cat]
/-- fewer locals, in another order -/
theorem nd_sub {ls' : List (Nat × Value)} (ks' : List Nat) (h : ks'.filterMap (fun k => ls[k]?) = ls') (kk : nd_V M R post kc ks pc ls' st sh σ) : nd_V M R post kc ks pc ls st sh σ := by
  intro l p e s m args below meth c g ad A Q hf hr H locs la hz hI hS hl
  refine kk l p e s m args below meth c g ad A Q hf hr H locs la hz hI hS (lv_sub hl ks' ?_)
  subst h
  unfold lv_pick
  rw [List.map_filterMap]
  congr 1
  funext k
  rw [List.getElem?_map]
theorem nd_to {pc' : Nat} {ls' : List (Nat × Value)} {st' : List Value} (h1 : pc = pc') (h2 : ls = ls') (h3 : st = st') (kk : nd_V M R post kc ks pc' ls' st' sh σ) : nd_V M R post kc ks pc ls st sh σ := by
  subst h1; subst h2; subst h3
  exact kk
theorem nd_iconst {n : Int} {v : Int32} (hd : decode M.2.1 pc = .ok (.iconst n, 1)) (hv : Int32.ofInt n = v) (kk : nd_V M R post kc ks (pc + 1) ls (.int v :: st) sh σ) : nd_V M R post kc ks pc ls st sh σ := by
  intro l p e s m args below meth c g ad A Q hf hr H locs la hz hI hS hl
  exact lv_iconst hf.1 hf.2.1 hd hv (kk l p e s m args below meth c g ad A Q hf hr H locs la hz hI hS hl)
theorem nd_bipush {n : Int} {v : Int32} (hd : decode M.2.1 pc = .ok (.bipush n, 2)) (hv : (Int8.ofInt n).toInt32 = v) (kk : nd_V M R post kc ks (pc + 2) ls (.int v :: st) sh σ) : nd_V M R post kc ks pc ls st sh σ := by
  intro l p e s m args below meth c g ad A Q hf hr H locs la hz hI hS hl
  exact lv_bipush hf.1 hf.2.1 hd hv (kk l p e s m args below meth c g ad A Q hf hr H locs la hz hI hS hl)
theorem nd_sipush {n : Int} {v : Int32} (hd : decode M.2.1 pc = .ok (.sipush n, 3)) (hv : (Int16.ofInt n).toInt32 = v) (kk : nd_V M R post kc ks (pc + 3) ls (.int v :: st) sh σ) : nd_V M R post kc ks pc ls st sh σ := by
  intro l p e s m args below meth c g ad A Q hf hr H locs la hz hI hS hl
  exact lv_sipush hf.1 hf.2.1 hd hv (kk l p e s m args below meth c g ad A Q hf hr H locs la hz hI hS hl)
theorem nd_ldc {n : Nat} {v : Int32} (hd : decode M.2.1 pc = .ok (.ldc n, 2)) (hw : Cond.constant M.1.cls n v ∈ nd_tbl) (kk : nd_V M R post kc ks (pc + 2) ls (.int v :: st) sh σ) : nd_V M R post kc ks pc ls st sh σ := by
  intro l p e s m args below meth c g ad A Q hf hr H locs la hz hI hS hl
  exact lv_ldc hf.1 hf.2.1 hf.2.2.2.1 (hf.2.2.2.2.1 _ hw) hd (kk l p e s m args below meth c g ad A Q hf hr H locs la hz hI hS hl)
theorem nd_ldcw {n : Nat} {v : Int32} (hd : decode M.2.1 pc = .ok (.ldc_w n, 3)) (hw : Cond.constant M.1.cls n v ∈ nd_tbl) (kk : nd_V M R post kc ks (pc + 3) ls (.int v :: st) sh σ) : nd_V M R post kc ks pc ls st sh σ := by
  intro l p e s m args below meth c g ad A Q hf hr H locs la hz hI hS hl
  exact lv_ldcw hf.1 hf.2.1 hf.2.2.2.1 (hf.2.2.2.2.1 _ hw) hd (kk l p e s m args below meth c g ad A Q hf hr H locs la hz hI hS hl)
theorem nd_ldc2 {n : Nat} {v : Int64} (hd : decode M.2.1 pc = .ok (.ldc2_w n, 3)) (hw : Cond.constantLong M.1.cls n v ∈ nd_tbl) (kk : nd_V M R post kc ks (pc + 3) ls (.long v :: st) sh σ) : nd_V M R post kc ks pc ls st sh σ := by
  intro l p e s m args below meth c g ad A Q hf hr H locs la hz hI hS hl
  exact lv_ldc2 hf.1 hf.2.1 hf.2.2.2.1 (hf.2.2.2.2.1 _ hw) hd (kk l p e s m args below meth c g ad A Q hf hr H locs la hz hI hS hl)
theorem nd_lconst {n : Fin 2} {v : Int64} (hd : decode M.2.1 pc = .ok (.lconst n, 1)) (hv : Int64.ofNat (n : Nat) = v) (kk : nd_V M R post kc ks (pc + 1) ls (.long v :: st) sh σ) : nd_V M R post kc ks pc ls st sh σ := by
  intro l p e s m args below meth c g ad A Q hf hr H locs la hz hI hS hl
  exact lv_lconst hf.1 hf.2.1 hd hv (kk l p e s m args below meth c g ad A Q hf hr H locs la hz hI hS hl)
theorem nd_null  (hd : decode M.2.1 pc = .ok (.aconst_null, 1)) (kk : nd_V M R post kc ks (pc + 1) ls (.null :: st) sh σ) : nd_V M R post kc ks pc ls st sh σ := by
  intro l p e s m args below meth c g ad A Q hf hr H locs la hz hI hS hl
  exact lv_null hf.1 hf.2.1 hd (kk l p e s m args below meth c g ad A Q hf hr H locs la hz hI hS hl)
theorem nd_iload {i : Nat} {x : Int32} (hd : decode M.2.1 pc = .ok (.iload i, 2)) (k : Nat) (hk : ls[k]? = some (i, .int x)) (kk : nd_V M R post kc ks (pc + 2) ls (.int x :: st) sh σ) : nd_V M R post kc ks pc ls st sh σ := by
  intro l p e s m args below meth c g ad A Q hf hr H locs la hz hI hS hl
  exact lv_iload hf.1 hf.2.1 hd (lv_at hl k (nd_at hk)) (kk l p e s m args below meth c g ad A Q hf hr H locs la hz hI hS hl)
theorem nd_iload_n {i : Fin 4} {x : Int32} (hd : decode M.2.1 pc = .ok (.iload_n i, 1)) (k : Nat) (hk : ls[k]? = some ((i : Nat), .int x)) (kk : nd_V M R post kc ks (pc + 1) ls (.int x :: st) sh σ) : nd_V M R post kc ks pc ls st sh σ := by
  intro l p e s m args below meth c g ad A Q hf hr H locs la hz hI hS hl
  exact lv_iload_n hf.1 hf.2.1 hd rfl (lv_at hl k (nd_at hk)) (kk l p e s m args below meth c g ad A Q hf hr H locs la hz hI hS hl)
theorem nd_aload {i : Nat} {x : Nat} (hd : decode M.2.1 pc = .ok (.aload i, 2)) (k : Nat) (hk : ls[k]? = some (i, .ref x)) (kk : nd_V M R post kc ks (pc + 2) ls (.ref x :: st) sh σ) : nd_V M R post kc ks pc ls st sh σ := by
  intro l p e s m args below meth c g ad A Q hf hr H locs la hz hI hS hl
  exact lv_aload hf.1 hf.2.1 hd (lv_at hl k (nd_at hk)) (kk l p e s m args below meth c g ad A Q hf hr H locs la hz hI hS hl)
theorem nd_aload_n {i : Fin 4} {x : Nat} (hd : decode M.2.1 pc = .ok (.aload_n i, 1)) (k : Nat) (hk : ls[k]? = some ((i : Nat), .ref x)) (kk : nd_V M R post kc ks (pc + 1) ls (.ref x :: st) sh σ) : nd_V M R post kc ks pc ls st sh σ := by
  intro l p e s m args below meth c g ad A Q hf hr H locs la hz hI hS hl
  exact lv_aload_n hf.1 hf.2.1 hd rfl (lv_at hl k (nd_at hk)) (kk l p e s m args below meth c g ad A Q hf hr H locs la hz hI hS hl)
theorem nd_lload_n {i : Fin 4} {x : Int64} (hd : decode M.2.1 pc = .ok (.lload_n i, 1)) (k : Nat) (hk : ls[k]? = some ((i : Nat), .long x)) (kk : nd_V M R post kc ks (pc + 1) ls (.long x :: st) sh σ) : nd_V M R post kc ks pc ls st sh σ := by
  intro l p e s m args below meth c g ad A Q hf hr H locs la hz hI hS hl
  exact lv_lload_n hf.1 hf.2.1 hd rfl (lv_at hl k (nd_at hk)) (kk l p e s m args below meth c g ad A Q hf hr H locs la hz hI hS hl)
theorem nd_lload {i : Nat} {x : Int64} (hd : decode M.2.1 pc = .ok (.lload i, 2)) (k : Nat) (hk : ls[k]? = some (i, .long x)) (kk : nd_V M R post kc ks (pc + 2) ls (.long x :: st) sh σ) : nd_V M R post kc ks pc ls st sh σ := by
  intro l p e s m args below meth c g ad A Q hf hr H locs la hz hI hS hl
  exact lv_lload hf.1 hf.2.1 hd (lv_at hl k (nd_at hk)) (kk l p e s m args below meth c g ad A Q hf hr H locs la hz hI hS hl)
theorem nd_istore {i : Nat} {x : Int32} {ls' : List (Nat × Value)} (hd : decode M.2.1 pc = .ok (.istore i, 2)) (hn : i < M.2.2.1) (hl' : (i, Value.int x) :: ls.filter (fun q => !(q.1 == i) && !(q.1 + 1 == i && q.2.category == 2)) = ls') (kk : nd_V M R post kc ks (pc + 2) ls' st sh σ) : nd_V M R post kc ks pc ls (.int x :: st) sh σ := by
  intro l p e s m args below meth c g ad A Q hf hr H locs la hz hI hS hl
  exact lv_istore hf.1 hf.2.1 hd hl hn (nd_filter1 (ad := ad) hl') (fun la hl => kk l p e s m args below meth c g ad A Q hf hr H locs la hz hI hS hl)
theorem nd_istore_n {i : Fin 4} {x : Int32} {ls' : List (Nat × Value)} (hd : decode M.2.1 pc = .ok (.istore_n i, 1)) (hn : (i : Nat) < M.2.2.1) (hl' : ((i : Nat), Value.int x) :: ls.filter (fun q => !(q.1 == (i : Nat)) && !(q.1 + 1 == (i : Nat) && q.2.category == 2)) = ls') (kk : nd_V M R post kc ks (pc + 1) ls' st sh σ) : nd_V M R post kc ks pc ls (.int x :: st) sh σ := by
  intro l p e s m args below meth c g ad A Q hf hr H locs la hz hI hS hl
  exact lv_istore_n hf.1 hf.2.1 hd rfl hl hn (nd_filter1 (ad := ad) hl') (fun la hl => kk l p e s m args below meth c g ad A Q hf hr H locs la hz hI hS hl)
theorem nd_astore {i : Nat} {x : Nat} {ls' : List (Nat × Value)} (hd : decode M.2.1 pc = .ok (.astore i, 2)) (hn : i < M.2.2.1) (hl' : (i, Value.ref x) :: ls.filter (fun q => !(q.1 == i) && !(q.1 + 1 == i && q.2.category == 2)) = ls') (kk : nd_V M R post kc ks (pc + 2) ls' st sh σ) : nd_V M R post kc ks pc ls (.ref x :: st) sh σ := by
  intro l p e s m args below meth c g ad A Q hf hr H locs la hz hI hS hl
  exact lv_astore hf.1 hf.2.1 hd hl hn (nd_filter1 (ad := ad) hl') (fun la hl => kk l p e s m args below meth c g ad A Q hf hr H locs la hz hI hS hl)
theorem nd_astore_n {i : Fin 4} {x : Nat} {ls' : List (Nat × Value)} (hd : decode M.2.1 pc = .ok (.astore_n i, 1)) (hn : (i : Nat) < M.2.2.1) (hl' : ((i : Nat), Value.ref x) :: ls.filter (fun q => !(q.1 == (i : Nat)) && !(q.1 + 1 == (i : Nat) && q.2.category == 2)) = ls') (kk : nd_V M R post kc ks (pc + 1) ls' st sh σ) : nd_V M R post kc ks pc ls (.ref x :: st) sh σ := by
  intro l p e s m args below meth c g ad A Q hf hr H locs la hz hI hS hl
  exact lv_astore_n hf.1 hf.2.1 hd rfl hl hn (nd_filter1 (ad := ad) hl') (fun la hl => kk l p e s m args below meth c g ad A Q hf hr H locs la hz hI hS hl)
theorem nd_lstore_n {i : Fin 4} {x : Int64} {ls' : List (Nat × Value)} (hd : decode M.2.1 pc = .ok (.lstore_n i, 1)) (hn : (i : Nat) + 1 < M.2.2.1) (hl' : ((i : Nat), Value.long x) :: ls.filter (fun q => !(q.1 == (i : Nat)) && (!(q.1 == (i : Nat) + 1) && !(q.1 + 1 == (i : Nat) && q.2.category == 2))) = ls') (kk : nd_V M R post kc ks (pc + 1) ls' st sh σ) : nd_V M R post kc ks pc ls (.long x :: st) sh σ := by
  intro l p e s m args below meth c g ad A Q hf hr H locs la hz hI hS hl
  exact lv_lstore_n hf.1 hf.2.1 hd rfl hl hn (nd_filter2 (ad := ad) hl') (fun la hl => kk l p e s m args below meth c g ad A Q hf hr H locs la hz hI hS hl)
theorem nd_lstore {i : Nat} {x : Int64} {ls' : List (Nat × Value)} (hd : decode M.2.1 pc = .ok (.lstore i, 2)) (hn : i + 1 < M.2.2.1) (hl' : (i, Value.long x) :: ls.filter (fun q => !(q.1 == i) && (!(q.1 == i + 1) && !(q.1 + 1 == i && q.2.category == 2))) = ls') (kk : nd_V M R post kc ks (pc + 2) ls' st sh σ) : nd_V M R post kc ks pc ls (.long x :: st) sh σ := by
  intro l p e s m args below meth c g ad A Q hf hr H locs la hz hI hS hl
  exact lv_lstore hf.1 hf.2.1 hd hl hn (nd_filter2 (ad := ad) hl') (fun la hl => kk l p e s m args below meth c g ad A Q hf hr H locs la hz hI hS hl)
theorem nd_iinc {i : Nat} {n : Int} {x v : Int32} {ls' : List (Nat × Value)} (hd : decode M.2.1 pc = .ok (.iinc i n, 3)) (k : Nat) (hk : ls[k]? = some (i, .int x)) (hv : x + Int32.ofInt n = v) (hn : i < M.2.2.1) (hl' : (i, Value.int v) :: ls.filter (fun q => !(q.1 == i) && !(q.1 + 1 == i && q.2.category == 2)) = ls') (kk : nd_V M R post kc ks (pc + 3) ls' st sh σ) : nd_V M R post kc ks pc ls st sh σ := by
  intro l p e s m args below meth c g ad A Q hf hr H locs la hz hI hS hl
  exact lv_iinc hf.1 hf.2.1 hd hl (nd_at hk) hv hn (nd_filter1 (ad := ad) hl') (fun la hl => kk l p e s m args below meth c g ad A Q hf hr H locs la hz hI hS hl)
theorem nd_iadd {x y : Int32} (hd : decode M.2.1 pc = .ok (.iadd, 1)) (kk : nd_V M R post kc ks (pc + 1) ls (.int (x + y) :: st) sh σ) : nd_V M R post kc ks pc ls (.int y :: .int x :: st) sh σ := by
  intro l p e s m args below meth c g ad A Q hf hr H locs la hz hI hS hl
  exact lv_iadd hf.1 hf.2.1 hd (kk l p e s m args below meth c g ad A Q hf hr H locs la hz hI hS hl)
theorem nd_isub {x y : Int32} (hd : decode M.2.1 pc = .ok (.isub, 1)) (kk : nd_V M R post kc ks (pc + 1) ls (.int (x - y) :: st) sh σ) : nd_V M R post kc ks pc ls (.int y :: .int x :: st) sh σ := by
  intro l p e s m args below meth c g ad A Q hf hr H locs la hz hI hS hl
  exact lv_isub hf.1 hf.2.1 hd (kk l p e s m args below meth c g ad A Q hf hr H locs la hz hI hS hl)
theorem nd_imul {x y : Int32} (hd : decode M.2.1 pc = .ok (.imul, 1)) (kk : nd_V M R post kc ks (pc + 1) ls (.int (x * y) :: st) sh σ) : nd_V M R post kc ks pc ls (.int y :: .int x :: st) sh σ := by
  intro l p e s m args below meth c g ad A Q hf hr H locs la hz hI hS hl
  exact lv_imul hf.1 hf.2.1 hd (kk l p e s m args below meth c g ad A Q hf hr H locs la hz hI hS hl)
theorem nd_iand {x y : Int32} (hd : decode M.2.1 pc = .ok (.iand, 1)) (kk : nd_V M R post kc ks (pc + 1) ls (.int (x &&& y) :: st) sh σ) : nd_V M R post kc ks pc ls (.int y :: .int x :: st) sh σ := by
  intro l p e s m args below meth c g ad A Q hf hr H locs la hz hI hS hl
  exact lv_iand hf.1 hf.2.1 hd (kk l p e s m args below meth c g ad A Q hf hr H locs la hz hI hS hl)
theorem nd_ior {x y : Int32} (hd : decode M.2.1 pc = .ok (.ior, 1)) (kk : nd_V M R post kc ks (pc + 1) ls (.int (x ||| y) :: st) sh σ) : nd_V M R post kc ks pc ls (.int y :: .int x :: st) sh σ := by
  intro l p e s m args below meth c g ad A Q hf hr H locs la hz hI hS hl
  exact lv_ior hf.1 hf.2.1 hd (kk l p e s m args below meth c g ad A Q hf hr H locs la hz hI hS hl)
theorem nd_ixor {x y : Int32} (hd : decode M.2.1 pc = .ok (.ixor, 1)) (kk : nd_V M R post kc ks (pc + 1) ls (.int (x ^^^ y) :: st) sh σ) : nd_V M R post kc ks pc ls (.int y :: .int x :: st) sh σ := by
  intro l p e s m args below meth c g ad A Q hf hr H locs la hz hI hS hl
  exact lv_ixor hf.1 hf.2.1 hd (kk l p e s m args below meth c g ad A Q hf hr H locs la hz hI hS hl)
theorem nd_ishl {x y : Int32} (hd : decode M.2.1 pc = .ok (.ishl, 1)) (kk : nd_V M R post kc ks (pc + 1) ls (.int (x <<< (y &&& 31)) :: st) sh σ) : nd_V M R post kc ks pc ls (.int y :: .int x :: st) sh σ := by
  intro l p e s m args below meth c g ad A Q hf hr H locs la hz hI hS hl
  exact lv_ishl hf.1 hf.2.1 hd (kk l p e s m args below meth c g ad A Q hf hr H locs la hz hI hS hl)
theorem nd_ishr {x y : Int32} (hd : decode M.2.1 pc = .ok (.ishr, 1)) (kk : nd_V M R post kc ks (pc + 1) ls (.int (x >>> (y &&& 31)) :: st) sh σ) : nd_V M R post kc ks pc ls (.int y :: .int x :: st) sh σ := by
  intro l p e s m args below meth c g ad A Q hf hr H locs la hz hI hS hl
  exact lv_ishr hf.1 hf.2.1 hd (kk l p e s m args below meth c g ad A Q hf hr H locs la hz hI hS hl)
def q_ushr (x y : Int32) : Int32 := (x.toUInt32 >>> (y.toUInt32 &&& Int32.toUInt32 31)).toInt32
def q_rem (x y : Int32) : Int32 := x - x / y * y
def q_lrem (x y : Int64) : Int64 := x - x / y * y
theorem nd_iushr {x y : Int32} (hd : decode M.2.1 pc = .ok (.iushr, 1)) (kk : nd_V M R post kc ks (pc + 1) ls (.int (q_ushr x y) :: st) sh σ) : nd_V M R post kc ks pc ls (.int y :: .int x :: st) sh σ := by
  intro l p e s m args below meth c g ad A Q hf hr H locs la hz hI hS hl
  exact lv_iushr hf.1 hf.2.1 hd rfl (kk l p e s m args below meth c g ad A Q hf hr H locs la hz hI hS hl)
theorem nd_idiv {x y : Int32} (hd : decode M.2.1 pc = .ok (.idiv, 1)) (hne : ¬ y = 0) (kk : nd_V M R post kc ks (pc + 1) ls (.int (x / y) :: st) sh σ) : nd_V M R post kc ks pc ls (.int y :: .int x :: st) sh σ := by
  intro l p e s m args below meth c g ad A Q hf hr H locs la hz hI hS hl
  exact lv_idiv hf.1 hf.2.1 hd hne (kk l p e s m args below meth c g ad A Q hf hr H locs la hz hI hS hl)
theorem nd_irem {x y : Int32} (hd : decode M.2.1 pc = .ok (.irem, 1)) (hne : ¬ y = 0) (kk : nd_V M R post kc ks (pc + 1) ls (.int (q_rem x y) :: st) sh σ) : nd_V M R post kc ks pc ls (.int y :: .int x :: st) sh σ := by
  intro l p e s m args below meth c g ad A Q hf hr H locs la hz hI hS hl
  exact lv_irem hf.1 hf.2.1 hd hne (kk l p e s m args below meth c g ad A Q hf hr H locs la hz hI hS hl)
theorem nd_ineg {x : Int32} (hd : decode M.2.1 pc = .ok (.ineg, 1)) (kk : nd_V M R post kc ks (pc + 1) ls (.int (-x) :: st) sh σ) : nd_V M R post kc ks pc ls (.int x :: st) sh σ := by
  intro l p e s m args below meth c g ad A Q hf hr H locs la hz hI hS hl
  exact lv_ineg hf.1 hf.2.1 hd (kk l p e s m args below meth c g ad A Q hf hr H locs la hz hI hS hl)
theorem nd_ladd {x y : Int64} (hd : decode M.2.1 pc = .ok (.ladd, 1)) (kk : nd_V M R post kc ks (pc + 1) ls (.long (x + y) :: st) sh σ) : nd_V M R post kc ks pc ls (.long y :: .long x :: st) sh σ := by
  intro l p e s m args below meth c g ad A Q hf hr H locs la hz hI hS hl
  exact lv_ladd hf.1 hf.2.1 hd (kk l p e s m args below meth c g ad A Q hf hr H locs la hz hI hS hl)
theorem nd_lmul {x y : Int64} (hd : decode M.2.1 pc = .ok (.lmul, 1)) (kk : nd_V M R post kc ks (pc + 1) ls (.long (x * y) :: st) sh σ) : nd_V M R post kc ks pc ls (.long y :: .long x :: st) sh σ := by
  intro l p e s m args below meth c g ad A Q hf hr H locs la hz hI hS hl
  exact lv_lmul hf.1 hf.2.1 hd (kk l p e s m args below meth c g ad A Q hf hr H locs la hz hI hS hl)
theorem nd_ldiv {x y : Int64} (hd : decode M.2.1 pc = .ok (.ldiv, 1)) (hne : ¬ y = 0) (kk : nd_V M R post kc ks (pc + 1) ls (.long (x / y) :: st) sh σ) : nd_V M R post kc ks pc ls (.long y :: .long x :: st) sh σ := by
  intro l p e s m args below meth c g ad A Q hf hr H locs la hz hI hS hl
  exact lv_ldiv hf.1 hf.2.1 hd hne (kk l p e s m args below meth c g ad A Q hf hr H locs la hz hI hS hl)
theorem nd_lrem {x y : Int64} (hd : decode M.2.1 pc = .ok (.lrem, 1)) (hne : ¬ y = 0) (kk : nd_V M R post kc ks (pc + 1) ls (.long (q_lrem x y) :: st) sh σ) : nd_V M R post kc ks pc ls (.long y :: .long x :: st) sh σ := by
  intro l p e s m args below meth c g ad A Q hf hr H locs la hz hI hS hl
  exact lv_lrem hf.1 hf.2.1 hd hne (kk l p e s m args below meth c g ad A Q hf hr H locs la hz hI hS hl)
theorem nd_i2l {x : Int32} (hd : decode M.2.1 pc = .ok (.i2l, 1)) (kk : nd_V M R post kc ks (pc + 1) ls (.long x.toInt64 :: st) sh σ) : nd_V M R post kc ks pc ls (.int x :: st) sh σ := by
  intro l p e s m args below meth c g ad A Q hf hr H locs la hz hI hS hl
  exact lv_i2l hf.1 hf.2.1 hd rfl (kk l p e s m args below meth c g ad A Q hf hr H locs la hz hI hS hl)
theorem nd_i2c {x : Int32} (hd : decode M.2.1 pc = .ok (.i2c, 1)) (kk : nd_V M R post kc ks (pc + 1) ls (.int (x.toUInt32 % 65536).toInt32 :: st) sh σ) : nd_V M R post kc ks pc ls (.int x :: st) sh σ := by
  intro l p e s m args below meth c g ad A Q hf hr H locs la hz hI hS hl
  exact lv_i2c hf.1 hf.2.1 hd rfl (kk l p e s m args below meth c g ad A Q hf hr H locs la hz hI hS hl)
theorem nd_i2b {x : Int32} (hd : decode M.2.1 pc = .ok (.i2b, 1)) (kk : nd_V M R post kc ks (pc + 1) ls (.int x.toInt8.toInt32 :: st) sh σ) : nd_V M R post kc ks pc ls (.int x :: st) sh σ := by
  intro l p e s m args below meth c g ad A Q hf hr H locs la hz hI hS hl
  exact lv_i2b hf.1 hf.2.1 hd rfl (kk l p e s m args below meth c g ad A Q hf hr H locs la hz hI hS hl)
theorem nd_dup {v : Value} (hd : decode M.2.1 pc = .ok (.dup, 1)) (hc : v.category = 1) (kk : nd_V M R post kc ks (pc + 1) ls (v :: v :: st) sh σ) : nd_V M R post kc ks pc ls (v :: st) sh σ := by
  intro l p e s m args below meth c g ad A Q hf hr H locs la hz hI hS hl
  exact lv_dup hf.1 hf.2.1 hd ((nd_cat ad v).trans hc) (kk l p e s m args below meth c g ad A Q hf hr H locs la hz hI hS hl)
theorem nd_pop {v : Value} (hd : decode M.2.1 pc = .ok (.pop, 1)) (hc : v.category = 1) (kk : nd_V M R post kc ks (pc + 1) ls st sh σ) : nd_V M R post kc ks pc ls (v :: st) sh σ := by
  intro l p e s m args below meth c g ad A Q hf hr H locs la hz hI hS hl
  exact lv_pop hf.1 hf.2.1 hd ((nd_cat ad v).trans hc) (kk l p e s m args below meth c g ad A Q hf hr H locs la hz hI hS hl)
theorem nd_dup2 {v w : Value} (hd : decode M.2.1 pc = .ok (.dup2, 1)) (hc : v.category = 1) (hc2 : w.category = 1) (kk : nd_V M R post kc ks (pc + 1) ls (v :: w :: v :: w :: st) sh σ) : nd_V M R post kc ks pc ls (v :: w :: st) sh σ := by
  intro l p e s m args below meth c g ad A Q hf hr H locs la hz hI hS hl
  exact lv_dup2_11 hf.1 hf.2.1 hd ((nd_cat ad v).trans hc) ((nd_cat ad w).trans hc2) (kk l p e s m args below meth c g ad A Q hf hr H locs la hz hI hS hl)
theorem nd_icmp_eq {x y : Int32} {off : Int} (hd : decode M.2.1 pc = .ok (.if_icmp .eq off, 3)) (tgt : Nat) (ht : (pc : Int) + off = (tgt : Int)) (kt : x = y → nd_V M R post kc ks tgt ls st sh σ) (kf : ¬ x = y → nd_V M R post kc ks (pc + 3) ls st sh σ) : nd_V M R post kc ks pc ls (.int y :: .int x :: st) sh σ := by
  intro l p e s m args below meth c g ad A Q hf hr H locs la hz hI hS hl
  exact lv_icmp_eq hf.1 hf.2.1 hd ht (fun h => kt h l p e s m args below meth c g ad A Q hf hr H locs la hz hI hS hl) (fun h => kf h l p e s m args below meth c g ad A Q hf hr H locs la hz hI hS hl)
theorem nd_icmp_ne {x y : Int32} {off : Int} (hd : decode M.2.1 pc = .ok (.if_icmp .ne off, 3)) (tgt : Nat) (ht : (pc : Int) + off = (tgt : Int)) (kt : ¬ x = y → nd_V M R post kc ks tgt ls st sh σ) (kf : x = y → nd_V M R post kc ks (pc + 3) ls st sh σ) : nd_V M R post kc ks pc ls (.int y :: .int x :: st) sh σ := by
  intro l p e s m args below meth c g ad A Q hf hr H locs la hz hI hS hl
  exact lv_icmp_ne hf.1 hf.2.1 hd ht (fun h => kt h l p e s m args below meth c g ad A Q hf hr H locs la hz hI hS hl) (fun h => kf h l p e s m args below meth c g ad A Q hf hr H locs la hz hI hS hl)
theorem nd_icmp_lt {x y : Int32} {off : Int} (hd : decode M.2.1 pc = .ok (.if_icmp .lt off, 3)) (tgt : Nat) (ht : (pc : Int) + off = (tgt : Int)) (kt : x < y → nd_V M R post kc ks tgt ls st sh σ) (kf : ¬ x < y → nd_V M R post kc ks (pc + 3) ls st sh σ) : nd_V M R post kc ks pc ls (.int y :: .int x :: st) sh σ := by
  intro l p e s m args below meth c g ad A Q hf hr H locs la hz hI hS hl
  exact lv_icmp_lt hf.1 hf.2.1 hd ht (fun h => kt h l p e s m args below meth c g ad A Q hf hr H locs la hz hI hS hl) (fun h => kf h l p e s m args below meth c g ad A Q hf hr H locs la hz hI hS hl)
theorem nd_icmp_ge {x y : Int32} {off : Int} (hd : decode M.2.1 pc = .ok (.if_icmp .ge off, 3)) (tgt : Nat) (ht : (pc : Int) + off = (tgt : Int)) (kt : y ≤ x → nd_V M R post kc ks tgt ls st sh σ) (kf : ¬ y ≤ x → nd_V M R post kc ks (pc + 3) ls st sh σ) : nd_V M R post kc ks pc ls (.int y :: .int x :: st) sh σ := by
  intro l p e s m args below meth c g ad A Q hf hr H locs la hz hI hS hl
  exact lv_icmp_ge hf.1 hf.2.1 hd ht (fun h => kt h l p e s m args below meth c g ad A Q hf hr H locs la hz hI hS hl) (fun h => kf h l p e s m args below meth c g ad A Q hf hr H locs la hz hI hS hl)
theorem nd_icmp_gt {x y : Int32} {off : Int} (hd : decode M.2.1 pc = .ok (.if_icmp .gt off, 3)) (tgt : Nat) (ht : (pc : Int) + off = (tgt : Int)) (kt : y < x → nd_V M R post kc ks tgt ls st sh σ) (kf : ¬ y < x → nd_V M R post kc ks (pc + 3) ls st sh σ) : nd_V M R post kc ks pc ls (.int y :: .int x :: st) sh σ := by
  intro l p e s m args below meth c g ad A Q hf hr H locs la hz hI hS hl
  exact lv_icmp_gt hf.1 hf.2.1 hd ht (fun h => kt h l p e s m args below meth c g ad A Q hf hr H locs la hz hI hS hl) (fun h => kf h l p e s m args below meth c g ad A Q hf hr H locs la hz hI hS hl)
theorem nd_icmp_le {x y : Int32} {off : Int} (hd : decode M.2.1 pc = .ok (.if_icmp .le off, 3)) (tgt : Nat) (ht : (pc : Int) + off = (tgt : Int)) (kt : x ≤ y → nd_V M R post kc ks tgt ls st sh σ) (kf : ¬ x ≤ y → nd_V M R post kc ks (pc + 3) ls st sh σ) : nd_V M R post kc ks pc ls (.int y :: .int x :: st) sh σ := by
  intro l p e s m args below meth c g ad A Q hf hr H locs la hz hI hS hl
  exact lv_icmp_le hf.1 hf.2.1 hd ht (fun h => kt h l p e s m args below meth c g ad A Q hf hr H locs la hz hI hS hl) (fun h => kf h l p e s m args below meth c g ad A Q hf hr H locs la hz hI hS hl)
theorem nd_if_eq {x : Int32} {off : Int} (hd : decode M.2.1 pc = .ok (.ifCond .eq off, 3)) (tgt : Nat) (ht : (pc : Int) + off = (tgt : Int)) (kt : x = 0 → nd_V M R post kc ks tgt ls st sh σ) (kf : ¬ x = 0 → nd_V M R post kc ks (pc + 3) ls st sh σ) : nd_V M R post kc ks pc ls (.int x :: st) sh σ := by
  intro l p e s m args below meth c g ad A Q hf hr H locs la hz hI hS hl
  exact lv_if_eq hf.1 hf.2.1 hd ht (fun h => kt h l p e s m args below meth c g ad A Q hf hr H locs la hz hI hS hl) (fun h => kf h l p e s m args below meth c g ad A Q hf hr H locs la hz hI hS hl)
theorem nd_if_ne {x : Int32} {off : Int} (hd : decode M.2.1 pc = .ok (.ifCond .ne off, 3)) (tgt : Nat) (ht : (pc : Int) + off = (tgt : Int)) (kt : ¬ x = 0 → nd_V M R post kc ks tgt ls st sh σ) (kf : x = 0 → nd_V M R post kc ks (pc + 3) ls st sh σ) : nd_V M R post kc ks pc ls (.int x :: st) sh σ := by
  intro l p e s m args below meth c g ad A Q hf hr H locs la hz hI hS hl
  exact lv_if_ne hf.1 hf.2.1 hd ht (fun h => kt h l p e s m args below meth c g ad A Q hf hr H locs la hz hI hS hl) (fun h => kf h l p e s m args below meth c g ad A Q hf hr H locs la hz hI hS hl)
theorem nd_if_lt {x : Int32} {off : Int} (hd : decode M.2.1 pc = .ok (.ifCond .lt off, 3)) (tgt : Nat) (ht : (pc : Int) + off = (tgt : Int)) (kt : x < 0 → nd_V M R post kc ks tgt ls st sh σ) (kf : ¬ x < 0 → nd_V M R post kc ks (pc + 3) ls st sh σ) : nd_V M R post kc ks pc ls (.int x :: st) sh σ := by
  intro l p e s m args below meth c g ad A Q hf hr H locs la hz hI hS hl
  exact lv_if_lt hf.1 hf.2.1 hd ht (fun h => kt h l p e s m args below meth c g ad A Q hf hr H locs la hz hI hS hl) (fun h => kf h l p e s m args below meth c g ad A Q hf hr H locs la hz hI hS hl)
theorem nd_if_ge {x : Int32} {off : Int} (hd : decode M.2.1 pc = .ok (.ifCond .ge off, 3)) (tgt : Nat) (ht : (pc : Int) + off = (tgt : Int)) (kt : 0 ≤ x → nd_V M R post kc ks tgt ls st sh σ) (kf : ¬ 0 ≤ x → nd_V M R post kc ks (pc + 3) ls st sh σ) : nd_V M R post kc ks pc ls (.int x :: st) sh σ := by
  intro l p e s m args below meth c g ad A Q hf hr H locs la hz hI hS hl
  exact lv_if_ge hf.1 hf.2.1 hd ht (fun h => kt h l p e s m args below meth c g ad A Q hf hr H locs la hz hI hS hl) (fun h => kf h l p e s m args below meth c g ad A Q hf hr H locs la hz hI hS hl)
theorem nd_if_gt {x : Int32} {off : Int} (hd : decode M.2.1 pc = .ok (.ifCond .gt off, 3)) (tgt : Nat) (ht : (pc : Int) + off = (tgt : Int)) (kt : 0 < x → nd_V M R post kc ks tgt ls st sh σ) (kf : ¬ 0 < x → nd_V M R post kc ks (pc + 3) ls st sh σ) : nd_V M R post kc ks pc ls (.int x :: st) sh σ := by
  intro l p e s m args below meth c g ad A Q hf hr H locs la hz hI hS hl
  exact lv_if_gt hf.1 hf.2.1 hd ht (fun h => kt h l p e s m args below meth c g ad A Q hf hr H locs la hz hI hS hl) (fun h => kf h l p e s m args below meth c g ad A Q hf hr H locs la hz hI hS hl)
theorem nd_if_le {x : Int32} {off : Int} (hd : decode M.2.1 pc = .ok (.ifCond .le off, 3)) (tgt : Nat) (ht : (pc : Int) + off = (tgt : Int)) (kt : x ≤ 0 → nd_V M R post kc ks tgt ls st sh σ) (kf : ¬ x ≤ 0 → nd_V M R post kc ks (pc + 3) ls st sh σ) : nd_V M R post kc ks pc ls (.int x :: st) sh σ := by
  intro l p e s m args below meth c g ad A Q hf hr H locs la hz hI hS hl
  exact lv_if_le hf.1 hf.2.1 hd ht (fun h => kt h l p e s m args below meth c g ad A Q hf hr H locs la hz hI hS hl) (fun h => kf h l p e s m args below meth c g ad A Q hf hr H locs la hz hI hS hl)
theorem nd_goto {off : Int} (hd : decode M.2.1 pc = .ok (.goto off, 3)) (tgt : Nat) (ht : (pc : Int) + off = (tgt : Int)) (kk : nd_V M R post kc ks tgt ls st sh σ) : nd_V M R post kc ks pc ls st sh σ := by
  intro l p e s m args below meth c g ad A Q hf hr H locs la hz hI hS hl
  exact lv_goto hf.1 hf.2.1 hd ht (kk l p e s m args below meth c g ad A Q hf hr H locs la hz hI hS hl)
theorem nd_ifnonnullN {off : Int} (hd : decode M.2.1 pc = .ok (.ifnonnull off, 3)) (kk : nd_V M R post kc ks (pc + 3) ls st sh σ) : nd_V M R post kc ks pc ls (.null :: st) sh σ := by
  intro l p e s m args below meth c g ad A Q hf hr H locs la hz hI hS hl
  exact lv_ifnonnullN hf.1 hf.2.1 hd (kk l p e s m args below meth c g ad A Q hf hr H locs la hz hI hS hl)
theorem nd_ifnonnullR {off : Int} {x : Nat} (hd : decode M.2.1 pc = .ok (.ifnonnull off, 3)) (tgt : Nat) (ht : (pc : Int) + off = (tgt : Int)) (kk : nd_V M R post kc ks tgt ls st sh σ) : nd_V M R post kc ks pc ls (.ref x :: st) sh σ := by
  intro l p e s m args below meth c g ad A Q hf hr H locs la hz hI hS hl
  exact lv_ifnonnull hf.1 hf.2.1 hd ht (kk l p e s m args below meth c g ad A Q hf hr H locs la hz hI hS hl)
theorem nd_tin {dflt lo hi : Int} {offs : Array Int} {len : Nat} {x : Int32} {off : Int} (hd : decode M.2.1 pc = .ok (.tableswitch dflt lo hi offs, len)) (j : Nat) (hj : x.toInt - lo = (j : Int)) (h2 : ¬ hi < x.toInt) (ho : offs[j]? = some off) (tgt : Nat) (ht : (pc : Int) + off = (tgt : Int)) (kk : nd_V M R post kc ks tgt ls st sh σ) : nd_V M R post kc ks pc ls (.int x :: st) sh σ := by
  intro l p e s m args below meth c g ad A Q hf hr H locs la hz hI hS hl
  exact lv_tableIn hf.1 hf.2.1 hd (by omega) h2 (by rw [hj]; exact ho) ht (kk l p e s m args below meth c g ad A Q hf hr H locs la hz hI hS hl)
theorem nd_tout {dflt lo hi : Int} {offs : Array Int} {len : Nat} {x : Int32} (hd : decode M.2.1 pc = .ok (.tableswitch dflt lo hi offs, len)) (hx : ∀ j : Int, lo ≤ j → j ≤ hi → x ≠ Int32.ofInt j) (tgt : Nat) (ht : (pc : Int) + dflt = (tgt : Int)) (kk : nd_V M R post kc ks tgt ls st sh σ) : nd_V M R post kc ks pc ls (.int x :: st) sh σ := by
  intro l p e s m args below meth c g ad A Q hf hr H locs la hz hI hS hl
  refine lv_tableOut hf.1 hf.2.1 hd ?_ ht (kk l p e s m args below meth c g ad A Q hf hr H locs la hz hI hS hl)
  rcases Int.lt_or_le x.toInt lo with h | h
  · exact Or.inl h
  · rcases Int.lt_or_le hi x.toInt with h2 | h2
    · exact Or.inr h2
    · exact absurd (Int32.ofInt_toInt x).symm (hx x.toInt h h2)
theorem nd_look {dflt : Int} {ps : Array (Int × Int)} {len : Nat} {x : Int32} {off : Int} (hd : decode M.2.1 pc = .ok (.lookupswitch dflt ps, len)) (hp : (ps.toList.zip (ps.toList.drop 1)).all (fun (a, next) => a.1 < next.1) = true) (ho : Op.lookupswitch.offset ps.toList dflt x.toInt = off) (tgt : Nat) (ht : (pc : Int) + off = (tgt : Int)) (kk : nd_V M R post kc ks tgt ls st sh σ) : nd_V M R post kc ks pc ls (.int x :: st) sh σ := by
  intro l p e s m args below meth c g ad A Q hf hr H locs la hz hI hS hl
  exact lv_lookup hf.1 hf.2.1 hd hp ho ht (kk l p e s m args below meth c g ad A Q hf hr H locs la hz hI hS hl)
end ND_R
