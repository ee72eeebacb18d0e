theorem ib_m4 : (Int8.ofInt (-4)).toInt32 = (-4 : Int32) := by decide
theorem ib_m3 : (Int8.ofInt (-3)).toInt32 = (-3 : Int32) := by decide
theorem wc_X5_longestFrom : Cond.code yX5_longestFrom cX5_longestFrom 7 (some .int) ∈ nd_tbl := nd_ti (i := 948) (by decide +kernel) rfl
theorem ok_X5_longestFrom : nd_okN M_X5_longestFrom 4 := ⟨wc_X5_longestFrom, wn_X5, by decide +kernel, by decide +kernel, by decide +kernel⟩
theorem ws_X5_longestFrom : Cond.static yX5_longestFrom ∈ nd_tbl := nd_ti (i := 947) (by decide +kernel) rfl
theorem cl_X5_83 : nd_cs RX5 83 M_X5_longestFrom 4 := ⟨ok_X5_longestFrom, ws_X5_longestFrom, Or.inl (nd_ti (i := 946) (by decide +kernel) rfl)⟩
theorem lk_X5_87 : Cond.methodLink RX5 87 Lib.Math.max.name ∈ nd_tbl := nd_ti (i := 949) (by decide +kernel) rfl
theorem wc_X3_readCondition : Cond.code yX3_readCondition cX3_readCondition 4 (some .boolean) ∈ nd_tbl := nd_ti (i := 718) (by decide +kernel) rfl
theorem ok_X3_readCondition : nd_okN M_X3_readCondition 1 := ⟨wc_X3_readCondition, wn_X3, by decide +kernel, by decide +kernel, by decide +kernel⟩
theorem wi_X3_readCondition : Cond.instanceMethod yX3_readCondition ∈ nd_tbl := nd_ti (i := 717) (by decide +kernel) rfl
theorem wl_X3_readCondition : Cond.selects RX3 yX3_readCondition yX3_readCondition ∈ nd_tbl := nd_tp (i := 28) (by decide +kernel) rfl
theorem cl_X3_144 : nd_cv RX3 144 M_X3_readCondition 1 2 := ⟨ok_X3_readCondition, wi_X3_readCondition, wl_X3_readCondition, nd_ti (i := 715) (by decide +kernel) rfl, TX3, 15, rfl⟩
theorem wc_X3_readSum : Cond.code yX3_readSum cX3_readSum 5 (some .boolean) ∈ nd_tbl := nd_ti (i := 698) (by decide +kernel) rfl
theorem ok_X3_readSum : nd_okN M_X3_readSum 0 := ⟨wc_X3_readSum, wn_X3, by decide +kernel, by decide +kernel, by decide +kernel⟩
theorem wi_X3_readSum : Cond.instanceMethod yX3_readSum ∈ nd_tbl := nd_ti (i := 697) (by decide +kernel) rfl
theorem wl_X3_readSum : Cond.selects RX3 yX3_readSum yX3_readSum ∈ nd_tbl := nd_tp (i := 24) (by decide +kernel) rfl
theorem cl_X3_111 : nd_cv RX3 111 M_X3_readSum 0 2 := ⟨ok_X3_readSum, wi_X3_readSum, wl_X3_readSum, nd_ti (i := 695) (by decide +kernel) rfl, TX3, 15, rfl⟩
theorem wc_X3_mayOpen : Cond.code yX3_mayOpen cX3_mayOpen 2 (some .boolean) ∈ nd_tbl := nd_ti (i := 722) (by decide +kernel) rfl
theorem ok_X3_mayOpen : nd_okN M_X3_mayOpen 1 := ⟨wc_X3_mayOpen, wn_X3, by decide +kernel, by decide +kernel, by decide +kernel⟩
theorem wi_X3_mayOpen : Cond.instanceMethod yX3_mayOpen ∈ nd_tbl := nd_ti (i := 721) (by decide +kernel) rfl
theorem wl_X3_mayOpen : Cond.selects RX3 yX3_mayOpen yX3_mayOpen ∈ nd_tbl := nd_tp (i := 29) (by decide +kernel) rfl
theorem cl_X3_150 : nd_cv RX3 150 M_X3_mayOpen 1 2 := ⟨ok_X3_mayOpen, wi_X3_mayOpen, wl_X3_mayOpen, nd_ti (i := 719) (by decide +kernel) rfl, TX3, 15, rfl⟩
theorem wc_X3_readEither : Cond.code yX3_readEither cX3_readEither 5 (some .boolean) ∈ nd_tbl := nd_ti (i := 714) (by decide +kernel) rfl
theorem ok_X3_readEither : nd_okN M_X3_readEither 1 := ⟨wc_X3_readEither, wn_X3, by decide +kernel, by decide +kernel, by decide +kernel⟩
theorem wi_X3_readEither : Cond.instanceMethod yX3_readEither ∈ nd_tbl := nd_ti (i := 713) (by decide +kernel) rfl
theorem wl_X3_readEither : Cond.selects RX3 yX3_readEither yX3_readEither ∈ nd_tbl := nd_tp (i := 27) (by decide +kernel) rfl
theorem cl_X3_117 : nd_cv RX3 117 M_X3_readEither 1 2 := ⟨ok_X3_readEither, wi_X3_readEither, wl_X3_readEither, nd_ti (i := 711) (by decide +kernel) rfl, TX3, 15, rfl⟩
theorem wc_X3_readSign : Cond.code yX3_readSign cX3_readSign 2 (some .boolean) ∈ nd_tbl := nd_ti (i := 726) (by decide +kernel) rfl
theorem ok_X3_readSign : nd_okN M_X3_readSign 1 := ⟨wc_X3_readSign, wn_X3, by decide +kernel, by decide +kernel, by decide +kernel⟩
theorem wi_X3_readSign : Cond.instanceMethod yX3_readSign ∈ nd_tbl := nd_ti (i := 725) (by decide +kernel) rfl
theorem wl_X3_readSign : Cond.selects RX3 yX3_readSign yX3_readSign ∈ nd_tbl := nd_tp (i := 30) (by decide +kernel) rfl
theorem cl_X3_91 : nd_cv RX3 91 M_X3_readSign 1 2 := ⟨ok_X3_readSign, wi_X3_readSign, wl_X3_readSign, nd_ti (i := 723) (by decide +kernel) rfl, TX3, 15, rfl⟩
theorem lk_X5_77 : Cond.methodLink RX5 77 Lib.Math.min.name ∈ nd_tbl := nd_ti (i := 945) (by decide +kernel) rfl
theorem gf_X3_108 : nd_gf RX3 108 3 1 := ⟨RX4, TX4, 2, rfl, by decide, Or.inr ⟨"NextDoorBrides", nd_tn (i := 100) (by decide +kernel) rfl⟩⟩
theorem wc_X5_addLaw : Cond.code yX5_addLaw cX5_addLaw 5 none ∈ nd_tbl := nd_ti (i := 730) (by decide +kernel) rfl
theorem ok_X5_addLaw : nd_okN M_X5_addLaw 4 := ⟨wc_X5_addLaw, wn_X5, by decide +kernel, by decide +kernel, by decide +kernel⟩
theorem wi_X5_addLaw : Cond.instanceMethod yX5_addLaw ∈ nd_tbl := nd_ti (i := 728) (by decide +kernel) rfl
theorem wl_X5_addLaw : Cond.selects RX5 yX5_addLaw yX5_addLaw ∈ nd_tbl := nd_ti (i := 729) (by decide +kernel) rfl
theorem cl_X3_120 : nd_cv RX3 120 M_X5_addLaw 4 4 := ⟨ok_X5_addLaw, wi_X5_addLaw, wl_X5_addLaw, nd_ti (i := 727) (by decide +kernel) rfl, TX5, 7, rfl⟩
theorem wc_X3_readLaw : Cond.code yX3_readLaw cX3_readLaw 4 (some .boolean) ∈ nd_tbl := nd_ti (i := 694) (by decide +kernel) rfl
theorem ok_X3_readLaw : nd_okN M_X3_readLaw 1 := ⟨wc_X3_readLaw, wn_X3, by decide +kernel, by decide +kernel, by decide +kernel⟩
theorem wi_X3_readLaw : Cond.instanceMethod yX3_readLaw ∈ nd_tbl := nd_ti (i := 693) (by decide +kernel) rfl
theorem wl_X3_readLaw : Cond.selects RX3 yX3_readLaw yX3_readLaw ∈ nd_tbl := nd_tp (i := 23) (by decide +kernel) rfl
theorem cl_X3_88 : nd_cv RX3 88 M_X3_readLaw 1 2 := ⟨ok_X3_readLaw, wi_X3_readLaw, wl_X3_readLaw, nd_ti (i := 691) (by decide +kernel) rfl, TX3, 15, rfl⟩
theorem wc_X3_readPlan : Cond.code yX3_readPlan cX3_readPlan 5 (some .boolean) ∈ nd_tbl := nd_ti (i := 735) (by decide +kernel) rfl
theorem ok_X3_readPlan : nd_okN M_X3_readPlan 0 := ⟨wc_X3_readPlan, wn_X3, by decide +kernel, by decide +kernel, by decide +kernel⟩
theorem wi_X3_readPlan : Cond.instanceMethod yX3_readPlan ∈ nd_tbl := nd_ti (i := 734) (by decide +kernel) rfl
theorem wl_X3_readPlan : Cond.selects RX3 yX3_readPlan yX3_readPlan ∈ nd_tbl := nd_tp (i := 31) (by decide +kernel) rfl
theorem cl_X3_94 : nd_cv RX3 94 M_X3_readPlan 0 2 := ⟨ok_X3_readPlan, wi_X3_readPlan, wl_X3_readPlan, nd_ti (i := 732) (by decide +kernel) rfl, TX3, 15, rfl⟩
theorem wc_X3_readFeud : Cond.code yX3_readFeud cX3_readFeud 3 (some .boolean) ∈ nd_tbl := nd_ti (i := 747) (by decide +kernel) rfl
theorem ok_X3_readFeud : nd_okN M_X3_readFeud 0 := ⟨wc_X3_readFeud, wn_X3, by decide +kernel, by decide +kernel, by decide +kernel⟩
theorem wi_X3_readFeud : Cond.instanceMethod yX3_readFeud ∈ nd_tbl := nd_ti (i := 746) (by decide +kernel) rfl
theorem wl_X3_readFeud : Cond.selects RX3 yX3_readFeud yX3_readFeud ∈ nd_tbl := nd_tp (i := 33) (by decide +kernel) rfl
theorem cl_X3_98 : nd_cv RX3 98 M_X3_readFeud 0 2 := ⟨ok_X3_readFeud, wi_X3_readFeud, wl_X3_readFeud, nd_ti (i := 744) (by decide +kernel) rfl, TX3, 15, rfl⟩
theorem wc_X3_readSide : Cond.code yX3_readSide cX3_readSide 3 (some .boolean) ∈ nd_tbl := nd_ti (i := 759) (by decide +kernel) rfl
theorem ok_X3_readSide : nd_okN M_X3_readSide 0 := ⟨wc_X3_readSide, wn_X3, by decide +kernel, by decide +kernel, by decide +kernel⟩
theorem wi_X3_readSide : Cond.instanceMethod yX3_readSide ∈ nd_tbl := nd_ti (i := 758) (by decide +kernel) rfl
theorem wl_X3_readSide : Cond.selects RX3 yX3_readSide yX3_readSide ∈ nd_tbl := nd_tp (i := 35) (by decide +kernel) rfl
theorem cl_X3_101 : nd_cv RX3 101 M_X3_readSide 0 2 := ⟨ok_X3_readSide, wi_X3_readSide, wl_X3_readSide, nd_ti (i := 756) (by decide +kernel) rfl, TX3, 15, rfl⟩
theorem cl_X3_71 : nd_cv RX3 71 M_X5_linesOf 1 4 := ⟨ok_X5_linesOf, wi_X5_linesOf, wl_X5_linesOf, nd_ti (i := 764) (by decide +kernel) rfl, TX5, 7, rfl⟩
theorem wc_X3_readLine : Cond.code yX3_readLine cX3_readLine 5 (some .boolean) ∈ nd_tbl := nd_ti (i := 686) (by decide +kernel) rfl
theorem ok_X3_readLine : nd_okN M_X3_readLine 2 := ⟨wc_X3_readLine, wn_X3, by decide +kernel, by decide +kernel, by decide +kernel⟩
theorem wi_X3_readLine : Cond.instanceMethod yX3_readLine ∈ nd_tbl := nd_ti (i := 685) (by decide +kernel) rfl
theorem wl_X3_readLine : Cond.selects RX3 yX3_readLine yX3_readLine ∈ nd_tbl := nd_tp (i := 21) (by decide +kernel) rfl
theorem cl_X3_67 : nd_cv RX3 67 M_X3_readLine 2 2 := ⟨ok_X3_readLine, wi_X3_readLine, wl_X3_readLine, nd_ti (i := 683) (by decide +kernel) rfl, TX3, 15, rfl⟩
theorem wc_X3_wordsOf : Cond.code yX3_wordsOf cX3_wordsOf 1 (some (.object "java/lang/String")) ∈ nd_tbl := nd_ti (i := 536) (by decide +kernel) rfl
theorem ok_X3_wordsOf : nd_okN M_X3_wordsOf 1 := ⟨wc_X3_wordsOf, wn_X3, by decide +kernel, by decide +kernel, by decide +kernel⟩
theorem ws_X3_wordsOf : Cond.static yX3_wordsOf ∈ nd_tbl := nd_ti (i := 535) (by decide +kernel) rfl
theorem cl_X3_47 : nd_cs RX3 47 M_X3_wordsOf 1 := ⟨ok_X3_wordsOf, ws_X3_wordsOf, Or.inl (nd_ti (i := 534) (by decide +kernel) rfl)⟩
theorem pf_X3_37 : nd_pf RX3 37 2 5 (.object "java/lang/String") false := ⟨RX3, TX3, 15, rfl, by decide, Or.inl (nd_ti (i := 212) (by decide +kernel) rfl), rfl, by decide +kernel, fun h => absurd h (by decide)⟩
theorem pf_X3_51 : nd_pf RX3 51 2 6 .int false := ⟨RX3, TX3, 15, rfl, by decide, Or.inl (nd_ti (i := 213) (by decide +kernel) rfl), rfl, by decide +kernel, fun h => absurd h (by decide)⟩
theorem wc_X5_empty : Cond.code yX5_empty cX5_empty 2 none ∈ nd_tbl := nd_ti (i := 543) (by decide +kernel) rfl
theorem ok_X5_empty : nd_okN M_X5_empty 1 := ⟨wc_X5_empty, wn_X5, by decide +kernel, by decide +kernel, by decide +kernel⟩
theorem wi_X5_empty : Cond.instanceMethod yX5_empty ∈ nd_tbl := nd_ti (i := 541) (by decide +kernel) rfl
theorem wl_X5_empty : Cond.selects RX5 yX5_empty yX5_empty ∈ nd_tbl := nd_ti (i := 542) (by decide +kernel) rfl
theorem cl_X3_54 : nd_cv RX3 54 M_X5_empty 1 4 := ⟨ok_X5_empty, wi_X5_empty, wl_X5_empty, nd_ti (i := 540) (by decide +kernel) rfl, TX5, 7, rfl⟩
theorem wc_X3_findTokens : Cond.code yX3_findTokens cX3_findTokens 4 none ∈ nd_tbl := nd_ti (i := 552) (by decide +kernel) rfl
theorem ok_X3_findTokens : nd_okN M_X3_findTokens 0 := ⟨wc_X3_findTokens, wn_X3, by decide +kernel, by decide +kernel, by decide +kernel⟩
theorem wi_X3_findTokens : Cond.instanceMethod yX3_findTokens ∈ nd_tbl := nd_ti (i := 551) (by decide +kernel) rfl
theorem wl_X3_findTokens : Cond.selects RX3 yX3_findTokens yX3_findTokens ∈ nd_tbl := nd_tp (i := 15) (by decide +kernel) rfl
theorem cl_X3_58 : nd_cv RX3 58 M_X3_findTokens 0 2 := ⟨ok_X3_findTokens, wi_X3_findTokens, wl_X3_findTokens, nd_ti (i := 549) (by decide +kernel) rfl, TX3, 15, rfl⟩
theorem wc_X5_kings : Cond.code yX5_kings cX5_kings 7 (some .int) ∈ nd_tbl := nd_ti (i := 936) (by decide +kernel) rfl
theorem ok_X5_kings : nd_okN M_X5_kings 1 := ⟨wc_X5_kings, wn_X5, by decide +kernel, by decide +kernel, by decide +kernel⟩
theorem wi_X5_kings : Cond.instanceMethod yX5_kings ∈ nd_tbl := nd_ti (i := 934) (by decide +kernel) rfl
theorem wl_X5_kings : Cond.selects RX5 yX5_kings yX5_kings ∈ nd_tbl := nd_ti (i := 935) (by decide +kernel) rfl
theorem cl_X10_245 : nd_cv RX10 245 M_X5_kings 1 4 := ⟨ok_X5_kings, wi_X5_kings, wl_X5_kings, nd_ti (i := 933) (by decide +kernel) rfl, TX5, 7, rfl⟩
theorem wc_X5_longestRow : Cond.code yX5_longestRow cX5_longestRow 5 (some .int) ∈ nd_tbl := nd_ti (i := 944) (by decide +kernel) rfl
theorem ok_X5_longestRow : nd_okN M_X5_longestRow 1 := ⟨wc_X5_longestRow, wn_X5, by decide +kernel, by decide +kernel, by decide +kernel⟩
theorem wi_X5_longestRow : Cond.instanceMethod yX5_longestRow ∈ nd_tbl := nd_ti (i := 942) (by decide +kernel) rfl
theorem wl_X5_longestRow : Cond.selects RX5 yX5_longestRow yX5_longestRow ∈ nd_tbl := nd_ti (i := 943) (by decide +kernel) rfl
theorem cl_X10_248 : nd_cv RX10 248 M_X5_longestRow 1 4 := ⟨ok_X5_longestRow, wi_X5_longestRow, wl_X5_longestRow, nd_ti (i := 941) (by decide +kernel) rfl, TX5, 7, rfl⟩
theorem gf_X10_136 : nd_gf RX10 136 2 0 := ⟨RX3, TX3, 15, rfl, by decide, Or.inr ⟨"NextDoorBrides", nd_tn (i := 205) (by decide +kernel) rfl⟩⟩
theorem wc_X3_read : Cond.code yX3_read cX3_read 5 (some .int) ∈ nd_tbl := nd_ti (i := 533) (by decide +kernel) rfl
theorem ok_X3_read : nd_okN M_X3_read 2 := ⟨wc_X3_read, wn_X3, by decide +kernel, by decide +kernel, by decide +kernel⟩
theorem wi_X3_read : Cond.instanceMethod yX3_read ∈ nd_tbl := nd_ti (i := 531) (by decide +kernel) rfl
theorem wl_X3_read : Cond.selects RX3 yX3_read yX3_read ∈ nd_tbl := nd_ti (i := 532) (by decide +kernel) rfl
theorem cl_X10_132 : nd_cv RX10 132 M_X3_read 2 2 := ⟨ok_X3_read, wi_X3_read, wl_X3_read, nd_ti (i := 530) (by decide +kernel) rfl, TX3, 15, rfl⟩
theorem cl_X10_139 : nd_cv RX10 139 M_X5_take 2 4 := ⟨ok_X5_take, wi_X5_take, wl_X5_take, nd_ti (i := 768) (by decide +kernel) rfl, TX5, 7, rfl⟩
def f_X5_longestFrom_66 (F : Nat) (self_X5_longestFrom : Int32 → Int32 → Int32 → nd_Mem → nd_Res) (rec26 : Int32 → Int32 → Int32 → Int32 → Int32 → nd_Mem → nd_Res) (o0b : Nat) (x2 : Int32) (x3 : Int32) (x4 : Int32) (x5 : Int32) (x6 : Int32) (σ : nd_Mem) : nd_Res := (rec26 x2 x3 x4 x5 (x6 + (1 : Int32)) σ)
def f_X5_longestFrom_26_b (F : Nat) (self_X5_longestFrom : Int32 → Int32 → Int32 → nd_Mem → nd_Res) (rec26 : Int32 → Int32 → Int32 → Int32 → Int32 → nd_Mem → nd_Res) (o0b : Nat) (x2 : Int32) (x3 : Int32) (x4 : Int32) (x5 : Int32) (x6 : Int32) (σ : nd_Mem) : nd_Res := (if (12 : Int32) ≤ x6 then (some (x4, σ)) else (if ((x5 >>> (x6 &&& 31)) &&& (1 : Int32)) = (1 : Int32) then (nd_bind (self_X5_longestFrom x6 (x2 ||| ((1 : Int32) <<< (x6 &&& 31))) (x3 + (1 : Int32)) σ) fun r1 σ2 => (f_X5_longestFrom_66 F self_X5_longestFrom rec26 o0b x2 x3 (if x4 < r1 then r1 else x4) x5 x6 σ2)) else (f_X5_longestFrom_66 F self_X5_longestFrom rec26 o0b x2 x3 x4 x5 x6 σ)))
def f_X5_longestFrom_26 (F : Nat) (self_X5_longestFrom : Int32 → Int32 → Int32 → nd_Mem → nd_Res) (o0b : Nat) : Nat → Int32 → Int32 → Int32 → Int32 → Int32 → nd_Mem → nd_Res
  | 0, _, _, _, _, _, _ => none
  | m9 + 1, x2, x3, x4, x5, x6, σ => f_X5_longestFrom_26_b F self_X5_longestFrom (f_X5_longestFrom_26 F self_X5_longestFrom o0b m9) o0b x2 x3 x4 x5 x6 σ
def f_X5_longestFrom_r (F : Nat) (self_X5_longestFrom : Int32 → Int32 → Int32 → nd_Mem → nd_Res) (o0b : Nat) (x1 : Int32) (x2 : Int32) (x3 : Int32) (σ : nd_Mem) : nd_Res := (if x3 < (12 : Int32) then (nd_bind (f_X5_below F o0b x1 σ) fun r1 σ2 => (f_X5_longestFrom_26 F self_X5_longestFrom o0b F x2 x3 x3 (r1 &&& (x2 ^^^ (-1 : Int32))) (0 : Int32) σ2)) else (some (x3, σ)))
set_option maxRecDepth 100000 in
set_option maxHeartbeats 4000000 in
theorem b_X5_longestFrom_66 (F : Nat) (self_X5_longestFrom : Int32 → Int32 → Int32 → nd_Mem → nd_Res) (rec26 : Int32 → Int32 → Int32 → Int32 → Int32 → nd_Mem → nd_Res) (o0b : Nat) (sh : List nd_S) (hL : sh.length < nd_ro) (hso0 : is_Rules sh o0b) {z : Int32 × nd_Mem} (D : Nat) (hself_X5_longestFrom : ∀ (x1 : Int32) (x2 : Int32) (x3 : Int32) (σ : nd_Mem) (z : Int32 × nd_Mem), self_X5_longestFrom x1 x2 x3 σ = some z → nd_Fn M_X5_longestFrom (nd_rm (D + 2)) [.ref o0b, .int x1, .int x2, .int x3] sh σ (nd_Pi sh z)) (hrec26 : ∀ (x2 : Int32) (x3 : Int32) (x4 : Int32) (x5 : Int32) (x6 : Int32) (σ : nd_Mem), rec26 x2 x3 x4 x5 x6 σ = some z → nd_V M_X5_longestFrom (nd_rm (D + 3)) (nd_Pi sh z) 0 0 26 [(0, .ref o0b), (2, .int x2), (3, .int x3), (4, .int x4), (5, .int x5), (6, .int x6)] [] sh σ) (x2 : Int32) (x3 : Int32) (x4 : Int32) (x5 : Int32) (x6 : Int32) (σ : nd_Mem) (h : f_X5_longestFrom_66 F self_X5_longestFrom rec26 o0b x2 x3 x4 x5 x6 σ = some z) : nd_V M_X5_longestFrom (nd_rm (D + 3)) (nd_Pi sh z) 0 0 66 [(0, .ref o0b), (2, .int x2), (3, .int x3), (4, .int x4), (5, .int x5), (6, .int x6)] [] sh σ := by
  unfold f_X5_longestFrom_66 at h
  refine nd_iinc (v := (x6 + (1 : Int32))) (ls' := [(6, .int (x6 + (1 : Int32))), (0, .ref o0b), (2, .int x2), (3, .int x3), (4, .int x4), (5, .int x5)]) dX5_longestFrom_66 5 rfl (congrArg (HAdd.hAdd _) ic_1) (by decide) rfl ?_
  refine nd_goto dX5_longestFrom_69 26 (by decide) ?_
  refine nd_sub [1, 2, 3, 4, 5, 0] rfl ?_
  exact hrec26 _ _ _ _ _ _ h
set_option maxRecDepth 100000 in
set_option maxHeartbeats 4000000 in
theorem b_X5_longestFrom_26 (F : Nat) (self_X5_longestFrom : Int32 → Int32 → Int32 → nd_Mem → nd_Res) (o0b : Nat) (sh : List nd_S) (hL : sh.length < nd_ro) (hso0 : is_Rules sh o0b) {z : Int32 × nd_Mem} (D : Nat) (hself_X5_longestFrom : ∀ (x1 : Int32) (x2 : Int32) (x3 : Int32) (σ : nd_Mem) (z : Int32 × nd_Mem), self_X5_longestFrom x1 x2 x3 σ = some z → nd_Fn M_X5_longestFrom (nd_rm (D + 2)) [.ref o0b, .int x1, .int x2, .int x3] sh σ (nd_Pi sh z)) (m9 : Nat) : ∀ (x2 : Int32) (x3 : Int32) (x4 : Int32) (x5 : Int32) (x6 : Int32) (σ : nd_Mem), f_X5_longestFrom_26 F self_X5_longestFrom o0b m9 x2 x3 x4 x5 x6 σ = some z → nd_V M_X5_longestFrom (nd_rm (D + 3)) (nd_Pi sh z) 0 0 26 [(0, .ref o0b), (2, .int x2), (3, .int x3), (4, .int x4), (5, .int x5), (6, .int x6)] [] sh σ := by
  induction m9 with
  | zero =>
    intro x2 x3 x4 x5 x6 σ h
    have h : none = some z := h
    cases h
  | succ m9 hrec26 =>
    intro x2 x3 x4 x5 x6 σ h
    have h : f_X5_longestFrom_26_b F self_X5_longestFrom (f_X5_longestFrom_26 F self_X5_longestFrom o0b m9) o0b x2 x3 x4 x5 x6 σ = some z := h
    unfold f_X5_longestFrom_26_b at h
    refine nd_iload dX5_longestFrom_26 5 rfl ?_
    refine nd_bipush dX5_longestFrom_28 ib_12 ?_
    refine nd_icmp_geN dX5_longestFrom_30 72 (by decide) h (fun h => ?_) (fun h => ?_)
    · refine nd_iload dX5_longestFrom_72 3 rfl ?_
      exact nd_iret dX5_longestFrom_74 (Nat.zero_le _) (Nat.zero_le _) (vp_nar_int _) (by cases h; exact ⟨rfl, rfl, rfl⟩)
    · refine nd_iload dX5_longestFrom_33 4 rfl ?_
      refine nd_iload dX5_longestFrom_35 5 rfl ?_
      refine nd_ishr dX5_longestFrom_37 ?_
      refine nd_iconst dX5_longestFrom_38 ic_1 ?_
      refine nd_iand dX5_longestFrom_39 ?_
      refine nd_iconst dX5_longestFrom_40 ic_1 ?_
      refine nd_icmp_neN dX5_longestFrom_41 66 (by decide) h (fun h => ?_) (fun h => ?_)
      · exact b_X5_longestFrom_66 F _ _ o0b sh hL hso0 D hself_X5_longestFrom hrec26 _ _ _ _ _ _ h
      · refine nd_iload dX5_longestFrom_44 3 rfl ?_
        refine nd_aload_n dX5_longestFrom_46 0 rfl ?_
        refine nd_iload dX5_longestFrom_47 5 rfl ?_
        refine nd_iload_n dX5_longestFrom_49 1 rfl ?_
        refine nd_iconst dX5_longestFrom_50 ic_1 ?_
        refine nd_iload dX5_longestFrom_51 5 rfl ?_
        refine nd_ishl dX5_longestFrom_53 ?_
        refine nd_ior dX5_longestFrom_54 ?_
        refine nd_iload_n dX5_longestFrom_55 2 rfl ?_
        refine nd_iconst dX5_longestFrom_56 ic_1 ?_
        refine nd_iadd dX5_longestFrom_57 ?_
        obtain ⟨r1, σ2, hc3, h⟩ := nd_bind_e h
        refine nd_csi [.ref o0b, .int x6, .int (x2 ||| ((1 : Int32) <<< (x6 &&& 31))), .int (x3 + (1 : Int32))] [.int x4] dX5_longestFrom_58 cl_X5_83 (nd_roomL (by omega) (by decide)) rfl (Nat.le_of_ble_eq_true rfl) hL (hself_X5_longestFrom _ _ _ _ _ hc3) ?_
        refine nd_max dX5_longestFrom_61 lk_X5_87 wmax_s wmax_i wmax_c ⟨by show 1 ≤ (D + 3); omega, by show 21 ≤ 64 * (D + 3); omega⟩ (Nat.le_refl _) (Nat.le_refl _) (Nat.le_of_ble_eq_true rfl) ?_
        refine nd_istore (ls' := [(4, .int (if x4 < r1 then r1 else x4)), (0, .ref o0b), (2, .int x2), (3, .int x3), (5, .int x5), (6, .int x6)]) dX5_longestFrom_64 (by decide) rfl ?_
        refine nd_sub [1, 2, 3, 0, 4, 5] rfl ?_
        exact b_X5_longestFrom_66 F _ _ o0b sh hL hso0 D hself_X5_longestFrom hrec26 _ _ _ _ _ _ h
set_option maxRecDepth 100000 in
set_option maxHeartbeats 4000000 in
theorem t_X5_longestFrom_r (F : Nat) (self_X5_longestFrom : Int32 → Int32 → Int32 → nd_Mem → nd_Res) (o0b : Nat) (sh : List nd_S) (hL : sh.length < nd_ro) (hso0 : is_Rules sh o0b) {z : Int32 × nd_Mem} (D : Nat) (hself_X5_longestFrom : ∀ (x1 : Int32) (x2 : Int32) (x3 : Int32) (σ : nd_Mem) (z : Int32 × nd_Mem), self_X5_longestFrom x1 x2 x3 σ = some z → nd_Fn M_X5_longestFrom (nd_rm (D + 2)) [.ref o0b, .int x1, .int x2, .int x3] sh σ (nd_Pi sh z)) (x1 : Int32) (x2 : Int32) (x3 : Int32) (σ : nd_Mem) (h : f_X5_longestFrom_r F self_X5_longestFrom o0b x1 x2 x3 σ = some z) : nd_Fn M_X5_longestFrom (nd_rm (D + 3)) [.ref o0b, .int x1, .int x2, .int x3] sh σ (nd_Pi sh z) := by
  refine nd_Fn.ofV (ls := [(0, .ref o0b), (1, .int x1), (2, .int x2), (3, .int x3)]) pl_X5_longestFrom rfl (fun _ => Nat.le_of_ble_eq_true rfl) (fun _ => rfl) ?_
  unfold f_X5_longestFrom_r at h
  refine nd_iload_n dX5_longestFrom_0 3 rfl ?_
  refine nd_istore (ls' := [(4, .int x3), (0, .ref o0b), (1, .int x1), (2, .int x2), (3, .int x3)]) dX5_longestFrom_1 (by decide) rfl ?_
  refine nd_iload_n dX5_longestFrom_3 4 rfl ?_
  refine nd_bipush dX5_longestFrom_4 ib_12 ?_
  refine nd_icmp_ltN dX5_longestFrom_6 12 (by decide) h (fun h => ?_) (fun h => ?_)
  · refine nd_aload_n dX5_longestFrom_12 1 rfl ?_
    refine nd_iload_n dX5_longestFrom_13 2 rfl ?_
    obtain ⟨r1, σ2, hc3, h⟩ := nd_bind_e h
    refine nd_cvi [.int x1] [] dX5_longestFrom_14 cl_X5_74 hso0.1 (nd_roomL (by omega) (by decide)) rfl (Nat.le_of_ble_eq_true rfl) hL (t_X5_below F o0b sh hL hso0 _ _ hc3) ?_
    refine nd_iload_n dX5_longestFrom_17 3 rfl ?_
    refine nd_iconst dX5_longestFrom_18 ic_m1 ?_
    refine nd_ixor dX5_longestFrom_19 ?_
    refine nd_iand dX5_longestFrom_20 ?_
    refine nd_istore (ls' := [(5, .int (r1 &&& (x2 ^^^ (-1 : Int32)))), (4, .int x3), (0, .ref o0b), (1, .int x1), (2, .int x2), (3, .int x3)]) dX5_longestFrom_21 (by decide) rfl ?_
    refine nd_iconst dX5_longestFrom_23 ic_0 ?_
    refine nd_istore (ls' := [(6, .int (0 : Int32)), (5, .int (r1 &&& (x2 ^^^ (-1 : Int32)))), (4, .int x3), (0, .ref o0b), (1, .int x1), (2, .int x2), (3, .int x3)]) dX5_longestFrom_24 (by decide) rfl ?_
    refine nd_sub [3, 5, 6, 2, 1, 0] rfl ?_
    exact b_X5_longestFrom_26 F _ o0b sh hL hso0 D hself_X5_longestFrom F _ _ _ _ _ _ h
  · refine nd_iload dX5_longestFrom_9 0 rfl ?_
    exact nd_iret dX5_longestFrom_11 (Nat.zero_le _) (Nat.zero_le _) (vp_nar_int _) (by cases h; exact ⟨rfl, rfl, rfl⟩)
def f_X5_longestFrom (F : Nat) (o0b : Nat) : Nat → Int32 → Int32 → Int32 → nd_Mem → nd_Res
  | 0, _, _, _, _ => none
  | D + 1, x1, x2, x3, σ => f_X5_longestFrom_r F (f_X5_longestFrom F o0b D) o0b x1 x2 x3 σ
theorem t_X5_longestFrom (F : Nat) (o0b : Nat) (sh : List nd_S) (hL : sh.length < nd_ro) (hso0 : is_Rules sh o0b) (D : Nat) : ∀ (x1 x2 x3 : Int32) (σ : nd_Mem) (z : Int32 × nd_Mem), f_X5_longestFrom F o0b D x1 x2 x3 σ = some z → nd_Fn M_X5_longestFrom (nd_rm (D + 2)) [.ref o0b, .int x1, .int x2, .int x3] sh σ (nd_Pi sh z) := by
  induction D with
  | zero =>
    intro x1 x2 x3 σ z h
    have h : none = some z := h
    cases h
  | succ D ih =>
    intro x1 x2 x3 σ z h
    have h : f_X5_longestFrom_r F (f_X5_longestFrom F o0b D) o0b x1 x2 x3 σ = some z := h
    have h9 := t_X5_longestFrom_r F _ o0b sh hL hso0 D ih _ _ _ _ h
    rw [show D + 1 + 2 = D + 3 by omega]
    exact h9
def f_X3_readEither_81 (F : Nat) (self_X3_readCondition : Int32 → nd_Mem → nd_Res) (rec7 : Int32 → Int32 → Int32 → Int32 → nd_Mem → nd_Res) (x1 : Int32) (x2 : Int32) (x3 : Int32) (x4 : Int32) (σ : nd_Mem) : nd_Res := (nd_bind (f_X3_advance F σ) fun r1 σ2 => (rec7 x1 x2 x3 (x4 + (1 : Int32)) σ2))
def f_X3_readEither_69 (F : Nat) (self_X3_readCondition : Int32 → nd_Mem → nd_Res) (rec7 : Int32 → Int32 → Int32 → Int32 → nd_Mem → nd_Res) (x1 : Int32) (x3 : Int32) (x4 : Int32) (σ : nd_Mem) : nd_Res := (nd_bind (f_X3_isWord F (4 : Int32) σ) fun r1 σ2 => (if r1 = 0 then (some ((1 : Int32), σ2)) else (f_X3_readEither_81 F self_X3_readCondition rec7 x1 r1 x3 x4 σ2)))
def f_X3_readEither_42 (F : Nat) (self_X3_readCondition : Int32 → nd_Mem → nd_Res) (rec7 : Int32 → Int32 → Int32 → Int32 → nd_Mem → nd_Res) (x1 : Int32) (x2 : Int32) (x4 : Int32) (σ : nd_Mem) : nd_Res := (nd_bind (f_X3_isWord F (5 : Int32) σ) fun r1 σ2 => (if r1 = 0 then (if x2 = 0 then (f_X3_readEither_69 F self_X3_readCondition rec7 x1 r1 x4 σ2) else (nd_bind (f_X4_add F 42 43 400 (-4 : Int32) σ2) fun r4 σ5 => (f_X3_readEither_69 F self_X3_readCondition rec7 x1 r1 x4 σ5))) else (f_X3_readEither_81 F self_X3_readCondition rec7 x1 x2 r1 x4 σ2)))
def f_X3_readEither_7_b (F : Nat) (self_X3_readCondition : Int32 → nd_Mem → nd_Res) (rec7 : Int32 → Int32 → Int32 → Int32 → nd_Mem → nd_Res) (x1 : Int32) (x2 : Int32) (x3 : Int32) (x4 : Int32) (σ : nd_Mem) : nd_Res := (if (400 : Int32) ≤ x4 then (nd_bind (f_X3_refuse F (1 : Int32) σ) fun r1 σ2 => (if ¬ (r1 = 0 ∨ r1 = 1) then none else (some (r1, σ2)))) else (nd_bind (self_X3_readCondition x1 σ) fun r5 σ6 => (if r5 = 0 then (some ((0 : Int32), σ6)) else (if x3 = 0 then (f_X3_readEither_42 F self_X3_readCondition rec7 x1 x2 x4 σ6) else (nd_bind (f_X4_add F 42 43 400 (-3 : Int32) σ6) fun r8 σ9 => (f_X3_readEither_42 F self_X3_readCondition rec7 x1 x2 x4 σ9))))))
def f_X3_readEither_7 (F : Nat) (self_X3_readCondition : Int32 → nd_Mem → nd_Res) : Nat → Int32 → Int32 → Int32 → Int32 → nd_Mem → nd_Res
  | 0, _, _, _, _, _ => none
  | m9 + 1, x1, x2, x3, x4, σ => f_X3_readEither_7_b F self_X3_readCondition (f_X3_readEither_7 F self_X3_readCondition m9) x1 x2 x3 x4 σ
def f_X3_readEither_r (F : Nat) (self_X3_readCondition : Int32 → nd_Mem → nd_Res) (x1 : Int32) (σ : nd_Mem) : nd_Res := (f_X3_readEither_7 F self_X3_readCondition F x1 (0 : Int32) (0 : Int32) (0 : Int32) σ)
set_option maxRecDepth 100000 in
set_option maxHeartbeats 4000000 in
theorem b_X3_readEither_81 (F : Nat) (self_X3_readCondition : Int32 → nd_Mem → nd_Res) (rec7 : Int32 → Int32 → Int32 → Int32 → nd_Mem → nd_Res) (t : List nd_S) (hL : (nd_SH ++ t).length < nd_ro) {z : Int32 × nd_Mem} (D : Nat) (hself_X3_readCondition : ∀ (x1 : Int32) (σ : nd_Mem) (z : Int32 × nd_Mem), self_X3_readCondition x1 σ = some z → nd_Fn M_X3_readCondition (nd_rm (D + 2)) [.ref 38, .int x1] (nd_SH ++ t) σ (nd_Pi (nd_SH ++ t) z)) (hrec7 : ∀ (x1 : Int32) (x2 : Int32) (x3 : Int32) (x4 : Int32) (σ : nd_Mem), rec7 x1 x2 x3 x4 σ = some z → nd_V M_X3_readEither (nd_rm (D + 3)) (nd_Pi (nd_SH ++ t) z) 0 0 7 [(0, .ref 38), (1, .int x1), (2, .int x2), (3, .int x3), (4, .int x4)] [] (nd_SH ++ t) σ) (x1 : Int32) (x2 : Int32) (x3 : Int32) (x4 : Int32) (σ : nd_Mem) (h : f_X3_readEither_81 F self_X3_readCondition rec7 x1 x2 x3 x4 σ = some z) : nd_V M_X3_readEither (nd_rm (D + 3)) (nd_Pi (nd_SH ++ t) z) 0 0 81 [(0, .ref 38), (1, .int x1), (2, .int x2), (3, .int x3), (4, .int x4)] [] (nd_SH ++ t) σ := by
  unfold f_X3_readEither_81 at h
  refine nd_aload_n dX3_readEither_81 0 rfl ?_
  obtain ⟨r1, σ2, hc3, h⟩ := nd_bind_e h
  refine nd_cvv [] [] dX3_readEither_82 cl_X3_61 (sh_38 t) (nd_roomL (by omega) (by decide)) rfl (Nat.le_of_ble_eq_true rfl) hL (t_X3_advance F t hL _ hc3) ?_
  refine nd_iinc (v := (x4 + (1 : Int32))) (ls' := [(4, .int (x4 + (1 : Int32))), (0, .ref 38), (1, .int x1), (2, .int x2), (3, .int x3)]) dX3_readEither_85 4 rfl (congrArg (HAdd.hAdd _) ic_1) (by decide) rfl ?_
  refine nd_goto dX3_readEither_88 7 (by decide) ?_
  refine nd_sub [1, 2, 3, 4, 0] rfl ?_
  exact hrec7 _ _ _ _ _ h
set_option maxRecDepth 100000 in
set_option maxHeartbeats 4000000 in
theorem b_X3_readEither_69 (F : Nat) (self_X3_readCondition : Int32 → nd_Mem → nd_Res) (rec7 : Int32 → Int32 → Int32 → Int32 → nd_Mem → nd_Res) (t : List nd_S) (hL : (nd_SH ++ t).length < nd_ro) {z : Int32 × nd_Mem} (D : Nat) (hself_X3_readCondition : ∀ (x1 : Int32) (σ : nd_Mem) (z : Int32 × nd_Mem), self_X3_readCondition x1 σ = some z → nd_Fn M_X3_readCondition (nd_rm (D + 2)) [.ref 38, .int x1] (nd_SH ++ t) σ (nd_Pi (nd_SH ++ t) z)) (hrec7 : ∀ (x1 : Int32) (x2 : Int32) (x3 : Int32) (x4 : Int32) (σ : nd_Mem), rec7 x1 x2 x3 x4 σ = some z → nd_V M_X3_readEither (nd_rm (D + 3)) (nd_Pi (nd_SH ++ t) z) 0 0 7 [(0, .ref 38), (1, .int x1), (2, .int x2), (3, .int x3), (4, .int x4)] [] (nd_SH ++ t) σ) (x1 : Int32) (x3 : Int32) (x4 : Int32) (σ : nd_Mem) (h : f_X3_readEither_69 F self_X3_readCondition rec7 x1 x3 x4 σ = some z) : nd_V M_X3_readEither (nd_rm (D + 3)) (nd_Pi (nd_SH ++ t) z) 0 0 69 [(0, .ref 38), (1, .int x1), (3, .int x3), (4, .int x4)] [] (nd_SH ++ t) σ := by
  unfold f_X3_readEither_69 at h
  refine nd_aload_n dX3_readEither_69 0 rfl ?_
  refine nd_iconst dX3_readEither_70 ic_4 ?_
  obtain ⟨r1, σ2, hc3, h⟩ := nd_bind_e h
  refine nd_cvi [.int (4 : Int32)] [] dX3_readEither_71 cl_X3_114 (sh_38 t) (nd_roomL (by omega) (by decide)) rfl (Nat.le_of_ble_eq_true rfl) hL (t_X3_isWord F t hL _ _ hc3) ?_
  refine nd_istore_n (ls' := [(2, .int r1), (0, .ref 38), (1, .int x1), (3, .int x3), (4, .int x4)]) dX3_readEither_74 (by decide) rfl ?_
  refine nd_iload_n dX3_readEither_75 0 rfl ?_
  refine nd_if_neN dX3_readEither_76 81 (by decide) h (fun h => ?_) (fun h => ?_)
  · refine nd_sub [1, 2, 0, 3, 4] rfl ?_
    exact b_X3_readEither_81 F _ _ t hL D hself_X3_readCondition hrec7 _ _ _ _ _ h
  · refine nd_iconst dX3_readEither_79 ic_1 ?_
    exact nd_iret dX3_readEither_80 (Nat.zero_le _) (Nat.zero_le _) rfl (by cases h; exact ⟨rfl, rfl, rfl⟩)
set_option maxRecDepth 100000 in
set_option maxHeartbeats 4000000 in
theorem b_X3_readEither_42 (F : Nat) (self_X3_readCondition : Int32 → nd_Mem → nd_Res) (rec7 : Int32 → Int32 → Int32 → Int32 → nd_Mem → nd_Res) (t : List nd_S) (hL : (nd_SH ++ t).length < nd_ro) {z : Int32 × nd_Mem} (D : Nat) (hself_X3_readCondition : ∀ (x1 : Int32) (σ : nd_Mem) (z : Int32 × nd_Mem), self_X3_readCondition x1 σ = some z → nd_Fn M_X3_readCondition (nd_rm (D + 2)) [.ref 38, .int x1] (nd_SH ++ t) σ (nd_Pi (nd_SH ++ t) z)) (hrec7 : ∀ (x1 : Int32) (x2 : Int32) (x3 : Int32) (x4 : Int32) (σ : nd_Mem), rec7 x1 x2 x3 x4 σ = some z → nd_V M_X3_readEither (nd_rm (D + 3)) (nd_Pi (nd_SH ++ t) z) 0 0 7 [(0, .ref 38), (1, .int x1), (2, .int x2), (3, .int x3), (4, .int x4)] [] (nd_SH ++ t) σ) (x1 : Int32) (x2 : Int32) (x4 : Int32) (σ : nd_Mem) (h : f_X3_readEither_42 F self_X3_readCondition rec7 x1 x2 x4 σ = some z) : nd_V M_X3_readEither (nd_rm (D + 3)) (nd_Pi (nd_SH ++ t) z) 0 0 42 [(0, .ref 38), (1, .int x1), (2, .int x2), (4, .int x4)] [] (nd_SH ++ t) σ := by
  unfold f_X3_readEither_42 at h
  refine nd_aload_n dX3_readEither_42 0 rfl ?_
  refine nd_iconst dX3_readEither_43 ic_5 ?_
  obtain ⟨r1, σ2, hc3, h⟩ := nd_bind_e h
  refine nd_cvi [.int (5 : Int32)] [] dX3_readEither_44 cl_X3_114 (sh_38 t) (nd_roomL (by omega) (by decide)) rfl (Nat.le_of_ble_eq_true rfl) hL (t_X3_isWord F t hL _ _ hc3) ?_
  refine nd_istore_n (ls' := [(3, .int r1), (0, .ref 38), (1, .int x1), (2, .int x2), (4, .int x4)]) dX3_readEither_47 (by decide) rfl ?_
  refine nd_iload_n dX3_readEither_48 0 rfl ?_
  refine nd_if_neN dX3_readEither_49 81 (by decide) h (fun h => ?_) (fun h => ?_)
  · refine nd_sub [1, 2, 3, 0, 4] rfl ?_
    exact b_X3_readEither_81 F _ _ t hL D hself_X3_readCondition hrec7 _ _ _ _ _ h
  · refine nd_iload_n dX3_readEither_52 3 rfl ?_
    refine nd_if_eqN dX3_readEither_53 69 (by decide) h (fun h => ?_) (fun h => ?_)
    · refine nd_sub [1, 2, 0, 4] rfl ?_
      exact b_X3_readEither_69 F _ _ t hL D hself_X3_readCondition hrec7 _ _ _ _ h
    · refine nd_aload_n dX3_readEither_56 1 rfl ?_
      refine nd_get dX3_readEither_57 gf_X3_12 (sh_38 t) rfl ?_
      refine nd_get dX3_readEither_60 gf_X3_104 (sh_39 t) rfl ?_
      refine nd_bipush dX3_readEither_63 ib_m4 ?_
      obtain ⟨r4, σ5, hc6, h⟩ := nd_bind_e h
      refine nd_cvi [.int (-4 : Int32)] [] dX3_readEither_65 cl_X3_147 (sh_42 t) (nd_roomL (by omega) (by decide)) rfl (Nat.le_of_ble_eq_true rfl) hL (t_X4_add F 42 43 400 (nd_SH ++ t) hL (is_Row_42 t) _ _ hc6) ?_
      refine nd_pop dX3_readEither_68 rfl ?_
      refine nd_sub [1, 2, 0, 4] rfl ?_
      exact b_X3_readEither_69 F _ _ t hL D hself_X3_readCondition hrec7 _ _ _ _ h
set_option maxRecDepth 100000 in
set_option maxHeartbeats 4000000 in
theorem b_X3_readEither_7 (F : Nat) (self_X3_readCondition : Int32 → nd_Mem → nd_Res) (t : List nd_S) (hL : (nd_SH ++ t).length < nd_ro) {z : Int32 × nd_Mem} (D : Nat) (hself_X3_readCondition : ∀ (x1 : Int32) (σ : nd_Mem) (z : Int32 × nd_Mem), self_X3_readCondition x1 σ = some z → nd_Fn M_X3_readCondition (nd_rm (D + 2)) [.ref 38, .int x1] (nd_SH ++ t) σ (nd_Pi (nd_SH ++ t) z)) (m9 : Nat) : ∀ (x1 : Int32) (x2 : Int32) (x3 : Int32) (x4 : Int32) (σ : nd_Mem), f_X3_readEither_7 F self_X3_readCondition m9 x1 x2 x3 x4 σ = some z → nd_V M_X3_readEither (nd_rm (D + 3)) (nd_Pi (nd_SH ++ t) z) 0 0 7 [(0, .ref 38), (1, .int x1), (2, .int x2), (3, .int x3), (4, .int x4)] [] (nd_SH ++ t) σ := by
  induction m9 with
  | zero =>
    intro x1 x2 x3 x4 σ h
    have h : none = some z := h
    cases h
  | succ m9 hrec7 =>
    intro x1 x2 x3 x4 σ h
    have h : f_X3_readEither_7_b F self_X3_readCondition (f_X3_readEither_7 F self_X3_readCondition m9) x1 x2 x3 x4 σ = some z := h
    unfold f_X3_readEither_7_b at h
    refine nd_iload dX3_readEither_7 4 rfl ?_
    refine nd_sipush dX3_readEither_9 is_400 ?_
    refine nd_icmp_geN dX3_readEither_12 91 (by decide) h (fun h => ?_) (fun h => ?_)
    · refine nd_aload_n dX3_readEither_91 0 rfl ?_
      refine nd_iconst dX3_readEither_92 ic_1 ?_
      obtain ⟨r1, σ2, hc3, h⟩ := nd_bind_e h
      refine nd_cvi [.int (1 : Int32)] [] dX3_readEither_93 cl_X3_84 (sh_38 t) (nd_roomL (by omega) (by decide)) rfl (Nat.le_of_ble_eq_true rfl) hL (t_X3_refuse F t hL _ _ hc3) ?_
      have hz4 := nd_no_e h
      have h := hz4.2
      exact nd_iret dX3_readEither_96 (Nat.zero_le _) (Nat.zero_le _) (nd_zok rfl (Classical.not_not.mp hz4.1)) (by cases h; exact ⟨rfl, rfl, rfl⟩)
    · refine nd_aload_n dX3_readEither_15 0 rfl ?_
      refine nd_iload_n dX3_readEither_16 1 rfl ?_
      obtain ⟨r5, σ6, hc7, h⟩ := nd_bind_e h
      refine nd_cvi [.int x1] [] dX3_readEither_17 cl_X3_144 (sh_38 t) (nd_roomL (by omega) (by decide)) rfl (Nat.le_of_ble_eq_true rfl) hL (hself_X3_readCondition _ _ _ hc7) ?_
      refine nd_if_neN dX3_readEither_20 25 (by decide) h (fun h => ?_) (fun h => ?_)
      · refine nd_iload_n dX3_readEither_25 3 rfl ?_
        refine nd_if_eqN dX3_readEither_26 42 (by decide) h (fun h => ?_) (fun h => ?_)
        · refine nd_sub [0, 1, 2, 4] rfl ?_
          exact b_X3_readEither_42 F _ _ t hL D hself_X3_readCondition hrec7 _ _ _ _ h
        · refine nd_aload_n dX3_readEither_29 0 rfl ?_
          refine nd_get dX3_readEither_30 gf_X3_12 (sh_38 t) rfl ?_
          refine nd_get dX3_readEither_33 gf_X3_104 (sh_39 t) rfl ?_
          refine nd_bipush dX3_readEither_36 ib_m3 ?_
          obtain ⟨r8, σ9, hc10, h⟩ := nd_bind_e h
          refine nd_cvi [.int (-3 : Int32)] [] dX3_readEither_38 cl_X3_147 (sh_42 t) (nd_roomL (by omega) (by decide)) rfl (Nat.le_of_ble_eq_true rfl) hL (t_X4_add F 42 43 400 (nd_SH ++ t) hL (is_Row_42 t) _ _ hc10) ?_
          refine nd_pop dX3_readEither_41 rfl ?_
          refine nd_sub [0, 1, 2, 4] rfl ?_
          exact b_X3_readEither_42 F _ _ t hL D hself_X3_readCondition hrec7 _ _ _ _ h
      · refine nd_iconst dX3_readEither_23 ic_0 ?_
        exact nd_iret dX3_readEither_24 (Nat.zero_le _) (Nat.zero_le _) rfl (by cases h; exact ⟨rfl, rfl, rfl⟩)
set_option maxRecDepth 100000 in
set_option maxHeartbeats 4000000 in
theorem t_X3_readEither_r (F : Nat) (self_X3_readCondition : Int32 → nd_Mem → nd_Res) (t : List nd_S) (hL : (nd_SH ++ t).length < nd_ro) {z : Int32 × nd_Mem} (D : Nat) (hself_X3_readCondition : ∀ (x1 : Int32) (σ : nd_Mem) (z : Int32 × nd_Mem), self_X3_readCondition x1 σ = some z → nd_Fn M_X3_readCondition (nd_rm (D + 2)) [.ref 38, .int x1] (nd_SH ++ t) σ (nd_Pi (nd_SH ++ t) z)) (x1 : Int32) (σ : nd_Mem) (h : f_X3_readEither_r F self_X3_readCondition x1 σ = some z) : nd_Fn M_X3_readEither (nd_rm (D + 3)) [.ref 38, .int x1] (nd_SH ++ t) σ (nd_Pi (nd_SH ++ t) z) := by
  refine nd_Fn.ofV (ls := [(0, .ref 38), (1, .int x1)]) pl_X3_readEither rfl (fun _ => Nat.le_of_ble_eq_true rfl) (fun _ => rfl) ?_
  unfold f_X3_readEither_r at h
  refine nd_iconst dX3_readEither_0 ic_0 ?_
  refine nd_istore_n (ls' := [(2, .int (0 : Int32)), (0, .ref 38), (1, .int x1)]) dX3_readEither_1 (by decide) rfl ?_
  refine nd_iconst dX3_readEither_2 ic_0 ?_
  refine nd_istore_n (ls' := [(3, .int (0 : Int32)), (2, .int (0 : Int32)), (0, .ref 38), (1, .int x1)]) dX3_readEither_3 (by decide) rfl ?_
  refine nd_iconst dX3_readEither_4 ic_0 ?_
  refine nd_istore (ls' := [(4, .int (0 : Int32)), (3, .int (0 : Int32)), (2, .int (0 : Int32)), (0, .ref 38), (1, .int x1)]) dX3_readEither_5 (by decide) rfl ?_
  refine nd_sub [3, 4, 2, 1, 0] rfl ?_
  exact b_X3_readEither_7 F _ t hL D hself_X3_readCondition F _ _ _ _ _ h
def f_X3_readCondition_40 (F : Nat) (self_X3_readEither : Int32 → nd_Mem → nd_Res) (self_X3_readCondition : Int32 → nd_Mem → nd_Res) (σ : nd_Mem) : nd_Res := (some ((0 : Int32), σ))
def f_X3_readCondition_74 (F : Nat) (self_X3_readEither : Int32 → nd_Mem → nd_Res) (self_X3_readCondition : Int32 → nd_Mem → nd_Res) (s0 : Int32) (σ : nd_Mem) : nd_Res := (nd_bind (f_X4_add F 42 43 400 (-2 : Int32) σ) fun r1 σ2 => (if ¬ (s0 = 0 ∨ s0 = 1) then none else (some (s0, σ2))))
def f_X3_readCondition_73 (F : Nat) (self_X3_readEither : Int32 → nd_Mem → nd_Res) (self_X3_readCondition : Int32 → nd_Mem → nd_Res) (σ : nd_Mem) : nd_Res := (f_X3_readCondition_74 F self_X3_readEither self_X3_readCondition (0 : Int32) σ)
def f_X3_readCondition_137 (F : Nat) (self_X3_readEither : Int32 → nd_Mem → nd_Res) (self_X3_readCondition : Int32 → nd_Mem → nd_Res) (x2 : Int32) (σ : nd_Mem) : nd_Res := (nd_bind (f_X3_advance F σ) fun r1 σ2 => (nd_bind (f_X3_readSum F σ2) fun r4 σ5 => (nd_bind (f_X4_add F 42 43 400 (-x2) σ5) fun r7 σ8 => (if ¬ (r4 = 0 ∨ r4 = 1) then none else (some (r4, σ8))))))
def f_X3_readCondition_r (F : Nat) (self_X3_readEither : Int32 → nd_Mem → nd_Res) (self_X3_readCondition : Int32 → nd_Mem → nd_Res) (x1 : Int32) (σ : nd_Mem) : nd_Res := (nd_bind (f_X3_isSign F (40 : Int32) σ) fun r1 σ2 => (if r1 = 0 then (nd_bind (f_X3_isWord F (6 : Int32) σ2) fun r4 σ5 => (if r4 = 0 then (nd_bind (f_X3_readSum F σ5) fun r7 σ8 => (if r7 = 0 then (some ((0 : Int32), σ8)) else (nd_bind (f_X3_isSign F (60 : Int32) σ8) fun r10 σ11 => (if r10 = 0 then (nd_bind (f_X3_isSign F (61 : Int32) σ11) fun r13 σ14 => (if r13 = 0 then (nd_bind (f_X3_isSign F (62 : Int32) σ14) fun r16 σ17 => (if r16 = 0 then (nd_bind (f_X3_refuse F (1 : Int32) σ17) fun r19 σ20 => (if ¬ (r19 = 0 ∨ r19 = 1) then none else (some (r19, σ20)))) else (f_X3_readCondition_137 F self_X3_readEither self_X3_readCondition (σ8 38 12) σ17))) else (f_X3_readCondition_137 F self_X3_readEither self_X3_readCondition (σ8 38 12) σ14))) else (f_X3_readCondition_137 F self_X3_readEither self_X3_readCondition (σ8 38 12) σ11))))) else (nd_bind (f_X3_mayOpen F x1 σ5) fun r23 σ24 => (if r23 = 0 then (f_X3_readCondition_73 F self_X3_readEither self_X3_readCondition σ24) else (nd_bind (self_X3_readCondition (x1 + (1 : Int32)) σ24) fun r26 σ27 => (if r26 = 0 then (f_X3_readCondition_73 F self_X3_readEither self_X3_readCondition σ27) else (f_X3_readCondition_74 F self_X3_readEither self_X3_readCondition (1 : Int32) σ27))))))) else (nd_bind (f_X3_mayOpen F x1 σ2) fun r29 σ30 => (if r29 = 0 then (f_X3_readCondition_40 F self_X3_readEither self_X3_readCondition σ30) else (nd_bind (self_X3_readEither (x1 + (1 : Int32)) σ30) fun r32 σ33 => (if r32 = 0 then (f_X3_readCondition_40 F self_X3_readEither self_X3_readCondition σ33) else (nd_bind (f_X3_readSign F (41 : Int32) σ33) fun r35 σ36 => (if r35 = 0 then (f_X3_readCondition_40 F self_X3_readEither self_X3_readCondition σ36) else (some ((1 : Int32), σ36))))))))))
set_option maxRecDepth 100000 in
set_option maxHeartbeats 4000000 in
theorem b_X3_readCondition_40 (F : Nat) (self_X3_readEither : Int32 → nd_Mem → nd_Res) (self_X3_readCondition : Int32 → nd_Mem → nd_Res) (t : List nd_S) (hL : (nd_SH ++ t).length < nd_ro) {z : Int32 × nd_Mem} (D : Nat) (hself_X3_readEither : ∀ (x1 : Int32) (σ : nd_Mem) (z : Int32 × nd_Mem), self_X3_readEither x1 σ = some z → nd_Fn M_X3_readEither (nd_rm (D + 2)) [.ref 38, .int x1] (nd_SH ++ t) σ (nd_Pi (nd_SH ++ t) z)) (hself_X3_readCondition : ∀ (x1 : Int32) (σ : nd_Mem) (z : Int32 × nd_Mem), self_X3_readCondition x1 σ = some z → nd_Fn M_X3_readCondition (nd_rm (D + 2)) [.ref 38, .int x1] (nd_SH ++ t) σ (nd_Pi (nd_SH ++ t) z)) (σ : nd_Mem) (h : f_X3_readCondition_40 F self_X3_readEither self_X3_readCondition σ = some z) : nd_V M_X3_readCondition (nd_rm (D + 3)) (nd_Pi (nd_SH ++ t) z) 0 0 40 [(0, .ref 38)] [] (nd_SH ++ t) σ := by
  unfold f_X3_readCondition_40 at h
  refine nd_iconst dX3_readCondition_40 ic_0 ?_
  exact nd_iret dX3_readCondition_41 (Nat.zero_le _) (Nat.zero_le _) rfl (by cases h; exact ⟨rfl, rfl, rfl⟩)
set_option maxRecDepth 100000 in
set_option maxHeartbeats 4000000 in
theorem b_X3_readCondition_74 (F : Nat) (self_X3_readEither : Int32 → nd_Mem → nd_Res) (self_X3_readCondition : Int32 → nd_Mem → nd_Res) (t : List nd_S) (hL : (nd_SH ++ t).length < nd_ro) {z : Int32 × nd_Mem} (D : Nat) (hself_X3_readEither : ∀ (x1 : Int32) (σ : nd_Mem) (z : Int32 × nd_Mem), self_X3_readEither x1 σ = some z → nd_Fn M_X3_readEither (nd_rm (D + 2)) [.ref 38, .int x1] (nd_SH ++ t) σ (nd_Pi (nd_SH ++ t) z)) (hself_X3_readCondition : ∀ (x1 : Int32) (σ : nd_Mem) (z : Int32 × nd_Mem), self_X3_readCondition x1 σ = some z → nd_Fn M_X3_readCondition (nd_rm (D + 2)) [.ref 38, .int x1] (nd_SH ++ t) σ (nd_Pi (nd_SH ++ t) z)) (s0 : Int32) (σ : nd_Mem) (h : f_X3_readCondition_74 F self_X3_readEither self_X3_readCondition s0 σ = some z) : nd_V M_X3_readCondition (nd_rm (D + 3)) (nd_Pi (nd_SH ++ t) z) 0 0 74 [(0, .ref 38)] [.int s0] (nd_SH ++ t) σ := by
  unfold f_X3_readCondition_74 at h
  refine nd_istore_n (ls' := [(2, .int s0), (0, .ref 38)]) dX3_readCondition_74 (by decide) rfl ?_
  refine nd_aload_n dX3_readCondition_75 1 rfl ?_
  refine nd_get dX3_readCondition_76 gf_X3_12 (sh_38 t) rfl ?_
  refine nd_get dX3_readCondition_79 gf_X3_104 (sh_39 t) rfl ?_
  refine nd_bipush dX3_readCondition_82 ib_m2 ?_
  obtain ⟨r1, σ2, hc3, h⟩ := nd_bind_e h
  refine nd_cvi [.int (-2 : Int32)] [] dX3_readCondition_84 cl_X3_147 (sh_42 t) (nd_roomL (by omega) (by decide)) rfl (Nat.le_of_ble_eq_true rfl) hL (t_X4_add F 42 43 400 (nd_SH ++ t) hL (is_Row_42 t) _ _ hc3) ?_
  refine nd_pop dX3_readCondition_87 rfl ?_
  refine nd_iload_n dX3_readCondition_88 0 rfl ?_
  have hz4 := nd_no_e h
  have h := hz4.2
  exact nd_iret dX3_readCondition_89 (Nat.zero_le _) (Nat.zero_le _) (nd_zok rfl (Classical.not_not.mp hz4.1)) (by cases h; exact ⟨rfl, rfl, rfl⟩)
set_option maxRecDepth 100000 in
set_option maxHeartbeats 4000000 in
theorem b_X3_readCondition_73 (F : Nat) (self_X3_readEither : Int32 → nd_Mem → nd_Res) (self_X3_readCondition : Int32 → nd_Mem → nd_Res) (t : List nd_S) (hL : (nd_SH ++ t).length < nd_ro) {z : Int32 × nd_Mem} (D : Nat) (hself_X3_readEither : ∀ (x1 : Int32) (σ : nd_Mem) (z : Int32 × nd_Mem), self_X3_readEither x1 σ = some z → nd_Fn M_X3_readEither (nd_rm (D + 2)) [.ref 38, .int x1] (nd_SH ++ t) σ (nd_Pi (nd_SH ++ t) z)) (hself_X3_readCondition : ∀ (x1 : Int32) (σ : nd_Mem) (z : Int32 × nd_Mem), self_X3_readCondition x1 σ = some z → nd_Fn M_X3_readCondition (nd_rm (D + 2)) [.ref 38, .int x1] (nd_SH ++ t) σ (nd_Pi (nd_SH ++ t) z)) (σ : nd_Mem) (h : f_X3_readCondition_73 F self_X3_readEither self_X3_readCondition σ = some z) : nd_V M_X3_readCondition (nd_rm (D + 3)) (nd_Pi (nd_SH ++ t) z) 0 0 73 [(0, .ref 38)] [] (nd_SH ++ t) σ := by
  unfold f_X3_readCondition_73 at h
  refine nd_iconst dX3_readCondition_73 ic_0 ?_
  exact b_X3_readCondition_74 F _ _ t hL D hself_X3_readEither hself_X3_readCondition _ _ h
set_option maxRecDepth 100000 in
set_option maxHeartbeats 4000000 in
theorem b_X3_readCondition_137 (F : Nat) (self_X3_readEither : Int32 → nd_Mem → nd_Res) (self_X3_readCondition : Int32 → nd_Mem → nd_Res) (t : List nd_S) (hL : (nd_SH ++ t).length < nd_ro) {z : Int32 × nd_Mem} (D : Nat) (hself_X3_readEither : ∀ (x1 : Int32) (σ : nd_Mem) (z : Int32 × nd_Mem), self_X3_readEither x1 σ = some z → nd_Fn M_X3_readEither (nd_rm (D + 2)) [.ref 38, .int x1] (nd_SH ++ t) σ (nd_Pi (nd_SH ++ t) z)) (hself_X3_readCondition : ∀ (x1 : Int32) (σ : nd_Mem) (z : Int32 × nd_Mem), self_X3_readCondition x1 σ = some z → nd_Fn M_X3_readCondition (nd_rm (D + 2)) [.ref 38, .int x1] (nd_SH ++ t) σ (nd_Pi (nd_SH ++ t) z)) (x2 : Int32) (σ : nd_Mem) (h : f_X3_readCondition_137 F self_X3_readEither self_X3_readCondition x2 σ = some z) : nd_V M_X3_readCondition (nd_rm (D + 3)) (nd_Pi (nd_SH ++ t) z) 0 0 137 [(0, .ref 38), (2, .int x2)] [] (nd_SH ++ t) σ := by
  unfold f_X3_readCondition_137 at h
  refine nd_aload_n dX3_readCondition_137 0 rfl ?_
  obtain ⟨r1, σ2, hc3, h⟩ := nd_bind_e h
  refine nd_cvv [] [] dX3_readCondition_138 cl_X3_61 (sh_38 t) (nd_roomL (by omega) (by decide)) rfl (Nat.le_of_ble_eq_true rfl) hL (t_X3_advance F t hL _ hc3) ?_
  refine nd_aload_n dX3_readCondition_141 0 rfl ?_
  obtain ⟨r4, σ5, hc6, h⟩ := nd_bind_e h
  refine nd_cvi [] [] dX3_readCondition_142 cl_X3_111 (sh_38 t) (nd_roomL (by omega) (by decide)) rfl (Nat.le_of_ble_eq_true rfl) hL (t_X3_readSum F t hL _ hc6) ?_
  refine nd_istore_n (ls' := [(3, .int r4), (0, .ref 38), (2, .int x2)]) dX3_readCondition_145 (by decide) rfl ?_
  refine nd_aload_n dX3_readCondition_146 1 rfl ?_
  refine nd_get dX3_readCondition_147 gf_X3_12 (sh_38 t) rfl ?_
  refine nd_get dX3_readCondition_150 gf_X3_104 (sh_39 t) rfl ?_
  refine nd_iload_n dX3_readCondition_153 2 rfl ?_
  refine nd_ineg dX3_readCondition_154 ?_
  obtain ⟨r7, σ8, hc9, h⟩ := nd_bind_e h
  refine nd_cvi [.int (-x2)] [] dX3_readCondition_155 cl_X3_147 (sh_42 t) (nd_roomL (by omega) (by decide)) rfl (Nat.le_of_ble_eq_true rfl) hL (t_X4_add F 42 43 400 (nd_SH ++ t) hL (is_Row_42 t) _ _ hc9) ?_
  refine nd_pop dX3_readCondition_158 rfl ?_
  refine nd_iload_n dX3_readCondition_159 0 rfl ?_
  have hz10 := nd_no_e h
  have h := hz10.2
  exact nd_iret dX3_readCondition_160 (Nat.zero_le _) (Nat.zero_le _) (nd_zok rfl (Classical.not_not.mp hz10.1)) (by cases h; exact ⟨rfl, rfl, rfl⟩)
set_option maxRecDepth 100000 in
set_option maxHeartbeats 4000000 in
theorem t_X3_readCondition_r (F : Nat) (self_X3_readEither : Int32 → nd_Mem → nd_Res) (self_X3_readCondition : Int32 → nd_Mem → nd_Res) (t : List nd_S) (hL : (nd_SH ++ t).length < nd_ro) {z : Int32 × nd_Mem} (D : Nat) (hself_X3_readEither : ∀ (x1 : Int32) (σ : nd_Mem) (z : Int32 × nd_Mem), self_X3_readEither x1 σ = some z → nd_Fn M_X3_readEither (nd_rm (D + 2)) [.ref 38, .int x1] (nd_SH ++ t) σ (nd_Pi (nd_SH ++ t) z)) (hself_X3_readCondition : ∀ (x1 : Int32) (σ : nd_Mem) (z : Int32 × nd_Mem), self_X3_readCondition x1 σ = some z → nd_Fn M_X3_readCondition (nd_rm (D + 2)) [.ref 38, .int x1] (nd_SH ++ t) σ (nd_Pi (nd_SH ++ t) z)) (x1 : Int32) (σ : nd_Mem) (h : f_X3_readCondition_r F self_X3_readEither self_X3_readCondition x1 σ = some z) : nd_Fn M_X3_readCondition (nd_rm (D + 3)) [.ref 38, .int x1] (nd_SH ++ t) σ (nd_Pi (nd_SH ++ t) z) := by
  refine nd_Fn.ofV (ls := [(0, .ref 38), (1, .int x1)]) pl_X3_readCondition rfl (fun _ => Nat.le_of_ble_eq_true rfl) (fun _ => rfl) ?_
  unfold f_X3_readCondition_r at h
  refine nd_aload_n dX3_readCondition_0 0 rfl ?_
  refine nd_bipush dX3_readCondition_1 ib_40 ?_
  obtain ⟨r1, σ2, hc3, h⟩ := nd_bind_e h
  refine nd_cvi [.int (40 : Int32)] [] dX3_readCondition_3 cl_X3_141 (sh_38 t) (nd_roomL (by omega) (by decide)) rfl (Nat.le_of_ble_eq_true rfl) hL (t_X3_isSign F t hL _ _ hc3) ?_
  refine nd_if_eqN dX3_readCondition_6 42 (by decide) h (fun h => ?_) (fun h => ?_)
  · refine nd_aload_n dX3_readCondition_42 0 rfl ?_
    refine nd_bipush dX3_readCondition_43 ib_6 ?_
    obtain ⟨r4, σ5, hc6, h⟩ := nd_bind_e h
    refine nd_cvi [.int (6 : Int32)] [] dX3_readCondition_45 cl_X3_114 (sh_38 t) (nd_roomL (by omega) (by decide)) rfl (Nat.le_of_ble_eq_true rfl) hL (t_X3_isWord F t hL _ _ hc6) ?_
    refine nd_if_eqN dX3_readCondition_48 90 (by decide) h (fun h => ?_) (fun h => ?_)
    · refine nd_aload_n dX3_readCondition_90 0 rfl ?_
      obtain ⟨r7, σ8, hc9, h⟩ := nd_bind_e h
      refine nd_cvi [] [] dX3_readCondition_91 cl_X3_111 (sh_38 t) (nd_roomL (by omega) (by decide)) rfl (Nat.le_of_ble_eq_true rfl) hL (t_X3_readSum F t hL _ hc9) ?_
      refine nd_if_neN dX3_readCondition_94 99 (by decide) h (fun h => ?_) (fun h => ?_)
      · refine nd_aload_n dX3_readCondition_99 0 rfl ?_
        refine nd_get dX3_readCondition_100 gf_X3_81 (sh_38 t) rfl ?_
        refine nd_istore_n (ls' := [(2, .int (σ8 38 12)), (0, .ref 38), (1, .int x1)]) dX3_readCondition_103 (by decide) rfl ?_
        refine nd_aload_n dX3_readCondition_104 1 rfl ?_
        refine nd_bipush dX3_readCondition_105 ib_60 ?_
        obtain ⟨r10, σ11, hc12, h⟩ := nd_bind_e h
        refine nd_cvi [.int (60 : Int32)] [] dX3_readCondition_107 cl_X3_141 (sh_38 t) (nd_roomL (by omega) (by decide)) rfl (Nat.le_of_ble_eq_true rfl) hL (t_X3_isSign F t hL _ _ hc12) ?_
        refine nd_if_neN dX3_readCondition_110 137 (by decide) h (fun h => ?_) (fun h => ?_)
        · refine nd_sub [1, 0] rfl ?_
          exact b_X3_readCondition_137 F _ _ t hL D hself_X3_readEither hself_X3_readCondition _ _ h
        · refine nd_aload_n dX3_readCondition_113 1 rfl ?_
          refine nd_bipush dX3_readCondition_114 ib_61 ?_
          obtain ⟨r13, σ14, hc15, h⟩ := nd_bind_e h
          refine nd_cvi [.int (61 : Int32)] [] dX3_readCondition_116 cl_X3_141 (sh_38 t) (nd_roomL (by omega) (by decide)) rfl (Nat.le_of_ble_eq_true rfl) hL (t_X3_isSign F t hL _ _ hc15) ?_
          refine nd_if_neN dX3_readCondition_119 137 (by decide) h (fun h => ?_) (fun h => ?_)
          · refine nd_sub [1, 0] rfl ?_
            exact b_X3_readCondition_137 F _ _ t hL D hself_X3_readEither hself_X3_readCondition _ _ h
          · refine nd_aload_n dX3_readCondition_122 1 rfl ?_
            refine nd_bipush dX3_readCondition_123 ib_62 ?_
            obtain ⟨r16, σ17, hc18, h⟩ := nd_bind_e h
            refine nd_cvi [.int (62 : Int32)] [] dX3_readCondition_125 cl_X3_141 (sh_38 t) (nd_roomL (by omega) (by decide)) rfl (Nat.le_of_ble_eq_true rfl) hL (t_X3_isSign F t hL _ _ hc18) ?_
            refine nd_if_neN dX3_readCondition_128 137 (by decide) h (fun h => ?_) (fun h => ?_)
            · refine nd_sub [1, 0] rfl ?_
              exact b_X3_readCondition_137 F _ _ t hL D hself_X3_readEither hself_X3_readCondition _ _ h
            · refine nd_aload_n dX3_readCondition_131 1 rfl ?_
              refine nd_iconst dX3_readCondition_132 ic_1 ?_
              obtain ⟨r19, σ20, hc21, h⟩ := nd_bind_e h
              refine nd_cvi [.int (1 : Int32)] [] dX3_readCondition_133 cl_X3_84 (sh_38 t) (nd_roomL (by omega) (by decide)) rfl (Nat.le_of_ble_eq_true rfl) hL (t_X3_refuse F t hL _ _ hc21) ?_
              have hz22 := nd_no_e h
              have h := hz22.2
              exact nd_iret dX3_readCondition_136 (Nat.zero_le _) (Nat.zero_le _) (nd_zok rfl (Classical.not_not.mp hz22.1)) (by cases h; exact ⟨rfl, rfl, rfl⟩)
      · refine nd_iconst dX3_readCondition_97 ic_0 ?_
        exact nd_iret dX3_readCondition_98 (Nat.zero_le _) (Nat.zero_le _) rfl (by cases h; exact ⟨rfl, rfl, rfl⟩)
    · refine nd_aload_n dX3_readCondition_51 0 rfl ?_
      refine nd_iload_n dX3_readCondition_52 1 rfl ?_
      obtain ⟨r23, σ24, hc25, h⟩ := nd_bind_e h
      refine nd_cvi [.int x1] [] dX3_readCondition_53 cl_X3_150 (sh_38 t) (nd_roomL (by omega) (by decide)) rfl (Nat.le_of_ble_eq_true rfl) hL (t_X3_mayOpen F t hL _ _ hc25) ?_
      refine nd_if_eqN dX3_readCondition_56 73 (by decide) h (fun h => ?_) (fun h => ?_)
      · refine nd_sub [0] rfl ?_
        exact b_X3_readCondition_73 F _ _ t hL D hself_X3_readEither hself_X3_readCondition _ h
      · refine nd_aload_n dX3_readCondition_59 0 rfl ?_
        refine nd_iload_n dX3_readCondition_60 1 rfl ?_
        refine nd_iconst dX3_readCondition_61 ic_1 ?_
        refine nd_iadd dX3_readCondition_62 ?_
        obtain ⟨r26, σ27, hc28, h⟩ := nd_bind_e h
        refine nd_cvi [.int (x1 + (1 : Int32))] [] dX3_readCondition_63 cl_X3_144 (sh_38 t) (nd_roomL (by omega) (by decide)) rfl (Nat.le_of_ble_eq_true rfl) hL (hself_X3_readCondition _ _ _ hc28) ?_
        refine nd_if_eqN dX3_readCondition_66 73 (by decide) h (fun h => ?_) (fun h => ?_)
        · refine nd_sub [0] rfl ?_
          exact b_X3_readCondition_73 F _ _ t hL D hself_X3_readEither hself_X3_readCondition _ h
        · refine nd_iconst dX3_readCondition_69 ic_1 ?_
          refine nd_goto dX3_readCondition_70 74 (by decide) ?_
          refine nd_sub [0] rfl ?_
          exact b_X3_readCondition_74 F _ _ t hL D hself_X3_readEither hself_X3_readCondition _ _ h
  · refine nd_aload_n dX3_readCondition_9 0 rfl ?_
    refine nd_iload_n dX3_readCondition_10 1 rfl ?_
    obtain ⟨r29, σ30, hc31, h⟩ := nd_bind_e h
    refine nd_cvi [.int x1] [] dX3_readCondition_11 cl_X3_150 (sh_38 t) (nd_roomL (by omega) (by decide)) rfl (Nat.le_of_ble_eq_true rfl) hL (t_X3_mayOpen F t hL _ _ hc31) ?_
    refine nd_if_eqN dX3_readCondition_14 40 (by decide) h (fun h => ?_) (fun h => ?_)
    · refine nd_sub [0] rfl ?_
      exact b_X3_readCondition_40 F _ _ t hL D hself_X3_readEither hself_X3_readCondition _ h
    · refine nd_aload_n dX3_readCondition_17 0 rfl ?_
      refine nd_iload_n dX3_readCondition_18 1 rfl ?_
      refine nd_iconst dX3_readCondition_19 ic_1 ?_
      refine nd_iadd dX3_readCondition_20 ?_
      obtain ⟨r32, σ33, hc34, h⟩ := nd_bind_e h
      refine nd_cvi [.int (x1 + (1 : Int32))] [] dX3_readCondition_21 cl_X3_117 (sh_38 t) (nd_roomL (by omega) (by decide)) rfl (Nat.le_of_ble_eq_true rfl) hL (hself_X3_readEither _ _ _ hc34) ?_
      refine nd_if_eqN dX3_readCondition_24 40 (by decide) h (fun h => ?_) (fun h => ?_)
      · refine nd_sub [0] rfl ?_
        exact b_X3_readCondition_40 F _ _ t hL D hself_X3_readEither hself_X3_readCondition _ h
      · refine nd_aload_n dX3_readCondition_27 0 rfl ?_
        refine nd_bipush dX3_readCondition_28 ib_41 ?_
        obtain ⟨r35, σ36, hc37, h⟩ := nd_bind_e h
        refine nd_cvi [.int (41 : Int32)] [] dX3_readCondition_30 cl_X3_91 (sh_38 t) (nd_roomL (by omega) (by decide)) rfl (Nat.le_of_ble_eq_true rfl) hL (t_X3_readSign F t hL _ _ hc37) ?_
        refine nd_if_eqN dX3_readCondition_33 40 (by decide) h (fun h => ?_) (fun h => ?_)
        · refine nd_sub [0] rfl ?_
          exact b_X3_readCondition_40 F _ _ t hL D hself_X3_readEither hself_X3_readCondition _ h
        · refine nd_iconst dX3_readCondition_36 ic_1 ?_
          refine nd_goto dX3_readCondition_37 41 (by decide) ?_
          exact nd_iret dX3_readCondition_41 (Nat.zero_le _) (Nat.zero_le _) rfl (by cases h; exact ⟨rfl, rfl, rfl⟩)
def f_X3_grp (F : Nat) : Nat → Nat → Int32 → nd_Mem → nd_Res
  | 0, _, _, _ => none
  | D + 1, w, x, σ => match w with
    | 0 => f_X3_readEither_r F (f_X3_grp F D 1) x σ
    | _ => f_X3_readCondition_r F (f_X3_grp F D 0) (f_X3_grp F D 1) x σ
abbrev f_X3_readEither (F D : Nat) (x : Int32) (σ : nd_Mem) : nd_Res := f_X3_grp F D 0 x σ
abbrev f_X3_readCondition (F D : Nat) (x : Int32) (σ : nd_Mem) : nd_Res := f_X3_grp F D 1 x σ
theorem t_X3_grp (F : Nat) (t : List nd_S) (hL : (nd_SH ++ t).length < nd_ro) (D : Nat) : (∀ (x : Int32) (σ : nd_Mem) (z : Int32 × nd_Mem), f_X3_grp F D 0 x σ = some z → nd_Fn M_X3_readEither (nd_rm (D + 2)) [.ref 38, .int x] (nd_SH ++ t) σ (nd_Pi (nd_SH ++ t) z)) ∧ ∀ (x : Int32) (σ : nd_Mem) (z : Int32 × nd_Mem), f_X3_grp F D 1 x σ = some z → nd_Fn M_X3_readCondition (nd_rm (D + 2)) [.ref 38, .int x] (nd_SH ++ t) σ (nd_Pi (nd_SH ++ t) z) := by
  induction D with
  | zero =>
    refine ⟨fun x σ z h => ?_, fun x σ z h => ?_⟩
    · have h : none = some z := h
      cases h
    · have h : none = some z := h
      cases h
  | succ D ih =>
    rw [show D + 1 + 2 = D + 3 by omega]
    refine ⟨fun x σ z h => ?_, fun x σ z h => ?_⟩
    · have h : f_X3_readEither_r F (f_X3_grp F D 1) x σ = some z := h
      exact t_X3_readEither_r F _ t hL D ih.2 _ _ h
    · have h : f_X3_readCondition_r F (f_X3_grp F D 0) (f_X3_grp F D 1) x σ = some z := h
      exact t_X3_readCondition_r F _ _ t hL D ih.1 ih.2 _ _ h
theorem t_X3_readEither (F : Nat) (t : List nd_S) (hL : (nd_SH ++ t).length < nd_ro) (D : Nat) (x : Int32) (σ : nd_Mem) (z : Int32 × nd_Mem) (h : f_X3_readEither F D x σ = some z) : nd_Fn M_X3_readEither (nd_rm (D + 2)) [.ref 38, .int x] (nd_SH ++ t) σ (nd_Pi (nd_SH ++ t) z) := (t_X3_grp F t hL D).1 x σ z h
def f_X5_longestRow_12_b (F : Nat) (rec12 : Int32 → Int32 → Int32 → nd_Mem → nd_Res) (b : Nat) (x2 : Int32) (x3 : Int32) (x4 : Int32) (σ : nd_Mem) : nd_Res := (if x2 ≤ x4 then (some (x3, σ)) else (nd_bind (f_X5_longestFrom F b 14 x4 ((1 : Int32) <<< (x4 &&& 31)) (1 : Int32) σ) fun r1 σ2 => (rec12 x2 (if x3 < r1 then r1 else x3) (x4 + (1 : Int32)) σ2)))
def f_X5_longestRow_12 (F : Nat) (b : Nat) : Nat → Int32 → Int32 → Int32 → nd_Mem → nd_Res
  | 0, _, _, _, _ => none
  | m9 + 1, x2, x3, x4, σ => f_X5_longestRow_12_b F (f_X5_longestRow_12 F b m9) b x2 x3 x4 σ
def f_X5_longestRow (F : Nat) (b : Nat) (x1 : Int32) (σ : nd_Mem) : nd_Res := (f_X5_longestRow_12 F b F (if (12 : Int32) < x1 then (12 : Int32) else x1) (0 : Int32) (0 : Int32) σ)
set_option maxRecDepth 100000 in
set_option maxHeartbeats 4000000 in
theorem b_X5_longestRow_12 (F : Nat) (b : Nat) (sh : List nd_S) (hL : sh.length < nd_ro) (hs : is_Rules sh b) {z : Int32 × nd_Mem} (m9 : Nat) : ∀ (x2 : Int32) (x3 : Int32) (x4 : Int32) (σ : nd_Mem), f_X5_longestRow_12 F b m9 x2 x3 x4 σ = some z → nd_V M_X5_longestRow (nd_rm 17) (nd_Pi sh z) 0 0 12 [(0, .ref b), (2, .int x2), (3, .int x3), (4, .int x4)] [] sh σ := by
  induction m9 with
  | zero =>
    intro x2 x3 x4 σ h
    have h : none = some z := h
    cases h
  | succ m9 hrec12 =>
    intro x2 x3 x4 σ h
    have h : f_X5_longestRow_12_b F (f_X5_longestRow_12 F b m9) b x2 x3 x4 σ = some z := h
    unfold f_X5_longestRow_12_b at h
    refine nd_iload dX5_longestRow_12 3 rfl ?_
    refine nd_iload_n dX5_longestRow_14 1 rfl ?_
    refine nd_icmp_geN dX5_longestRow_15 40 (by decide) h (fun h => ?_) (fun h => ?_)
    · refine nd_iload_n dX5_longestRow_40 2 rfl ?_
      exact nd_iret dX5_longestRow_41 (Nat.zero_le _) (Nat.zero_le _) (vp_nar_int _) (by cases h; exact ⟨rfl, rfl, rfl⟩)
    · refine nd_iload_n dX5_longestRow_18 2 rfl ?_
      refine nd_aload_n dX5_longestRow_19 0 rfl ?_
      refine nd_iload dX5_longestRow_20 3 rfl ?_
      refine nd_iconst dX5_longestRow_22 ic_1 ?_
      refine nd_iload dX5_longestRow_23 3 rfl ?_
      refine nd_ishl dX5_longestRow_25 ?_
      refine nd_iconst dX5_longestRow_26 ic_1 ?_
      obtain ⟨r1, σ2, hc3, h⟩ := nd_bind_e h
      refine nd_csi [.ref b, .int x4, .int ((1 : Int32) <<< (x4 &&& 31)), .int (1 : Int32)] [.int x3] dX5_longestRow_27 cl_X5_83 ⟨Nat.le_of_ble_eq_true rfl, Nat.le_of_ble_eq_true rfl⟩ rfl (Nat.le_of_ble_eq_true rfl) hL (t_X5_longestFrom F b sh hL hs 14 _ _ _ _ _ hc3) ?_
      refine nd_max dX5_longestRow_30 lk_X5_87 wmax_s wmax_i wmax_c ⟨by decide, by decide⟩ (Nat.le_refl _) (Nat.le_refl _) (Nat.le_of_ble_eq_true rfl) ?_
      refine nd_istore_n (ls' := [(3, .int (if x3 < r1 then r1 else x3)), (0, .ref b), (2, .int x2), (4, .int x4)]) dX5_longestRow_33 (by decide) rfl ?_
      refine nd_iinc (v := (x4 + (1 : Int32))) (ls' := [(4, .int (x4 + (1 : Int32))), (3, .int (if x3 < r1 then r1 else x3)), (0, .ref b), (2, .int x2)]) dX5_longestRow_34 3 rfl (congrArg (HAdd.hAdd _) ic_1) (by decide) rfl ?_
      refine nd_goto dX5_longestRow_37 12 (by decide) ?_
      refine nd_sub [2, 3, 1, 0] rfl ?_
      exact hrec12 _ _ _ _ h
set_option maxRecDepth 100000 in
set_option maxHeartbeats 4000000 in
theorem t_X5_longestRow (F : Nat) (b : Nat) (sh : List nd_S) (hL : sh.length < nd_ro) (hs : is_Rules sh b) {z : Int32 × nd_Mem} (x1 : Int32) (σ : nd_Mem) (h : f_X5_longestRow F b x1 σ = some z) : nd_Fn M_X5_longestRow (nd_rm 17) [.ref b, .int x1] sh σ (nd_Pi sh z) := by
  refine nd_Fn.ofV (ls := [(0, .ref b), (1, .int x1)]) pl_X5_longestRow rfl (fun _ => Nat.le_of_ble_eq_true rfl) (fun _ => rfl) ?_
  unfold f_X5_longestRow at h
  refine nd_iload_n dX5_longestRow_0 1 rfl ?_
  refine nd_bipush dX5_longestRow_1 ib_12 ?_
  refine nd_min dX5_longestRow_3 lk_X5_77 wmin_s wmin_i wmin_c ⟨by decide, by decide⟩ (Nat.le_refl _) (Nat.le_refl _) (Nat.le_of_ble_eq_true rfl) ?_
  refine nd_istore_n (ls' := [(2, .int (if (12 : Int32) < x1 then (12 : Int32) else x1)), (0, .ref b), (1, .int x1)]) dX5_longestRow_6 (by decide) rfl ?_
  refine nd_iconst dX5_longestRow_7 ic_0 ?_
  refine nd_istore_n (ls' := [(3, .int (0 : Int32)), (2, .int (if (12 : Int32) < x1 then (12 : Int32) else x1)), (0, .ref b), (1, .int x1)]) dX5_longestRow_8 (by decide) rfl ?_
  refine nd_iconst dX5_longestRow_9 ic_0 ?_
  refine nd_istore (ls' := [(4, .int (0 : Int32)), (3, .int (0 : Int32)), (2, .int (if (12 : Int32) < x1 then (12 : Int32) else x1)), (0, .ref b), (1, .int x1)]) dX5_longestRow_10 (by decide) rfl ?_
  refine nd_sub [3, 2, 1, 0] rfl ?_
  exact b_X5_longestRow_12 F b sh hL hs F _ _ _ _ h
def f_X3_readLaw_53 (F : Nat) (x1 : Int32) (x2 : Int32) (x3 : Int32) (σ : nd_Mem) : nd_Res := (nd_bind (f_X5_addLaw F 39 x1 x2 x3 (σ 42 1) σ) fun r1 σ2 => (some ((1 : Int32), σ2)))
def f_X3_readLaw (F : Nat) (x1 : Int32) (σ : nd_Mem) : nd_Res := (nd_bind (f_X3_readSum F σ) fun r1 σ2 => (if r1 = 0 then (some ((0 : Int32), σ2)) else (nd_bind (f_X3_isWord F (3 : Int32) σ2) fun r4 σ5 => (if r4 = 0 then (f_X3_readLaw_53 F x1 (σ 42 1) (σ2 42 1) σ5) else (nd_bind (f_X3_advance F σ5) fun r7 σ8 => (nd_bind (f_X3_readEither F 40 (0 : Int32) σ8) fun r10 σ11 => (if r10 = 0 then (some ((0 : Int32), σ11)) else (f_X3_readLaw_53 F x1 (σ 42 1) (σ2 42 1) σ11))))))))
set_option maxRecDepth 100000 in
set_option maxHeartbeats 4000000 in
theorem b_X3_readLaw_53 (F : Nat) (t : List nd_S) (hL : (nd_SH ++ t).length < nd_ro) {z : Int32 × nd_Mem} (x1 : Int32) (x2 : Int32) (x3 : Int32) (σ : nd_Mem) (h : f_X3_readLaw_53 F x1 x2 x3 σ = some z) : nd_V M_X3_readLaw (nd_rm 43) (nd_Pi (nd_SH ++ t) z) 0 0 53 [(0, .ref 38), (1, .int x1), (2, .int x2), (3, .int x3)] [] (nd_SH ++ t) σ := by
  unfold f_X3_readLaw_53 at h
  refine nd_aload_n dX3_readLaw_53 0 rfl ?_
  refine nd_get dX3_readLaw_54 gf_X3_12 (sh_38 t) rfl ?_
  refine nd_iload_n dX3_readLaw_57 1 rfl ?_
  refine nd_iload_n dX3_readLaw_58 2 rfl ?_
  refine nd_iload_n dX3_readLaw_59 3 rfl ?_
  refine nd_aload_n dX3_readLaw_60 0 rfl ?_
  refine nd_get dX3_readLaw_61 gf_X3_12 (sh_38 t) rfl ?_
  refine nd_get dX3_readLaw_64 gf_X3_104 (sh_39 t) rfl ?_
  refine nd_get dX3_readLaw_67 gf_X3_108 (sh_42 t) rfl ?_
  obtain ⟨r1, σ2, hc3, h⟩ := nd_bind_e h
  refine nd_cvv [.int x1, .int x2, .int x3, .int (σ 42 1)] [] dX3_readLaw_70 cl_X3_120 (sh_39 t) ⟨Nat.le_of_ble_eq_true rfl, Nat.le_of_ble_eq_true rfl⟩ rfl (Nat.le_of_ble_eq_true rfl) hL (t_X5_addLaw F 39 (nd_SH ++ t) hL (is_Rules_39 t) _ _ _ _ _ hc3) ?_
  refine nd_iconst dX3_readLaw_73 ic_1 ?_
  exact nd_iret dX3_readLaw_74 (Nat.zero_le _) (Nat.zero_le _) rfl (by cases h; exact ⟨rfl, rfl, rfl⟩)
set_option maxRecDepth 100000 in
set_option maxHeartbeats 4000000 in
theorem t_X3_readLaw (F : Nat) (t : List nd_S) (hL : (nd_SH ++ t).length < nd_ro) {z : Int32 × nd_Mem} (x1 : Int32) (σ : nd_Mem) (h : f_X3_readLaw F x1 σ = some z) : nd_Fn M_X3_readLaw (nd_rm 43) [.ref 38, .int x1] (nd_SH ++ t) σ (nd_Pi (nd_SH ++ t) z) := by
  refine nd_Fn.ofV (ls := [(0, .ref 38), (1, .int x1)]) pl_X3_readLaw rfl (fun _ => Nat.le_of_ble_eq_true rfl) (fun _ => rfl) ?_
  unfold f_X3_readLaw at h
  refine nd_aload_n dX3_readLaw_0 0 rfl ?_
  refine nd_get dX3_readLaw_1 gf_X3_12 (sh_38 t) rfl ?_
  refine nd_get dX3_readLaw_4 gf_X3_104 (sh_39 t) rfl ?_
  refine nd_get dX3_readLaw_7 gf_X3_108 (sh_42 t) rfl ?_
  refine nd_istore_n (ls' := [(2, .int (σ 42 1)), (0, .ref 38), (1, .int x1)]) dX3_readLaw_10 (by decide) rfl ?_
  refine nd_aload_n dX3_readLaw_11 1 rfl ?_
  obtain ⟨r1, σ2, hc3, h⟩ := nd_bind_e h
  refine nd_cvi [] [] dX3_readLaw_12 cl_X3_111 (sh_38 t) ⟨Nat.le_of_ble_eq_true rfl, Nat.le_of_ble_eq_true rfl⟩ rfl (Nat.le_of_ble_eq_true rfl) hL (t_X3_readSum F t hL _ hc3) ?_
  refine nd_if_neN dX3_readLaw_15 20 (by decide) h (fun h => ?_) (fun h => ?_)
  · refine nd_aload_n dX3_readLaw_20 1 rfl ?_
    refine nd_get dX3_readLaw_21 gf_X3_12 (sh_38 t) rfl ?_
    refine nd_get dX3_readLaw_24 gf_X3_104 (sh_39 t) rfl ?_
    refine nd_get dX3_readLaw_27 gf_X3_108 (sh_42 t) rfl ?_
    refine nd_istore_n (ls' := [(3, .int (σ2 42 1)), (2, .int (σ 42 1)), (0, .ref 38), (1, .int x1)]) dX3_readLaw_30 (by decide) rfl ?_
    refine nd_aload_n dX3_readLaw_31 2 rfl ?_
    refine nd_iconst dX3_readLaw_32 ic_3 ?_
    obtain ⟨r4, σ5, hc6, h⟩ := nd_bind_e h
    refine nd_cvi [.int (3 : Int32)] [] dX3_readLaw_33 cl_X3_114 (sh_38 t) ⟨Nat.le_of_ble_eq_true rfl, Nat.le_of_ble_eq_true rfl⟩ rfl (Nat.le_of_ble_eq_true rfl) hL (t_X3_isWord F t hL _ _ hc6) ?_
    refine nd_if_eqN dX3_readLaw_36 53 (by decide) h (fun h => ?_) (fun h => ?_)
    · refine nd_sub [2, 3, 1, 0] rfl ?_
      exact b_X3_readLaw_53 F t hL _ _ _ _ h
    · refine nd_aload_n dX3_readLaw_39 2 rfl ?_
      obtain ⟨r7, σ8, hc9, h⟩ := nd_bind_e h
      refine nd_cvv [] [] dX3_readLaw_40 cl_X3_61 (sh_38 t) ⟨Nat.le_of_ble_eq_true rfl, Nat.le_of_ble_eq_true rfl⟩ rfl (Nat.le_of_ble_eq_true rfl) hL (t_X3_advance F t hL _ hc9) ?_
      refine nd_aload_n dX3_readLaw_43 2 rfl ?_
      refine nd_iconst dX3_readLaw_44 ic_0 ?_
      obtain ⟨r10, σ11, hc12, h⟩ := nd_bind_e h
      refine nd_cvi [.int (0 : Int32)] [] dX3_readLaw_45 cl_X3_117 (sh_38 t) ⟨Nat.le_of_ble_eq_true rfl, Nat.le_of_ble_eq_true rfl⟩ rfl (Nat.le_of_ble_eq_true rfl) hL (t_X3_readEither F t hL 40 _ _ _ hc12) ?_
      refine nd_if_neN dX3_readLaw_48 53 (by decide) h (fun h => ?_) (fun h => ?_)
      · refine nd_sub [2, 3, 1, 0] rfl ?_
        exact b_X3_readLaw_53 F t hL _ _ _ _ h
      · refine nd_iconst dX3_readLaw_51 ic_0 ?_
        exact nd_iret dX3_readLaw_52 (Nat.zero_le _) (Nat.zero_le _) rfl (by cases h; exact ⟨rfl, rfl, rfl⟩)
  · refine nd_iconst dX3_readLaw_18 ic_0 ?_
    exact nd_iret dX3_readLaw_19 (Nat.zero_le _) (Nat.zero_le _) rfl (by cases h; exact ⟨rfl, rfl, rfl⟩)
def f_X3_readLine_26 (F : Nat) (σ : nd_Mem) : nd_Res := (nd_bind (f_X3_refuse F (1 : Int32) σ) fun r1 σ2 => (if ¬ (r1 = 0 ∨ r1 = 1) then none else (some (r1, σ2))))
def f_X3_readLine_102 (F : Nat) (σ : nd_Mem) : nd_Res := (some ((0 : Int32), σ))
def f_X3_readLine_124 (F : Nat) (σ : nd_Mem) : nd_Res := (some ((0 : Int32), σ))
def f_X3_readLine_146 (F : Nat) (σ : nd_Mem) : nd_Res := (some ((0 : Int32), σ))
def f_X3_readLine_168 (F : Nat) (σ : nd_Mem) : nd_Res := (some ((0 : Int32), σ))
def f_X3_readLine_9 (F : Nat) (x1 : Int32) (x2 : Int32) (s0 : Int32) (σ : nd_Mem) : nd_Res := (if (σ 38 11) = (1 : Int32) then (if (σ 38 12) ≤ s0 then (if x2 < (16 : Int32) then (nd_bind (f_X3_advance F σ) fun r1 σ2 => (if x1 = (0 : Int32) then (nd_bind (f_X3_readLaw F (σ 38 12) σ2) fun r5 σ6 => (if r5 = 0 then (f_X3_readLine_102 F σ6) else (nd_bind (f_X3_readSign F (59 : Int32) σ6) fun r8 σ9 => (if r8 = 0 then (f_X3_readLine_102 F σ9) else (some ((1 : Int32), σ9)))))) else (if x1 = (1 : Int32) then (nd_bind (f_X3_readPlan F σ2) fun r12 σ13 => (if r12 = 0 then (f_X3_readLine_124 F σ13) else (nd_bind (f_X3_readSign F (59 : Int32) σ13) fun r15 σ16 => (if r15 = 0 then (f_X3_readLine_124 F σ16) else (some ((1 : Int32), σ16)))))) else (if x1 = (2 : Int32) then (nd_bind (f_X3_readFeud F σ2) fun r19 σ20 => (if r19 = 0 then (f_X3_readLine_146 F σ20) else (nd_bind (f_X3_readSign F (59 : Int32) σ20) fun r22 σ23 => (if r22 = 0 then (f_X3_readLine_146 F σ23) else (some ((1 : Int32), σ23)))))) else (nd_bind (f_X3_readSide F σ2) fun r25 σ26 => (if r25 = 0 then (f_X3_readLine_168 F σ26) else (nd_bind (f_X3_readSign F (59 : Int32) σ26) fun r28 σ29 => (if r28 = 0 then (f_X3_readLine_168 F σ29) else (some ((1 : Int32), σ29)))))))))) else (nd_bind (f_X3_refuse F (3 : Int32) σ) fun r31 σ32 => (if ¬ (r31 = 0 ∨ r31 = 1) then none else (some (r31, σ32))))) else (f_X3_readLine_26 F σ)) else (f_X3_readLine_26 F σ))
def f_X3_readLine (F : Nat) (x1 : Int32) (x2 : Int32) (σ : nd_Mem) : nd_Res := (if x1 = 0 then (f_X3_readLine_9 F x1 x2 (2 : Int32) σ) else (f_X3_readLine_9 F x1 x2 (0 : Int32) σ))
set_option maxRecDepth 100000 in
set_option maxHeartbeats 4000000 in
theorem b_X3_readLine_26 (F : Nat) (t : List nd_S) (hL : (nd_SH ++ t).length < nd_ro) {z : Int32 × nd_Mem} (σ : nd_Mem) (h : f_X3_readLine_26 F σ = some z) : nd_V M_X3_readLine (nd_rm 44) (nd_Pi (nd_SH ++ t) z) 0 0 26 [(0, .ref 38)] [] (nd_SH ++ t) σ := by
  unfold f_X3_readLine_26 at h
  refine nd_aload_n dX3_readLine_26 0 rfl ?_
  refine nd_iconst dX3_readLine_27 ic_1 ?_
  obtain ⟨r1, σ2, hc3, h⟩ := nd_bind_e h
  refine nd_cvi [.int (1 : Int32)] [] dX3_readLine_28 cl_X3_84 (sh_38 t) ⟨Nat.le_of_ble_eq_true rfl, Nat.le_of_ble_eq_true rfl⟩ rfl (Nat.le_of_ble_eq_true rfl) hL (t_X3_refuse F t hL _ _ hc3) ?_
  have hz4 := nd_no_e h
  have h := hz4.2
  exact nd_iret dX3_readLine_31 (Nat.zero_le _) (Nat.zero_le _) (nd_zok rfl (Classical.not_not.mp hz4.1)) (by cases h; exact ⟨rfl, rfl, rfl⟩)
set_option maxRecDepth 100000 in
set_option maxHeartbeats 4000000 in
theorem b_X3_readLine_102 (F : Nat) (t : List nd_S) (hL : (nd_SH ++ t).length < nd_ro) {z : Int32 × nd_Mem} (σ : nd_Mem) (h : f_X3_readLine_102 F σ = some z) : nd_V M_X3_readLine (nd_rm 44) (nd_Pi (nd_SH ++ t) z) 0 0 102 [(0, .ref 38)] [] (nd_SH ++ t) σ := by
  unfold f_X3_readLine_102 at h
  refine nd_iconst dX3_readLine_102 ic_0 ?_
  exact nd_iret dX3_readLine_103 (Nat.zero_le _) (Nat.zero_le _) rfl (by cases h; exact ⟨rfl, rfl, rfl⟩)
set_option maxRecDepth 100000 in
set_option maxHeartbeats 4000000 in
theorem b_X3_readLine_124 (F : Nat) (t : List nd_S) (hL : (nd_SH ++ t).length < nd_ro) {z : Int32 × nd_Mem} (σ : nd_Mem) (h : f_X3_readLine_124 F σ = some z) : nd_V M_X3_readLine (nd_rm 44) (nd_Pi (nd_SH ++ t) z) 0 0 124 [(0, .ref 38)] [] (nd_SH ++ t) σ := by
  unfold f_X3_readLine_124 at h
  refine nd_iconst dX3_readLine_124 ic_0 ?_
  exact nd_iret dX3_readLine_125 (Nat.zero_le _) (Nat.zero_le _) rfl (by cases h; exact ⟨rfl, rfl, rfl⟩)
set_option maxRecDepth 100000 in
set_option maxHeartbeats 4000000 in
theorem b_X3_readLine_146 (F : Nat) (t : List nd_S) (hL : (nd_SH ++ t).length < nd_ro) {z : Int32 × nd_Mem} (σ : nd_Mem) (h : f_X3_readLine_146 F σ = some z) : nd_V M_X3_readLine (nd_rm 44) (nd_Pi (nd_SH ++ t) z) 0 0 146 [(0, .ref 38)] [] (nd_SH ++ t) σ := by
  unfold f_X3_readLine_146 at h
  refine nd_iconst dX3_readLine_146 ic_0 ?_
  exact nd_iret dX3_readLine_147 (Nat.zero_le _) (Nat.zero_le _) rfl (by cases h; exact ⟨rfl, rfl, rfl⟩)
set_option maxRecDepth 100000 in
set_option maxHeartbeats 4000000 in
theorem b_X3_readLine_168 (F : Nat) (t : List nd_S) (hL : (nd_SH ++ t).length < nd_ro) {z : Int32 × nd_Mem} (σ : nd_Mem) (h : f_X3_readLine_168 F σ = some z) : nd_V M_X3_readLine (nd_rm 44) (nd_Pi (nd_SH ++ t) z) 0 0 168 [(0, .ref 38)] [] (nd_SH ++ t) σ := by
  unfold f_X3_readLine_168 at h
  refine nd_iconst dX3_readLine_168 ic_0 ?_
  exact nd_iret dX3_readLine_169 (Nat.zero_le _) (Nat.zero_le _) rfl (by cases h; exact ⟨rfl, rfl, rfl⟩)
set_option maxRecDepth 100000 in
set_option maxHeartbeats 4000000 in
theorem b_X3_readLine_9 (F : Nat) (t : List nd_S) (hL : (nd_SH ++ t).length < nd_ro) {z : Int32 × nd_Mem} (x1 : Int32) (x2 : Int32) (s0 : Int32) (σ : nd_Mem) (h : f_X3_readLine_9 F x1 x2 s0 σ = some z) : nd_V M_X3_readLine (nd_rm 44) (nd_Pi (nd_SH ++ t) z) 0 0 9 [(0, .ref 38), (1, .int x1), (2, .int x2)] [.int s0] (nd_SH ++ t) σ := by
  unfold f_X3_readLine_9 at h
  refine nd_istore_n (ls' := [(3, .int s0), (0, .ref 38), (1, .int x1), (2, .int x2)]) dX3_readLine_9 (by decide) rfl ?_
  refine nd_aload_n dX3_readLine_10 1 rfl ?_
  refine nd_get dX3_readLine_11 gf_X3_64 (sh_38 t) rfl ?_
  refine nd_iconst dX3_readLine_14 ic_1 ?_
  refine nd_icmp_neN dX3_readLine_15 26 (by decide) h (fun h => ?_) (fun h => ?_)
  · refine nd_sub [1] rfl ?_
    exact b_X3_readLine_26 F t hL _ h
  · refine nd_aload_n dX3_readLine_18 1 rfl ?_
    refine nd_get dX3_readLine_19 gf_X3_81 (sh_38 t) rfl ?_
    refine nd_iload_n dX3_readLine_22 0 rfl ?_
    refine nd_icmp_leN dX3_readLine_23 32 (by decide) h (fun h => ?_) (fun h => ?_)
    · refine nd_iload_n dX3_readLine_32 3 rfl ?_
      refine nd_bipush dX3_readLine_33 ib_16 ?_
      refine nd_icmp_ltN dX3_readLine_35 44 (by decide) h (fun h => ?_) (fun h => ?_)
      · refine nd_aload_n dX3_readLine_44 1 rfl ?_
        refine nd_get dX3_readLine_45 gf_X3_81 (sh_38 t) rfl ?_
        refine nd_istore (ls' := [(4, .int (σ 38 12)), (3, .int s0), (0, .ref 38), (1, .int x1), (2, .int x2)]) dX3_readLine_48 (by decide) rfl ?_
        refine nd_aload_n dX3_readLine_50 2 rfl ?_
        obtain ⟨r1, σ2, hc3, h⟩ := nd_bind_e h
        refine nd_cvv [] [] dX3_readLine_51 cl_X3_61 (sh_38 t) ⟨Nat.le_of_ble_eq_true rfl, Nat.le_of_ble_eq_true rfl⟩ rfl (Nat.le_of_ble_eq_true rfl) hL (t_X3_advance F t hL _ hc3) ?_
        refine nd_iload_n dX3_readLine_54 3 rfl ?_
        rcases nd_ite_e h with ⟨c4, h⟩ | ⟨c4, h⟩
        · refine nd_tin dX3_readLine_55 0 (by rw [c4] <;> decide) (by rw [c4] <;> decide) rfl 80 (by decide) ?_
          refine nd_aload_n dX3_readLine_80 2 rfl ?_
          refine nd_iload dX3_readLine_81 0 rfl ?_
          obtain ⟨r5, σ6, hc7, h⟩ := nd_bind_e h
          refine nd_cvi [.int (σ 38 12)] [] dX3_readLine_83 cl_X3_88 (sh_38 t) ⟨Nat.le_of_ble_eq_true rfl, Nat.le_of_ble_eq_true rfl⟩ rfl (Nat.le_of_ble_eq_true rfl) hL (t_X3_readLaw F t hL _ _ hc7) ?_
          refine nd_if_eqN dX3_readLine_86 102 (by decide) h (fun h => ?_) (fun h => ?_)
          · refine nd_sub [2] rfl ?_
            exact b_X3_readLine_102 F t hL _ h
          · refine nd_aload_n dX3_readLine_89 2 rfl ?_
            refine nd_bipush dX3_readLine_90 ib_59 ?_
            obtain ⟨r8, σ9, hc10, h⟩ := nd_bind_e h
            refine nd_cvi [.int (59 : Int32)] [] dX3_readLine_92 cl_X3_91 (sh_38 t) ⟨Nat.le_of_ble_eq_true rfl, Nat.le_of_ble_eq_true rfl⟩ rfl (Nat.le_of_ble_eq_true rfl) hL (t_X3_readSign F t hL _ _ hc10) ?_
            refine nd_if_eqN dX3_readLine_95 102 (by decide) h (fun h => ?_) (fun h => ?_)
            · refine nd_sub [2] rfl ?_
              exact b_X3_readLine_102 F t hL _ h
            · refine nd_iconst dX3_readLine_98 ic_1 ?_
              refine nd_goto dX3_readLine_99 103 (by decide) ?_
              exact nd_iret dX3_readLine_103 (Nat.zero_le _) (Nat.zero_le _) rfl (by cases h; exact ⟨rfl, rfl, rfl⟩)
        rcases nd_ite_e h with ⟨c11, h⟩ | ⟨c11, h⟩
        · refine nd_tin dX3_readLine_55 1 (by rw [c11] <;> decide) (by rw [c11] <;> decide) rfl 104 (by decide) ?_
          refine nd_aload_n dX3_readLine_104 2 rfl ?_
          obtain ⟨r12, σ13, hc14, h⟩ := nd_bind_e h
          refine nd_cvi [] [] dX3_readLine_105 cl_X3_94 (sh_38 t) ⟨Nat.le_of_ble_eq_true rfl, Nat.le_of_ble_eq_true rfl⟩ rfl (Nat.le_of_ble_eq_true rfl) hL (t_X3_readPlan F t hL _ hc14) ?_
          refine nd_if_eqN dX3_readLine_108 124 (by decide) h (fun h => ?_) (fun h => ?_)
          · refine nd_sub [2] rfl ?_
            exact b_X3_readLine_124 F t hL _ h
          · refine nd_aload_n dX3_readLine_111 2 rfl ?_
            refine nd_bipush dX3_readLine_112 ib_59 ?_
            obtain ⟨r15, σ16, hc17, h⟩ := nd_bind_e h
            refine nd_cvi [.int (59 : Int32)] [] dX3_readLine_114 cl_X3_91 (sh_38 t) ⟨Nat.le_of_ble_eq_true rfl, Nat.le_of_ble_eq_true rfl⟩ rfl (Nat.le_of_ble_eq_true rfl) hL (t_X3_readSign F t hL _ _ hc17) ?_
            refine nd_if_eqN dX3_readLine_117 124 (by decide) h (fun h => ?_) (fun h => ?_)
            · refine nd_sub [2] rfl ?_
              exact b_X3_readLine_124 F t hL _ h
            · refine nd_iconst dX3_readLine_120 ic_1 ?_
              refine nd_goto dX3_readLine_121 125 (by decide) ?_
              exact nd_iret dX3_readLine_125 (Nat.zero_le _) (Nat.zero_le _) rfl (by cases h; exact ⟨rfl, rfl, rfl⟩)
        rcases nd_ite_e h with ⟨c18, h⟩ | ⟨c18, h⟩
        · refine nd_tin dX3_readLine_55 2 (by rw [c18] <;> decide) (by rw [c18] <;> decide) rfl 126 (by decide) ?_
          refine nd_aload_n dX3_readLine_126 2 rfl ?_
          obtain ⟨r19, σ20, hc21, h⟩ := nd_bind_e h
          refine nd_cvi [] [] dX3_readLine_127 cl_X3_98 (sh_38 t) ⟨Nat.le_of_ble_eq_true rfl, Nat.le_of_ble_eq_true rfl⟩ rfl (Nat.le_of_ble_eq_true rfl) hL (t_X3_readFeud F t hL _ hc21) ?_
          refine nd_if_eqN dX3_readLine_130 146 (by decide) h (fun h => ?_) (fun h => ?_)
          · refine nd_sub [2] rfl ?_
            exact b_X3_readLine_146 F t hL _ h
          · refine nd_aload_n dX3_readLine_133 2 rfl ?_
            refine nd_bipush dX3_readLine_134 ib_59 ?_
            obtain ⟨r22, σ23, hc24, h⟩ := nd_bind_e h
            refine nd_cvi [.int (59 : Int32)] [] dX3_readLine_136 cl_X3_91 (sh_38 t) ⟨Nat.le_of_ble_eq_true rfl, Nat.le_of_ble_eq_true rfl⟩ rfl (Nat.le_of_ble_eq_true rfl) hL (t_X3_readSign F t hL _ _ hc24) ?_
            refine nd_if_eqN dX3_readLine_139 146 (by decide) h (fun h => ?_) (fun h => ?_)
            · refine nd_sub [2] rfl ?_
              exact b_X3_readLine_146 F t hL _ h
            · refine nd_iconst dX3_readLine_142 ic_1 ?_
              refine nd_goto dX3_readLine_143 147 (by decide) ?_
              exact nd_iret dX3_readLine_147 (Nat.zero_le _) (Nat.zero_le _) rfl (by cases h; exact ⟨rfl, rfl, rfl⟩)
        refine nd_tout dX3_readLine_55 (fun j h1 h2 => ?_) 148 (by decide) ?_
        · rcases (show j = 0 ∨ j = 1 ∨ j = 2 by omega) with rfl | rfl | rfl
          · exact fun e => c4 (e.trans ic_0)
          · exact fun e => c11 (e.trans ic_1)
          · exact fun e => c18 (e.trans ic_2)
        · refine nd_aload_n dX3_readLine_148 2 rfl ?_
          obtain ⟨r25, σ26, hc27, h⟩ := nd_bind_e h
          refine nd_cvi [] [] dX3_readLine_149 cl_X3_101 (sh_38 t) ⟨Nat.le_of_ble_eq_true rfl, Nat.le_of_ble_eq_true rfl⟩ rfl (Nat.le_of_ble_eq_true rfl) hL (t_X3_readSide F t hL _ hc27) ?_
          refine nd_if_eqN dX3_readLine_152 168 (by decide) h (fun h => ?_) (fun h => ?_)
          · refine nd_sub [2] rfl ?_
            exact b_X3_readLine_168 F t hL _ h
          · refine nd_aload_n dX3_readLine_155 2 rfl ?_
            refine nd_bipush dX3_readLine_156 ib_59 ?_
            obtain ⟨r28, σ29, hc30, h⟩ := nd_bind_e h
            refine nd_cvi [.int (59 : Int32)] [] dX3_readLine_158 cl_X3_91 (sh_38 t) ⟨Nat.le_of_ble_eq_true rfl, Nat.le_of_ble_eq_true rfl⟩ rfl (Nat.le_of_ble_eq_true rfl) hL (t_X3_readSign F t hL _ _ hc30) ?_
            refine nd_if_eqN dX3_readLine_161 168 (by decide) h (fun h => ?_) (fun h => ?_)
            · refine nd_sub [2] rfl ?_
              exact b_X3_readLine_168 F t hL _ h
            · refine nd_iconst dX3_readLine_164 ic_1 ?_
              refine nd_goto dX3_readLine_165 169 (by decide) ?_
              exact nd_iret dX3_readLine_169 (Nat.zero_le _) (Nat.zero_le _) rfl (by cases h; exact ⟨rfl, rfl, rfl⟩)
      · refine nd_aload_n dX3_readLine_38 1 rfl ?_
        refine nd_iconst dX3_readLine_39 ic_3 ?_
        obtain ⟨r31, σ32, hc33, h⟩ := nd_bind_e h
        refine nd_cvi [.int (3 : Int32)] [] dX3_readLine_40 cl_X3_84 (sh_38 t) ⟨Nat.le_of_ble_eq_true rfl, Nat.le_of_ble_eq_true rfl⟩ rfl (Nat.le_of_ble_eq_true rfl) hL (t_X3_refuse F t hL _ _ hc33) ?_
        have hz34 := nd_no_e h
        have h := hz34.2
        exact nd_iret dX3_readLine_43 (Nat.zero_le _) (Nat.zero_le _) (nd_zok rfl (Classical.not_not.mp hz34.1)) (by cases h; exact ⟨rfl, rfl, rfl⟩)
    · refine nd_sub [1] rfl ?_
      exact b_X3_readLine_26 F t hL _ h
set_option maxRecDepth 100000 in
set_option maxHeartbeats 4000000 in
theorem t_X3_readLine (F : Nat) (t : List nd_S) (hL : (nd_SH ++ t).length < nd_ro) {z : Int32 × nd_Mem} (x1 : Int32) (x2 : Int32) (σ : nd_Mem) (h : f_X3_readLine F x1 x2 σ = some z) : nd_Fn M_X3_readLine (nd_rm 44) [.ref 38, .int x1, .int x2] (nd_SH ++ t) σ (nd_Pi (nd_SH ++ t) z) := by
  refine nd_Fn.ofV (ls := [(0, .ref 38), (1, .int x1), (2, .int x2)]) pl_X3_readLine rfl (fun _ => Nat.le_of_ble_eq_true rfl) (fun _ => rfl) ?_
  unfold f_X3_readLine at h
  refine nd_iload_n dX3_readLine_0 1 rfl ?_
  refine nd_if_neN dX3_readLine_1 8 (by decide) h (fun h => ?_) (fun h => ?_)
  · refine nd_iconst dX3_readLine_8 ic_0 ?_
    exact b_X3_readLine_9 F t hL _ _ _ _ h
  · refine nd_iconst dX3_readLine_4 ic_2 ?_
    refine nd_goto dX3_readLine_5 9 (by decide) ?_
    exact b_X3_readLine_9 F t hL _ _ _ _ h
def f_X3_read_93 (F : Nat) (x1 : Int32) (x3 : Int32) (σ : nd_Mem) : nd_Res := (nd_let (nd_up σ 38 2 (0 : Int32)) fun σ1 => (if x3 = 0 then (some ((-1 : Int32), σ1)) else (nd_bind (f_X5_linesOf F 39 x1 σ1) fun r2 σ3 => (some (r2, σ3)))))
def f_X3_read_61_b (F : Nat) (rec61 : Int32 → Int32 → Int32 → nd_Mem → nd_Res) (x1 : Int32) (x3 : Int32) (x4 : Int32) (σ : nd_Mem) : nd_Res := (if (16 : Int32) < x4 then (f_X3_read_93 F x1 x3 σ) else (if x3 = 0 then (f_X3_read_93 F x1 x3 σ) else (if (σ 38 11) = 0 then (f_X3_read_93 F x1 x3 σ) else (nd_bind (f_X3_readLine F x1 x4 σ) fun r1 σ2 => (rec61 x1 r1 (x4 + (1 : Int32)) σ2)))))
def f_X3_read_61 (F : Nat) : Nat → Int32 → Int32 → Int32 → nd_Mem → nd_Res
  | 0, _, _, _, _ => none
  | m9 + 1, x1, x3, x4, σ => f_X3_read_61_b F (f_X3_read_61 F m9) x1 x3 x4 σ
def f_X3_read_24 (F : Nat) (x1 : Int32) (x2 : Int32) (s0 : Int32) (σ : nd_Mem) : nd_Res := (if s0 = 0 then (f_X3_read_93 F x1 s0 σ) else (nd_bind (f_X3_wordsOf F x1 σ) fun r1 σ2 => (nd_let (nd_up σ2 38 5 r1) fun σ4 => (nd_let (nd_up σ4 38 6 x2) fun σ5 => (nd_bind (f_X5_empty F 39 x1 σ5) fun r6 σ7 => (nd_bind (f_X3_findTokens F σ7) fun r9 σ10 => (nd_bind (f_X3_advance F σ10) fun r12 σ13 => (f_X3_read_61 F F x1 s0 (0 : Int32) σ13))))))))
def f_X3_read_23 (F : Nat) (x1 : Int32) (x2 : Int32) (σ : nd_Mem) : nd_Res := (f_X3_read_24 F x1 x2 (0 : Int32) σ)
def f_X3_read (F : Nat) (x1 : Int32) (x2 : Int32) (σ : nd_Mem) : nd_Res := (nd_let (nd_up σ 38 3 (0 : Int32)) fun σ1 => (nd_let (nd_up σ1 38 4 (-1 : Int32)) fun σ2 => (if x1 < 0 then (f_X3_read_23 F x1 x2 σ2) else (if (3 : Int32) < x1 then (f_X3_read_23 F x1 x2 σ2) else (f_X3_read_24 F x1 x2 (1 : Int32) σ2)))))
set_option maxRecDepth 100000 in
set_option maxHeartbeats 4000000 in
theorem b_X3_read_93 (F : Nat) (t : List nd_S) (hL : (nd_SH ++ t).length < nd_ro) {z : Int32 × nd_Mem} (x1 : Int32) (x3 : Int32) (σ : nd_Mem) (h : f_X3_read_93 F x1 x3 σ = some z) : nd_V M_X3_read (nd_rm 45) (nd_Pi (nd_SH ++ t) z) 0 0 93 [(0, .ref 38), (1, .int x1), (3, .int x3)] [] (nd_SH ++ t) σ := by
  unfold f_X3_read_93 at h
  refine nd_aload_n dX3_read_93 0 rfl ?_
  refine nd_iconst dX3_read_94 ic_0 ?_
  refine nd_putiN dX3_read_95 pf_X3_41 (sh_38 t) rfl h (fun σ1 h => ?_)
  refine nd_iload_n dX3_read_98 2 rfl ?_
  refine nd_if_eqN dX3_read_99 113 (by decide) h (fun h => ?_) (fun h => ?_)
  · refine nd_iconst dX3_read_113 ic_m1 ?_
    exact nd_iret dX3_read_114 (Nat.zero_le _) (Nat.zero_le _) (vp_nar_int _) (by cases h; exact ⟨rfl, rfl, rfl⟩)
  · refine nd_aload_n dX3_read_102 0 rfl ?_
    refine nd_get dX3_read_103 gf_X3_12 (sh_38 t) rfl ?_
    refine nd_iload_n dX3_read_106 1 rfl ?_
    obtain ⟨r2, σ3, hc4, h⟩ := nd_bind_e h
    refine nd_cvi [.int x1] [] dX3_read_107 cl_X3_71 (sh_39 t) ⟨Nat.le_of_ble_eq_true rfl, Nat.le_of_ble_eq_true rfl⟩ rfl (Nat.le_of_ble_eq_true rfl) hL (t_X5_linesOf F 39 (nd_SH ++ t) hL (is_Rules_39 t) _ _ hc4) ?_
    refine nd_goto dX3_read_110 114 (by decide) ?_
    exact nd_iret dX3_read_114 (Nat.zero_le _) (Nat.zero_le _) (vp_nar_int _) (by cases h; exact ⟨rfl, rfl, rfl⟩)
set_option maxRecDepth 100000 in
set_option maxHeartbeats 4000000 in
theorem b_X3_read_61 (F : Nat) (t : List nd_S) (hL : (nd_SH ++ t).length < nd_ro) {z : Int32 × nd_Mem} (m9 : Nat) : ∀ (x1 : Int32) (x3 : Int32) (x4 : Int32) (σ : nd_Mem), f_X3_read_61 F m9 x1 x3 x4 σ = some z → nd_V M_X3_read (nd_rm 45) (nd_Pi (nd_SH ++ t) z) 0 0 61 [(0, .ref 38), (1, .int x1), (3, .int x3), (4, .int x4)] [] (nd_SH ++ t) σ := by
  induction m9 with
  | zero =>
    intro x1 x3 x4 σ h
    have h : none = some z := h
    cases h
  | succ m9 hrec61 =>
    intro x1 x3 x4 σ h
    have h : f_X3_read_61_b F (f_X3_read_61 F m9) x1 x3 x4 σ = some z := h
    unfold f_X3_read_61_b at h
    refine nd_iload dX3_read_61 3 rfl ?_
    refine nd_bipush dX3_read_63 ib_16 ?_
    refine nd_icmp_gtN dX3_read_65 93 (by decide) h (fun h => ?_) (fun h => ?_)
    · refine nd_sub [0, 1, 2] rfl ?_
      exact b_X3_read_93 F t hL _ _ _ h
    · refine nd_iload_n dX3_read_68 2 rfl ?_
      refine nd_if_eqN dX3_read_69 93 (by decide) h (fun h => ?_) (fun h => ?_)
      · refine nd_sub [0, 1, 2] rfl ?_
        exact b_X3_read_93 F t hL _ _ _ h
      · refine nd_aload_n dX3_read_72 0 rfl ?_
        refine nd_get dX3_read_73 gf_X3_64 (sh_38 t) rfl ?_
        refine nd_if_eqN dX3_read_76 93 (by decide) h (fun h => ?_) (fun h => ?_)
        · refine nd_sub [0, 1, 2] rfl ?_
          exact b_X3_read_93 F t hL _ _ _ h
        · refine nd_aload_n dX3_read_79 0 rfl ?_
          refine nd_iload_n dX3_read_80 1 rfl ?_
          refine nd_iload dX3_read_81 3 rfl ?_
          obtain ⟨r1, σ2, hc3, h⟩ := nd_bind_e h
          refine nd_cvi [.int x1, .int x4] [] dX3_read_83 cl_X3_67 (sh_38 t) ⟨Nat.le_of_ble_eq_true rfl, Nat.le_of_ble_eq_true rfl⟩ rfl (Nat.le_of_ble_eq_true rfl) hL (t_X3_readLine F t hL _ _ _ hc3) ?_
          refine nd_istore_n (ls' := [(3, .int r1), (0, .ref 38), (1, .int x1), (4, .int x4)]) dX3_read_86 (by decide) rfl ?_
          refine nd_iinc (v := (x4 + (1 : Int32))) (ls' := [(4, .int (x4 + (1 : Int32))), (3, .int r1), (0, .ref 38), (1, .int x1)]) dX3_read_87 3 rfl (congrArg (HAdd.hAdd _) ic_1) (by decide) rfl ?_
          refine nd_goto dX3_read_90 61 (by decide) ?_
          refine nd_sub [2, 3, 1, 0] rfl ?_
          exact hrec61 _ _ _ _ h
set_option maxRecDepth 100000 in
set_option maxHeartbeats 4000000 in
theorem b_X3_read_24 (F : Nat) (t : List nd_S) (hL : (nd_SH ++ t).length < nd_ro) {z : Int32 × nd_Mem} (x1 : Int32) (x2 : Int32) (s0 : Int32) (σ : nd_Mem) (h : f_X3_read_24 F x1 x2 s0 σ = some z) : nd_V M_X3_read (nd_rm 45) (nd_Pi (nd_SH ++ t) z) 0 0 24 [(0, .ref 38), (1, .int x1), (2, .int x2)] [.int s0] (nd_SH ++ t) σ := by
  unfold f_X3_read_24 at h
  refine nd_istore_n (ls' := [(3, .int s0), (0, .ref 38), (1, .int x1), (2, .int x2)]) dX3_read_24 (by decide) rfl ?_
  refine nd_iload_n dX3_read_25 0 rfl ?_
  refine nd_if_eqN dX3_read_26 93 (by decide) h (fun h => ?_) (fun h => ?_)
  · refine nd_sub [1, 2, 0] rfl ?_
    exact b_X3_read_93 F t hL _ _ _ h
  · refine nd_aload_n dX3_read_29 1 rfl ?_
    refine nd_iload_n dX3_read_30 2 rfl ?_
    obtain ⟨r1, σ2, hc3, h⟩ := nd_bind_e h
    refine nd_csr [.int x1] [.ref 38] dX3_read_31 cl_X3_47 ⟨Nat.le_of_ble_eq_true rfl, Nat.le_of_ble_eq_true rfl⟩ rfl (Nat.le_of_ble_eq_true rfl) hL (t_X3_wordsOf F (nd_SH ++ t) hL _ _ hc3) ?_
    refine nd_putxN (x := r1) dX3_read_34 pf_X3_37 (fun h => absurd h (by decide)) (sh_38 t) rfl rfl (fun _ => rfl) (fun _ => rfl) h (fun σ4 h => ?_)
    refine nd_aload_n dX3_read_37 1 rfl ?_
    refine nd_iload_n dX3_read_38 3 rfl ?_
    refine nd_putiN dX3_read_39 pf_X3_51 (sh_38 t) rfl h (fun σ5 h => ?_)
    refine nd_aload_n dX3_read_42 1 rfl ?_
    refine nd_get dX3_read_43 gf_X3_12 (sh_38 t) rfl ?_
    refine nd_iload_n dX3_read_46 2 rfl ?_
    obtain ⟨r6, σ7, hc8, h⟩ := nd_bind_e h
    refine nd_cvv [.int x1] [] dX3_read_47 cl_X3_54 (sh_39 t) ⟨Nat.le_of_ble_eq_true rfl, Nat.le_of_ble_eq_true rfl⟩ rfl (Nat.le_of_ble_eq_true rfl) hL (t_X5_empty F 39 (nd_SH ++ t) hL (is_Rules_39 t) _ _ hc8) ?_
    refine nd_aload_n dX3_read_50 1 rfl ?_
    obtain ⟨r9, σ10, hc11, h⟩ := nd_bind_e h
    refine nd_cvv [] [] dX3_read_51 cl_X3_58 (sh_38 t) ⟨Nat.le_of_ble_eq_true rfl, Nat.le_of_ble_eq_true rfl⟩ rfl (Nat.le_of_ble_eq_true rfl) hL (t_X3_findTokens F t hL _ hc11) ?_
    refine nd_aload_n dX3_read_54 1 rfl ?_
    obtain ⟨r12, σ13, hc14, h⟩ := nd_bind_e h
    refine nd_cvv [] [] dX3_read_55 cl_X3_61 (sh_38 t) ⟨Nat.le_of_ble_eq_true rfl, Nat.le_of_ble_eq_true rfl⟩ rfl (Nat.le_of_ble_eq_true rfl) hL (t_X3_advance F t hL _ hc14) ?_
    refine nd_iconst dX3_read_58 ic_0 ?_
    refine nd_istore (ls' := [(4, .int (0 : Int32)), (3, .int s0), (0, .ref 38), (1, .int x1), (2, .int x2)]) dX3_read_59 (by decide) rfl ?_
    refine nd_sub [2, 3, 1, 0] rfl ?_
    exact b_X3_read_61 F t hL F _ _ _ _ h
set_option maxRecDepth 100000 in
set_option maxHeartbeats 4000000 in
theorem b_X3_read_23 (F : Nat) (t : List nd_S) (hL : (nd_SH ++ t).length < nd_ro) {z : Int32 × nd_Mem} (x1 : Int32) (x2 : Int32) (σ : nd_Mem) (h : f_X3_read_23 F x1 x2 σ = some z) : nd_V M_X3_read (nd_rm 45) (nd_Pi (nd_SH ++ t) z) 0 0 23 [(0, .ref 38), (1, .int x1), (2, .int x2)] [] (nd_SH ++ t) σ := by
  unfold f_X3_read_23 at h
  refine nd_iconst dX3_read_23 ic_0 ?_
  exact b_X3_read_24 F t hL _ _ _ _ h
set_option maxRecDepth 100000 in
set_option maxHeartbeats 4000000 in
theorem t_X3_read (F : Nat) (t : List nd_S) (hL : (nd_SH ++ t).length < nd_ro) {z : Int32 × nd_Mem} (x1 : Int32) (x2 : Int32) (σ : nd_Mem) (h : f_X3_read F x1 x2 σ = some z) : nd_Fn M_X3_read (nd_rm 45) [.ref 38, .int x1, .int x2] (nd_SH ++ t) σ (nd_Pi (nd_SH ++ t) z) := by
  refine nd_Fn.ofV (ls := [(0, .ref 38), (1, .int x1), (2, .int x2)]) pl_X3_read rfl (fun _ => Nat.le_of_ble_eq_true rfl) (fun _ => rfl) ?_
  unfold f_X3_read at h
  refine nd_aload_n dX3_read_0 0 rfl ?_
  refine nd_iconst dX3_read_1 ic_0 ?_
  refine nd_putiN dX3_read_2 pf_X3_44 (sh_38 t) rfl h (fun σ1 h => ?_)
  refine nd_aload_n dX3_read_5 0 rfl ?_
  refine nd_iconst dX3_read_6 ic_m1 ?_
  refine nd_putiN dX3_read_7 pf_X3_31 (sh_38 t) rfl h (fun σ2 h => ?_)
  refine nd_iload_n dX3_read_10 1 rfl ?_
  refine nd_if_ltN dX3_read_11 23 (by decide) h (fun h => ?_) (fun h => ?_)
  · exact b_X3_read_23 F t hL _ _ _ h
  · refine nd_iload_n dX3_read_14 1 rfl ?_
    refine nd_iconst dX3_read_15 ic_3 ?_
    refine nd_icmp_gtN dX3_read_16 23 (by decide) h (fun h => ?_) (fun h => ?_)
    · exact b_X3_read_23 F t hL _ _ _ h
    · refine nd_iconst dX3_read_19 ic_1 ?_
      refine nd_goto dX3_read_20 24 (by decide) ?_
      exact b_X3_read_24 F t hL _ _ _ _ h
def f_X10_feuds (F : Nat) (x1 : Int32) (σ : nd_Mem) : nd_Res := (if x1 = (0 : Int32) then (nd_bind (f_X5_kings F 3 (σ 1 1) σ) fun r2 σ3 => (some (r2, σ3))) else (if x1 = (1 : Int32) then (nd_bind (f_X5_longestRow F 3 (σ 1 1) σ) fun r6 σ7 => (some (r6, σ7))) else (some ((-1 : Int32), σ))))
set_option maxRecDepth 100000 in
set_option maxHeartbeats 4000000 in
theorem t_X10_feuds (F : Nat) (t : List nd_S) (hL : (nd_SH ++ t).length < nd_ro) {z : Int32 × nd_Mem} (x1 : Int32) (σ : nd_Mem) (h : f_X10_feuds F x1 σ = some z) : nd_Fn M_X10_feuds (nd_rm 18) [.ref 0, .int x1] (nd_SH ++ t) σ (nd_Pi (nd_SH ++ t) z) := by
  refine nd_Fn.ofV (ls := [(0, .ref 0), (1, .int x1)]) pl_X10_feuds rfl (fun _ => Nat.le_of_ble_eq_true rfl) (fun _ => rfl) ?_
  unfold f_X10_feuds at h
  refine nd_iload_n dX10_feuds_0 1 rfl ?_
  rcases nd_ite_e h with ⟨c1, h⟩ | ⟨c1, h⟩
  · refine nd_look dX10_feuds_1 (by decide) (by rw [c1] <;> decide) 28 (by decide) ?_
    refine nd_aload_n dX10_feuds_28 0 rfl ?_
    refine nd_get dX10_feuds_29 gf_X10_19 (sh_0 t) rfl ?_
    refine nd_aload_n dX10_feuds_32 0 rfl ?_
    refine nd_get dX10_feuds_33 gf_X10_10 (sh_0 t) rfl ?_
    refine nd_get dX10_feuds_36 gf_X10_129 (sh_1 t) rfl ?_
    obtain ⟨r2, σ3, hc4, h⟩ := nd_bind_e h
    refine nd_cvi [.int (σ 1 1)] [] dX10_feuds_39 cl_X10_245 (sh_3 t) ⟨Nat.le_of_ble_eq_true rfl, Nat.le_of_ble_eq_true rfl⟩ rfl (Nat.le_of_ble_eq_true rfl) hL (t_X5_kings F 3 (nd_SH ++ t) hL (is_Rules_3 t) _ _ hc4) ?_
    exact nd_iret dX10_feuds_42 (Nat.zero_le _) (Nat.zero_le _) (vp_nar_int _) (by cases h; exact ⟨rfl, rfl, rfl⟩)
  rcases nd_ite_e h with ⟨c5, h⟩ | ⟨c5, h⟩
  · refine nd_look dX10_feuds_1 (by decide) (by rw [c5] <;> decide) 43 (by decide) ?_
    refine nd_aload_n dX10_feuds_43 0 rfl ?_
    refine nd_get dX10_feuds_44 gf_X10_19 (sh_0 t) rfl ?_
    refine nd_aload_n dX10_feuds_47 0 rfl ?_
    refine nd_get dX10_feuds_48 gf_X10_10 (sh_0 t) rfl ?_
    refine nd_get dX10_feuds_51 gf_X10_129 (sh_1 t) rfl ?_
    obtain ⟨r6, σ7, hc8, h⟩ := nd_bind_e h
    refine nd_cvi [.int (σ 1 1)] [] dX10_feuds_54 cl_X10_248 (sh_3 t) ⟨Nat.le_of_ble_eq_true rfl, Nat.le_of_ble_eq_true rfl⟩ rfl (Nat.le_of_ble_eq_true rfl) hL (t_X5_longestRow F 3 (nd_SH ++ t) hL (is_Rules_3 t) _ _ hc8) ?_
    exact nd_iret dX10_feuds_57 (Nat.zero_le _) (Nat.zero_le _) (vp_nar_int _) (by cases h; exact ⟨rfl, rfl, rfl⟩)
  refine nd_look dX10_feuds_1 (by decide) (nd_lookD _ ?_) 58 (by decide) ?_
  · intro q hq
    simp only [List.mem_cons, List.not_mem_nil, or_false] at hq
    rcases hq with rfl | rfl
    · exact fun e => c1 (e.trans ic_0)
    · exact fun e => c5 (e.trans ic_1)
  · refine nd_iconst dX10_feuds_58 ic_m1 ?_
    exact nd_iret dX10_feuds_59 (Nat.zero_le _) (Nat.zero_le _) (vp_nar_int _) (by cases h; exact ⟨rfl, rfl, rfl⟩)
def f_X10_text_47 (F : Nat) (x2 : Int32) (σ : nd_Mem) : nd_Res := (some (x2, σ))
def f_X10_text (F : Nat) (x1 : Int32) (σ : nd_Mem) : nd_Res := (nd_bind (f_X3_read F x1 (σ 1 1) σ) fun r1 σ2 => (if r1 = (-1 : Int32) then (f_X10_text_47 F r1 σ2) else (nd_bind (f_X5_take F 3 39 x1 σ2) fun r4 σ5 => (if x1 = 0 then (f_X10_text_47 F r1 σ5) else (nd_bind (f_X1_forget F σ5) fun r7 σ8 => (f_X10_text_47 F r1 σ8))))))
set_option maxRecDepth 100000 in
set_option maxHeartbeats 4000000 in
theorem b_X10_text_47 (F : Nat) (t : List nd_S) (hL : (nd_SH ++ t).length < nd_ro) {z : Int32 × nd_Mem} (x2 : Int32) (σ : nd_Mem) (h : f_X10_text_47 F x2 σ = some z) : nd_V M_X10_text (nd_rm 46) (nd_Pi (nd_SH ++ t) z) 0 0 47 [(0, .ref 0), (2, .int x2)] [] (nd_SH ++ t) σ := by
  unfold f_X10_text_47 at h
  refine nd_iload_n dX10_text_47 1 rfl ?_
  exact nd_iret dX10_text_48 (Nat.zero_le _) (Nat.zero_le _) (vp_nar_int _) (by cases h; exact ⟨rfl, rfl, rfl⟩)
set_option maxRecDepth 100000 in
set_option maxHeartbeats 4000000 in
theorem t_X10_text (F : Nat) (t : List nd_S) (hL : (nd_SH ++ t).length < nd_ro) {z : Int32 × nd_Mem} (x1 : Int32) (σ : nd_Mem) (h : f_X10_text F x1 σ = some z) : nd_Fn M_X10_text (nd_rm 46) [.ref 0, .int x1] (nd_SH ++ t) σ (nd_Pi (nd_SH ++ t) z) := by
  refine nd_Fn.ofV (ls := [(0, .ref 0), (1, .int x1)]) pl_X10_text rfl (fun _ => Nat.le_of_ble_eq_true rfl) (fun _ => rfl) ?_
  unfold f_X10_text at h
  refine nd_aload_n dX10_text_0 0 rfl ?_
  refine nd_get dX10_text_1 gf_X10_44 (sh_0 t) rfl ?_
  refine nd_iload_n dX10_text_4 1 rfl ?_
  refine nd_aload_n dX10_text_5 0 rfl ?_
  refine nd_get dX10_text_6 gf_X10_10 (sh_0 t) rfl ?_
  refine nd_get dX10_text_9 gf_X10_129 (sh_1 t) rfl ?_
  obtain ⟨r1, σ2, hc3, h⟩ := nd_bind_e h
  refine nd_cvi [.int x1, .int (σ 1 1)] [] dX10_text_12 cl_X10_132 (sh_38 t) ⟨Nat.le_of_ble_eq_true rfl, Nat.le_of_ble_eq_true rfl⟩ rfl (Nat.le_of_ble_eq_true rfl) hL (t_X3_read F t hL _ _ _ hc3) ?_
  refine nd_istore_n (ls' := [(2, .int r1), (0, .ref 0), (1, .int x1)]) dX10_text_15 (by decide) rfl ?_
  refine nd_iload_n dX10_text_16 0 rfl ?_
  refine nd_iconst dX10_text_17 ic_m1 ?_
  refine nd_icmp_eqN dX10_text_18 47 (by decide) h (fun h => ?_) (fun h => ?_)
  · refine nd_sub [1, 0] rfl ?_
    exact b_X10_text_47 F t hL _ _ h
  · refine nd_aload_n dX10_text_21 1 rfl ?_
    refine nd_get dX10_text_22 gf_X10_19 (sh_0 t) rfl ?_
    refine nd_iload_n dX10_text_25 2 rfl ?_
    refine nd_aload_n dX10_text_26 1 rfl ?_
    refine nd_get dX10_text_27 gf_X10_44 (sh_0 t) rfl ?_
    refine nd_get dX10_text_30 gf_X10_136 (sh_38 t) rfl ?_
    obtain ⟨r4, σ5, hc6, h⟩ := nd_bind_e h
    refine nd_cvv [.int x1, .ref 39] [] dX10_text_33 cl_X10_139 (sh_3 t) ⟨Nat.le_of_ble_eq_true rfl, Nat.le_of_ble_eq_true rfl⟩ rfl (Nat.le_of_ble_eq_true rfl) hL (t_X5_take F 3 39 (nd_SH ++ t) hL (is_Rules_3 t) (is_Rules_39 t) _ _ hc6) ?_
    refine nd_iload_n dX10_text_36 2 rfl ?_
    refine nd_if_eqN dX10_text_37 47 (by decide) h (fun h => ?_) (fun h => ?_)
    · refine nd_sub [1, 0] rfl ?_
      exact b_X10_text_47 F t hL _ _ h
    · refine nd_aload_n dX10_text_40 1 rfl ?_
      refine nd_get dX10_text_41 gf_X10_37 (sh_0 t) rfl ?_
      obtain ⟨r7, σ8, hc9, h⟩ := nd_bind_e h
      refine nd_cvv [] [] dX10_text_44 cl_X10_80 (sh_24 t) ⟨Nat.le_of_ble_eq_true rfl, Nat.le_of_ble_eq_true rfl⟩ rfl (Nat.le_of_ble_eq_true rfl) hL (t_X1_forget F t hL _ hc9) ?_
      refine nd_sub [1, 0] rfl ?_
      exact b_X10_text_47 F t hL _ _ h
