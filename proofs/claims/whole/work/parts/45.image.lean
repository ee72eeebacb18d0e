theorem cl_X2_36 : nd_cv RX2 36 M_X6_copy 1 5 := ⟨ok_X6_copy, wi_X6_copy, wl_X6_copy, nd_ti (i := 1106) (by decide +kernel) rfl, TX6, 9, rfl⟩
theorem wc_X5_copy : Cond.code yX5_copy cX5_copy 3 none ∈ nd_tbl := nd_ti (i := 1110) (by decide +kernel) rfl
theorem ok_X5_copy : nd_okN M_X5_copy 1 := ⟨wc_X5_copy, wn_X5, by decide +kernel, by decide +kernel, by decide +kernel⟩
theorem wi_X5_copy : Cond.instanceMethod yX5_copy ∈ nd_tbl := nd_ti (i := 1108) (by decide +kernel) rfl
theorem wl_X5_copy : Cond.selects RX5 yX5_copy yX5_copy ∈ nd_tbl := nd_ti (i := 1109) (by decide +kernel) rfl
theorem cl_X2_40 : nd_cv RX2 40 M_X5_copy 1 4 := ⟨ok_X5_copy, wi_X5_copy, wl_X5_copy, nd_ti (i := 1107) (by decide +kernel) rfl, TX5, 7, rfl⟩
theorem lk_X2_43 : Cond.methodLink RX2 43 arraycopyName ∈ nd_tbl := nd_ti (i := 1112) (by decide +kernel) rfl
theorem wc_X8_copy : Cond.code yX8_copy cX8_copy 2 none ∈ nd_tbl := nd_ti (i := 1116) (by decide +kernel) rfl
theorem ok_X8_copy : nd_okN M_X8_copy 1 := ⟨wc_X8_copy, wn_X8, by decide +kernel, by decide +kernel, by decide +kernel⟩
theorem wi_X8_copy : Cond.instanceMethod yX8_copy ∈ nd_tbl := nd_ti (i := 1114) (by decide +kernel) rfl
theorem wl_X8_copy : Cond.selects RX8 yX8_copy yX8_copy ∈ nd_tbl := nd_ti (i := 1115) (by decide +kernel) rfl
theorem cl_X2_49 : nd_cv RX2 49 M_X8_copy 1 7 := ⟨ok_X8_copy, wi_X8_copy, wl_X8_copy, nd_ti (i := 1113) (by decide +kernel) rfl, TX8, 6, rfl⟩
theorem wc_X2_take : Cond.code yX2_take cX2_take 5 none ∈ nd_tbl := nd_ti (i := 1105) (by decide +kernel) rfl
theorem wn_X2 : Cond.initialized RX2 ∈ nd_tbl := nd_ti (i := 21) (by decide +kernel) rfl
theorem ok_X2_take : nd_okN M_X2_take 4 := ⟨wc_X2_take, wn_X2, by decide +kernel, by decide +kernel, by decide +kernel⟩
theorem wi_X2_take : Cond.instanceMethod yX2_take ∈ nd_tbl := nd_ti (i := 1103) (by decide +kernel) rfl
theorem wl_X2_take : Cond.selects RX2 yX2_take yX2_take ∈ nd_tbl := nd_ti (i := 1104) (by decide +kernel) rfl
theorem cl_X10_314 : nd_cv RX10 314 M_X2_take 4 1 := ⟨ok_X2_take, wi_X2_take, wl_X2_take, nd_ti (i := 1102) (by decide +kernel) rfl, TX2, 4, rfl⟩
theorem wc_X2_give : Cond.code yX2_give cX2_give 5 none ∈ nd_tbl := nd_ti (i := 1122) (by decide +kernel) rfl
theorem ok_X2_give : nd_okN M_X2_give 4 := ⟨wc_X2_give, wn_X2, by decide +kernel, by decide +kernel, by decide +kernel⟩
theorem wi_X2_give : Cond.instanceMethod yX2_give ∈ nd_tbl := nd_ti (i := 1120) (by decide +kernel) rfl
theorem wl_X2_give : Cond.selects RX2 yX2_give yX2_give ∈ nd_tbl := nd_ti (i := 1121) (by decide +kernel) rfl
theorem cl_X10_317 : nd_cv RX10 317 M_X2_give 4 1 := ⟨ok_X2_give, wi_X2_give, wl_X2_give, nd_ti (i := 1119) (by decide +kernel) rfl, TX2, 4, rfl⟩
theorem nf_X10_311 : nd_nf RX10 311 1 [(fun _ => .null), (fun _ => .null), (fun _ => .null), (fun _ => .null)] := ⟨RX2, TX2, 4, rfl, nd_ti (i := 1077) (by decide +kernel) rfl, nd_ti (i := 1078) (by decide +kernel) rfl, wn_X2, rfl, by decide +kernel⟩
theorem wc_X2_init : Cond.code yX2_init cX2_init 1 none ∈ nd_tbl := nd_ti (i := 1081) (by decide +kernel) rfl
theorem ok_X2_init : nd_okN M_X2_init 0 := ⟨wc_X2_init, wn_X2, by decide +kernel, by decide +kernel, by decide +kernel⟩
theorem wi_X2_init : Cond.instanceMethod yX2_init ∈ nd_tbl := nd_ti (i := 1080) (by decide +kernel) rfl
theorem lk_X10_313 : Cond.methodLink RX10 313 yX2_init ∈ nd_tbl := nd_ti (i := 1079) (by decide +kernel) rfl
/-- the cells of the picture -/
def nd_PIC : List nd_S := [.inl (1, [(fun _ => .ref 101), (fun _ => .ref 103), (fun _ => .ref 111), (fun _ => .ref 112)]),
  .inl (5, [(fun _ => .ref 102), Value.int, Value.int, Value.int, Value.int, Value.int, Value.int, Value.int, Value.int]),
  .inr (.inl 96),
  .inl (4, [(fun _ => .ref 104), (fun _ => .ref 106), (fun _ => .ref 108), (fun _ => .ref 110), Value.int, Value.int, Value.int]),
  .inl (3, [(fun _ => .ref 105), Value.int]),
  .inr (.inl 64),
  .inl (3, [(fun _ => .ref 107), Value.int]),
  .inr (.inl 400),
  .inl (3, [(fun _ => .ref 109), Value.int]),
  .inr (.inl 64),
  .inr (.inl 16),
  .inr (.inl 600),
  .inl (7, [(fun _ => .ref 113), (fun _ => .ref 115), (fun _ => .ref 117), (fun _ => .ref 119), (fun _ => .ref 121), (fun _ => .ref 123)]),
  .inl (3, [(fun _ => .ref 114), Value.int]),
  .inr (.inl 12),
  .inl (3, [(fun _ => .ref 116), Value.int]),
  .inr (.inl 6),
  .inl (3, [(fun _ => .ref 118), Value.int]),
  .inr (.inl 10),
  .inl (3, [(fun _ => .ref 120), Value.int]),
  .inr (.inl 14),
  .inl (3, [(fun _ => .ref 122), Value.int]),
  .inr (.inl 10),
  .inr (.inl 10)]
theorem ph_100 : (nd_SH ++ nd_PIC)[100]? = some (.inl (1, [(fun _ => .ref 101), (fun _ => .ref 103), (fun _ => .ref 111), (fun _ => .ref 112)])) := rfl
theorem ph_101 : (nd_SH ++ nd_PIC)[101]? = some (.inl (5, [(fun _ => .ref 102), Value.int, Value.int, Value.int, Value.int, Value.int, Value.int, Value.int, Value.int])) := rfl
theorem ph_102 : (nd_SH ++ nd_PIC)[102]? = some (.inr (.inl 96)) := rfl
theorem ph_103 : (nd_SH ++ nd_PIC)[103]? = some (.inl (4, [(fun _ => .ref 104), (fun _ => .ref 106), (fun _ => .ref 108), (fun _ => .ref 110), Value.int, Value.int, Value.int])) := rfl
theorem ph_104 : (nd_SH ++ nd_PIC)[104]? = some (.inl (3, [(fun _ => .ref 105), Value.int])) := rfl
theorem ph_105 : (nd_SH ++ nd_PIC)[105]? = some (.inr (.inl 64)) := rfl
theorem ph_106 : (nd_SH ++ nd_PIC)[106]? = some (.inl (3, [(fun _ => .ref 107), Value.int])) := rfl
theorem ph_107 : (nd_SH ++ nd_PIC)[107]? = some (.inr (.inl 400)) := rfl
theorem ph_108 : (nd_SH ++ nd_PIC)[108]? = some (.inl (3, [(fun _ => .ref 109), Value.int])) := rfl
theorem ph_109 : (nd_SH ++ nd_PIC)[109]? = some (.inr (.inl 64)) := rfl
theorem ph_110 : (nd_SH ++ nd_PIC)[110]? = some (.inr (.inl 16)) := rfl
theorem ph_111 : (nd_SH ++ nd_PIC)[111]? = some (.inr (.inl 600)) := rfl
theorem ph_112 : (nd_SH ++ nd_PIC)[112]? = some (.inl (7, [(fun _ => .ref 113), (fun _ => .ref 115), (fun _ => .ref 117), (fun _ => .ref 119), (fun _ => .ref 121), (fun _ => .ref 123)])) := rfl
theorem ph_113 : (nd_SH ++ nd_PIC)[113]? = some (.inl (3, [(fun _ => .ref 114), Value.int])) := rfl
theorem ph_114 : (nd_SH ++ nd_PIC)[114]? = some (.inr (.inl 12)) := rfl
theorem ph_115 : (nd_SH ++ nd_PIC)[115]? = some (.inl (3, [(fun _ => .ref 116), Value.int])) := rfl
theorem ph_116 : (nd_SH ++ nd_PIC)[116]? = some (.inr (.inl 6)) := rfl
theorem ph_117 : (nd_SH ++ nd_PIC)[117]? = some (.inl (3, [(fun _ => .ref 118), Value.int])) := rfl
theorem ph_118 : (nd_SH ++ nd_PIC)[118]? = some (.inr (.inl 10)) := rfl
theorem ph_119 : (nd_SH ++ nd_PIC)[119]? = some (.inl (3, [(fun _ => .ref 120), Value.int])) := rfl
theorem ph_120 : (nd_SH ++ nd_PIC)[120]? = some (.inr (.inl 14)) := rfl
theorem ph_121 : (nd_SH ++ nd_PIC)[121]? = some (.inl (3, [(fun _ => .ref 122), Value.int])) := rfl
theorem ph_122 : (nd_SH ++ nd_PIC)[122]? = some (.inr (.inl 10)) := rfl
theorem ph_123 : (nd_SH ++ nd_PIC)[123]? = some (.inr (.inl 10)) := rfl
theorem pis_Street_101 : is_Street (nd_SH ++ nd_PIC) 101 102 := ⟨ph_101, ph_102⟩
theorem pis_Rules_103 : is_Rules (nd_SH ++ nd_PIC) 103 := ⟨ph_103, ⟨ph_104, ph_105⟩, ⟨ph_106, ph_107⟩, ⟨ph_108, ph_109⟩, ph_110⟩
theorem pis_Told_112 : is_Told (nd_SH ++ nd_PIC) 112 := ⟨ph_112, ⟨ph_113, ph_114⟩, ⟨ph_115, ph_116⟩, ⟨ph_117, ph_118⟩, ⟨ph_119, ph_120⟩, ⟨ph_121, ph_122⟩, ph_123⟩
def f_X2_take (F : Nat) (o0b o0a o1b o2a o2n o3b : Nat) (σ : nd_Mem) : nd_Res := (nd_bind (f_X6_copy F 101 102 o0b o0a σ) fun r1 σ2 => (nd_bind (f_X5_copy F 103 o1b σ2) fun r4 σ5 => (if (0 : Int32) < 0 ∨ (0 : Int32) < 0 ∨ (600 : Int32) < 0 ∨ o2n < ((0 : Int32)).toNatClampNeg + ((600 : Int32)).toNatClampNeg ∨ 600 < ((0 : Int32)).toNatClampNeg + ((600 : Int32)).toNatClampNeg then none else (nd_let (nd_row σ5 111 (va_cpy (σ5 o2a) (σ5 111) ((0 : Int32)).toNatClampNeg ((0 : Int32)).toNatClampNeg ((600 : Int32)).toNatClampNeg)) fun σ7 => (nd_bind (f_X8_copy F 112 o3b σ7) fun r8 σ9 => (some (0, σ9)))))))
set_option maxRecDepth 100000 in
set_option maxHeartbeats 4000000 in
theorem t_X2_take (F : Nat) (o0b o0a o1b o2a o2n o3b : Nat) (hL : (nd_SH ++ nd_PIC).length < nd_ro) (hso0 : is_Street (nd_SH ++ nd_PIC) o0b o0a) (hso1 : is_Rules (nd_SH ++ nd_PIC) o1b) (hso2 : (nd_SH ++ nd_PIC)[o2a]? = some (.inr (.inl o2n))) (hso3 : is_Told (nd_SH ++ nd_PIC) o3b) {z : Int32 × nd_Mem} (σ : nd_Mem) (h : f_X2_take F o0b o0a o1b o2a o2n o3b σ = some z) : nd_Fn M_X2_take (nd_rm 4) [.ref 100, .ref o0b, .ref o1b, .ref o2a, .ref o3b] (nd_SH ++ nd_PIC) σ (nd_Pv (nd_SH ++ nd_PIC) z) := by
  refine nd_Fn.ofV (ls := [(0, .ref 100), (1, .ref o0b), (2, .ref o1b), (3, .ref o2a), (4, .ref o3b)]) pl_X2_take rfl (fun _ => Nat.le_of_ble_eq_true rfl) (fun _ => rfl) ?_
  unfold f_X2_take at h
  refine nd_aload_n dX2_take_0 0 rfl ?_
  refine nd_get dX2_take_1 gf_X2_12 ph_100 rfl ?_
  refine nd_aload_n dX2_take_4 1 rfl ?_
  obtain ⟨r1, σ2, hc3, h⟩ := nd_bind_e h
  refine nd_cvv [.ref o0b] [] dX2_take_5 cl_X2_36 ph_101 ⟨Nat.le_of_ble_eq_true rfl, Nat.le_of_ble_eq_true rfl⟩ rfl (Nat.le_of_ble_eq_true rfl) hL (t_X6_copy F 101 102 o0b o0a (nd_SH ++ nd_PIC) hL pis_Street_101 hso0 _ hc3) ?_
  refine nd_aload_n dX2_take_8 0 rfl ?_
  refine nd_get dX2_take_9 gf_X2_21 ph_100 rfl ?_
  refine nd_aload_n dX2_take_12 2 rfl ?_
  obtain ⟨r4, σ5, hc6, h⟩ := nd_bind_e h
  refine nd_cvv [.ref o1b] [] dX2_take_13 cl_X2_40 ph_103 ⟨Nat.le_of_ble_eq_true rfl, Nat.le_of_ble_eq_true rfl⟩ rfl (Nat.le_of_ble_eq_true rfl) hL (t_X5_copy F 103 o1b (nd_SH ++ nd_PIC) hL pis_Rules_103 hso1 _ hc6) ?_
  refine nd_aload_n dX2_take_16 3 rfl ?_
  refine nd_iconst dX2_take_17 ic_0 ?_
  refine nd_aload_n dX2_take_18 0 rfl ?_
  refine nd_get dX2_take_19 gf_X2_25 ph_100 rfl ?_
  refine nd_iconst dX2_take_22 ic_0 ?_
  refine nd_aload_n dX2_take_23 0 rfl ?_
  refine nd_get dX2_take_24 gf_X2_25 ph_100 rfl ?_
  refine nd_alen (v := (600 : Int32)) dX2_take_27 ph_111 rfl ?_
  refine nd_copyN dX2_take_28 lk_X2_43 wcp_n wcp_s wcp_i hso2 ph_111 ⟨by decide, by decide⟩ (Nat.le_of_ble_eq_true rfl) h (fun σ7 h => ?_)
  refine nd_aload_n dX2_take_31 0 rfl ?_
  refine nd_get dX2_take_32 gf_X2_32 ph_100 rfl ?_
  refine nd_aload dX2_take_35 4 rfl ?_
  obtain ⟨r8, σ9, hc10, h⟩ := nd_bind_e h
  refine nd_cvv [.ref o3b] [] dX2_take_37 cl_X2_49 ph_112 ⟨Nat.le_of_ble_eq_true rfl, Nat.le_of_ble_eq_true rfl⟩ rfl (Nat.le_of_ble_eq_true rfl) hL (t_X8_copy F 112 o3b (nd_SH ++ nd_PIC) hL pis_Told_112 hso3 _ hc10) ?_
  exact nd_vret dX2_take_40 (Nat.zero_le _) (Nat.zero_le _) trivial (by cases h; exact ⟨rfl, rfl, rfl⟩)
def f_X2_give (F : Nat) (o0b o0a o1b o2a o2n o3b : Nat) (σ : nd_Mem) : nd_Res := (nd_bind (f_X6_copy F o0b o0a 101 102 σ) fun r1 σ2 => (nd_bind (f_X5_copy F o1b 103 σ2) fun r4 σ5 => (if (0 : Int32) < 0 ∨ (0 : Int32) < 0 ∨ (600 : Int32) < 0 ∨ 600 < ((0 : Int32)).toNatClampNeg + ((600 : Int32)).toNatClampNeg ∨ o2n < ((0 : Int32)).toNatClampNeg + ((600 : Int32)).toNatClampNeg then none else (nd_let (nd_row σ5 o2a (va_cpy (σ5 111) (σ5 o2a) ((0 : Int32)).toNatClampNeg ((0 : Int32)).toNatClampNeg ((600 : Int32)).toNatClampNeg)) fun σ7 => (nd_bind (f_X8_copy F o3b 112 σ7) fun r8 σ9 => (some (0, σ9)))))))
set_option maxRecDepth 100000 in
set_option maxHeartbeats 4000000 in
theorem t_X2_give (F : Nat) (o0b o0a o1b o2a o2n o3b : Nat) (hL : (nd_SH ++ nd_PIC).length < nd_ro) (hso0 : is_Street (nd_SH ++ nd_PIC) o0b o0a) (hso1 : is_Rules (nd_SH ++ nd_PIC) o1b) (hso2 : (nd_SH ++ nd_PIC)[o2a]? = some (.inr (.inl o2n))) (hso3 : is_Told (nd_SH ++ nd_PIC) o3b) {z : Int32 × nd_Mem} (σ : nd_Mem) (h : f_X2_give F o0b o0a o1b o2a o2n o3b σ = some z) : nd_Fn M_X2_give (nd_rm 4) [.ref 100, .ref o0b, .ref o1b, .ref o2a, .ref o3b] (nd_SH ++ nd_PIC) σ (nd_Pv (nd_SH ++ nd_PIC) z) := by
  refine nd_Fn.ofV (ls := [(0, .ref 100), (1, .ref o0b), (2, .ref o1b), (3, .ref o2a), (4, .ref o3b)]) pl_X2_give rfl (fun _ => Nat.le_of_ble_eq_true rfl) (fun _ => rfl) ?_
  unfold f_X2_give at h
  refine nd_aload_n dX2_give_0 1 rfl ?_
  refine nd_aload_n dX2_give_1 0 rfl ?_
  refine nd_get dX2_give_2 gf_X2_12 ph_100 rfl ?_
  obtain ⟨r1, σ2, hc3, h⟩ := nd_bind_e h
  refine nd_cvv [.ref 101] [] dX2_give_5 cl_X2_36 hso0.1 ⟨Nat.le_of_ble_eq_true rfl, Nat.le_of_ble_eq_true rfl⟩ rfl (Nat.le_of_ble_eq_true rfl) hL (t_X6_copy F o0b o0a 101 102 (nd_SH ++ nd_PIC) hL hso0 pis_Street_101 _ hc3) ?_
  refine nd_aload_n dX2_give_8 2 rfl ?_
  refine nd_aload_n dX2_give_9 0 rfl ?_
  refine nd_get dX2_give_10 gf_X2_21 ph_100 rfl ?_
  obtain ⟨r4, σ5, hc6, h⟩ := nd_bind_e h
  refine nd_cvv [.ref 103] [] dX2_give_13 cl_X2_40 hso1.1 ⟨Nat.le_of_ble_eq_true rfl, Nat.le_of_ble_eq_true rfl⟩ rfl (Nat.le_of_ble_eq_true rfl) hL (t_X5_copy F o1b 103 (nd_SH ++ nd_PIC) hL hso1 pis_Rules_103 _ hc6) ?_
  refine nd_aload_n dX2_give_16 0 rfl ?_
  refine nd_get dX2_give_17 gf_X2_25 ph_100 rfl ?_
  refine nd_iconst dX2_give_20 ic_0 ?_
  refine nd_aload_n dX2_give_21 3 rfl ?_
  refine nd_iconst dX2_give_22 ic_0 ?_
  refine nd_aload_n dX2_give_23 0 rfl ?_
  refine nd_get dX2_give_24 gf_X2_25 ph_100 rfl ?_
  refine nd_alen (v := (600 : Int32)) dX2_give_27 ph_111 rfl ?_
  refine nd_copyN dX2_give_28 lk_X2_43 wcp_n wcp_s wcp_i ph_111 hso2 ⟨by decide, by decide⟩ (Nat.le_of_ble_eq_true rfl) h (fun σ7 h => ?_)
  refine nd_aload dX2_give_31 4 rfl ?_
  refine nd_aload_n dX2_give_33 0 rfl ?_
  refine nd_get dX2_give_34 gf_X2_32 ph_100 rfl ?_
  obtain ⟨r8, σ9, hc10, h⟩ := nd_bind_e h
  refine nd_cvv [.ref 112] [] dX2_give_37 cl_X2_49 hso3.1 ⟨Nat.le_of_ble_eq_true rfl, Nat.le_of_ble_eq_true rfl⟩ rfl (Nat.le_of_ble_eq_true rfl) hL (t_X8_copy F o3b 112 (nd_SH ++ nd_PIC) hL hso3 pis_Told_112 _ hc10) ?_
  exact nd_vret dX2_give_40 (Nat.zero_le _) (Nat.zero_le _) trivial (by cases h; exact ⟨rfl, rfl, rfl⟩)
theorem nd_cvvG {M N : nd_M} {R : Room} {post : nd_Post} {kc ks pc : Nat} {ls : List (Nat × Value)} {σ : nd_Mem} {e idx q ci : Nat} {fs : List (Int32 → Value)} {st0 : List Value} {sh : List nd_S} {z1 : Int32 × nd_Mem} (as : List Value) (st : List Value) (hd : decode M.2.1 pc = .ok (.invokevirtual idx, 3)) (hc : nd_cv M.1.cls idx N as.length ci) (he : sh[q]? = some (.inl (ci, fs))) (hR : nd_roomN N (nd_rm e) R) (hst : as.reverse ++ .ref q :: st = st0) (hcat : (st.map (fun v => v.category)).sum ≤ 8) (hne : sh ≠ []) (hkc : kc ≤ R.cells) (hks : ks ≤ R.slots) (hL : sh.length < nd_ro) (hF : nd_Fn N (nd_rm e) (.ref q :: as) sh σ (nd_Pv sh z1)) (kk : nd_V M R post kc ks (pc + 3) ls st sh z1.2) : nd_V M R post kc ks pc ls st0 sh σ := by
  subst hst
  obtain ⟨h1, h2, h3, h4, T, k, h5⟩ := hc
  refine nd_callV hd h1 h2 h3 h4 h5 he hR hcat (Or.inr hne) hkc hks hL hF (nd_sz0 (fun _ _ _ h => h.2.1)) (fun r sh' σ' hp _ => ?_)
  obtain ⟨rfl, rfl, rfl⟩ := hp
  exact kk
theorem nd_len97 : (nd_SH ++ []).length = 100 := by decide +kernel
theorem nd_len98 (x : nd_S) : (nd_SH ++ [] ++ [x]).length = 101 := by rw [List.length_append, nd_len97]; rfl
theorem nd_len121 : (nd_SH ++ nd_PIC).length = 101 + (nd_rc 4 23 1340).cells := by decide +kernel
theorem nd_pic_eq : nd_SH ++ [] ++ [.inl (1, [(fun _ => .ref (100 + 1)), (fun _ => .ref (100 + 3)), (fun _ => .ref (100 + 11)), (fun _ => .ref (100 + 12))]), .inl (5, [(fun _ => .ref (101 + 1)), Value.int, Value.int, Value.int, Value.int, Value.int, Value.int, Value.int, Value.int]), .inr (.inl 96), .inl (4, [(fun _ => .ref (103 + 1)), (fun _ => .ref (103 + 3)), (fun _ => .ref (103 + 5)), (fun _ => .ref (103 + 7)), Value.int, Value.int, Value.int]), .inl (3, [(fun _ => .ref ((103 + 1) + 1)), Value.int]), .inr (.inl 64), .inl (3, [(fun _ => .ref ((103 + 3) + 1)), Value.int]), .inr (.inl 400), .inl (3, [(fun _ => .ref ((103 + 5) + 1)), Value.int]), .inr (.inl 64), .inr (.inl 16), .inr (.inl 600), .inl (7, [(fun _ => .ref (112 + 1)), (fun _ => .ref (112 + 3)), (fun _ => .ref (112 + 5)), (fun _ => .ref (112 + 7)), (fun _ => .ref (112 + 9)), (fun _ => .ref (112 + 11))]), .inl (3, [(fun _ => .ref ((112 + 1) + 1)), Value.int]), .inr (.inl 12), .inl (3, [(fun _ => .ref ((112 + 3) + 1)), Value.int]), .inr (.inl 6), .inl (3, [(fun _ => .ref ((112 + 5) + 1)), Value.int]), .inr (.inl 10), .inl (3, [(fun _ => .ref ((112 + 7) + 1)), Value.int]), .inr (.inl 14), .inl (3, [(fun _ => .ref ((112 + 9) + 1)), Value.int]), .inr (.inl 10), .inr (.inl 10)] = nd_SH ++ nd_PIC := by rw [List.append_nil]; rfl
theorem nd_let_e {x : nd_Mem} {k : nd_Mem → nd_Res} {z : Int32 × nd_Mem} (h : nd_let x k = some z) : k x = some z := h
theorem nd_plen : (nd_SH ++ nd_PIC).length < nd_ro := by decide +kernel
theorem nd_pne : nd_SH ++ nd_PIC ≠ [] := by
  intro e
  have h := congrArg List.length e
  exact absurd h (by decide +kernel)
def f_X10_image_22 (F : Nat) (σ : nd_Mem) : nd_Res := (if σ 0 10 = 0 then none else (nd_bind (f_X2_take F 1 2 3 11 600 12 σ) fun r1 σ2 => (some (1, σ2))))
set_option maxRecDepth 100000 in
set_option maxHeartbeats 4000000 in
theorem b_X10_image_22 (F : Nat) (kc ks C S : Nat) (hkc : kc ≤ C) (hks : ks ≤ S) {z : Int32 × nd_Mem} (x1 : Int32) (σ : nd_Mem) (h : f_X10_image_22 F σ = some z) : nd_V M_X10_image (nd_rc 5 C S) (nd_Pi (nd_SH ++ nd_PIC) z) kc ks 22 [(0, .ref 0), (1, .int x1)] [] (nd_SH ++ nd_PIC) σ := by
  unfold f_X10_image_22 at h
  have hfl := nd_no_e h
  have h := hfl.2
  have hfl := hfl.1
  refine nd_aload_n dX10_image_22 0 rfl ?_
  refine nd_get dX10_image_23 gf_X10_72 (sh_0 nd_PIC) rfl ?_
  rw [if_neg hfl]
  refine nd_aload_n dX10_image_26 0 rfl ?_
  refine nd_get dX10_image_27 gf_X10_10 (sh_0 nd_PIC) rfl ?_
  refine nd_aload_n dX10_image_30 0 rfl ?_
  refine nd_get dX10_image_31 gf_X10_19 (sh_0 nd_PIC) rfl ?_
  refine nd_aload_n dX10_image_34 0 rfl ?_
  refine nd_get dX10_image_35 gf_X10_23 (sh_0 nd_PIC) rfl ?_
  refine nd_aload_n dX10_image_38 0 rfl ?_
  refine nd_get dX10_image_39 gf_X10_30 (sh_0 nd_PIC) rfl ?_
  obtain ⟨r1, σ2, hc3, h⟩ := nd_bind_e h
  refine nd_cvvG [.ref 1, .ref 3, .ref 11, .ref 12] [] dX10_image_42 cl_X10_314 ph_100 ⟨Nat.le_of_ble_eq_true rfl, Nat.le_of_ble_eq_true rfl⟩ rfl (Nat.le_of_ble_eq_true rfl) nd_pne hkc hks nd_plen (t_X2_take F 1 2 3 11 600 12 nd_plen (is_Street_1 nd_PIC) (is_Rules_3 nd_PIC) (sh_11 nd_PIC) (is_Told_12 nd_PIC) _ hc3) ?_
  refine nd_iconst dX10_image_45 ic_1 ?_
  exact nd_iret dX10_image_46 hkc hks rfl (by cases h; exact ⟨rfl, rfl, rfl⟩)
/-- the image is taken for the first time: its cells are made -/
def f_X10_imageA (F : Nat) (x1 : Int32) (σ : nd_Mem) : nd_Res := (if x1 = 0 then none else (if ¬ (σ 0 10 = 0) then none else (nd_let (nd_row σ 100 (fun _ => 0)) fun σ1 => (nd_bind (f_X2_init F σ1) fun r2 σ3 => (nd_let (nd_up σ3 0 10 1) fun σ4 => (f_X10_image_22 F σ4))))))
set_option maxRecDepth 100000 in
set_option maxHeartbeats 4000000 in
theorem t_X10_imageA (F : Nat) {z : Int32 × nd_Mem} (x1 : Int32) (σ : nd_Mem) (h : f_X10_imageA F x1 σ = some z) : nd_Fn M_X10_image (nd_rc 5 24 1344) [.ref 0, .int x1] (nd_SH ++ []) σ (nd_Pi (nd_SH ++ nd_PIC) z) := by
  refine nd_Fn.ofV (ls := [(0, .ref 0), (1, .int x1)]) pl_X10_image rfl (fun _ => Nat.le_of_ble_eq_true rfl) (fun _ => rfl) ?_
  unfold f_X10_imageA at h
  have hx := (nd_no_e h).1
  have h := (nd_no_e h).2
  have hfl := Classical.not_not.mp (nd_no_e h).1
  have h := (nd_no_e h).2
  refine nd_iload_n dX10_image_0 1 rfl ?_
  refine nd_if_eq dX10_image_1 47 (by decide) (fun c => absurd c hx) (fun _ => ?_)
  refine nd_aload_n dX10_image_4 0 rfl ?_
  refine nd_get dX10_image_5 gf_X10_72 (sh_0 []) rfl ?_
  rw [if_pos hfl]
  refine nd_ifnonnullN dX10_image_8 ?_
  refine nd_aload_n dX10_image_11 0 rfl ?_
  refine nd_new dX10_image_12 nf_X10_311 (Or.inl rfl) (by decide +kernel) (by decide +kernel) (by decide +kernel) ?_
  rw [nd_len97]
  obtain ⟨r2, σ3, hc2, h⟩ := nd_bind_e (nd_let_e h)
  refine nd_dup dX10_image_15 rfl ?_
  refine nd_callI (as := []) (b := 100) (st := [.ref 100, .ref 0]) (RN := nd_rc 4 23 1340) (postN := nd_Pv (nd_SH ++ [] ++ [.inl (1, [(fun _ => .ref (100 + 1)), (fun _ => .ref (100 + 3)), (fun _ => .ref (100 + 11)), (fun _ => .ref (100 + 12))]), .inl (5, [(fun _ => .ref (101 + 1)), Value.int, Value.int, Value.int, Value.int, Value.int, Value.int, Value.int, Value.int]), .inr (.inl 96), .inl (4, [(fun _ => .ref (103 + 1)), (fun _ => .ref (103 + 3)), (fun _ => .ref (103 + 5)), (fun _ => .ref (103 + 7)), Value.int, Value.int, Value.int]), .inl (3, [(fun _ => .ref ((103 + 1) + 1)), Value.int]), .inr (.inl 64), .inl (3, [(fun _ => .ref ((103 + 3) + 1)), Value.int]), .inr (.inl 400), .inl (3, [(fun _ => .ref ((103 + 5) + 1)), Value.int]), .inr (.inl 64), .inr (.inl 16), .inr (.inl 600), .inl (7, [(fun _ => .ref (112 + 1)), (fun _ => .ref (112 + 3)), (fun _ => .ref (112 + 5)), (fun _ => .ref (112 + 7)), (fun _ => .ref (112 + 9)), (fun _ => .ref (112 + 11))]), .inl (3, [(fun _ => .ref ((112 + 1) + 1)), Value.int]), .inr (.inl 12), .inl (3, [(fun _ => .ref ((112 + 3) + 1)), Value.int]), .inr (.inl 6), .inl (3, [(fun _ => .ref ((112 + 5) + 1)), Value.int]), .inr (.inl 10), .inl (3, [(fun _ => .ref ((112 + 7) + 1)), Value.int]), .inr (.inl 14), .inl (3, [(fun _ => .ref ((112 + 9) + 1)), Value.int]), .inr (.inl 10), .inr (.inl 10)]) (r2, σ3)) dX10_image_16 ok_X2_init rfl wi_X2_init rfl lk_X10_313 ⟨by decide +kernel, by decide +kernel⟩ (by decide +kernel) (Or.inr (nd_ane (List.cons_ne_nil _ _))) (by decide +kernel) (by decide +kernel) (by rw [nd_len98]; decide +kernel) (t_X2_init F (nd_SH ++ []) nd_len97 (by decide +kernel) _ hc2) (fun r sh' σ' hp => by rw [hp.2.1, nd_pic_eq, nd_len98, nd_len121]) (fun r sh' σ' hp _ => ?_)
  obtain ⟨hr9, hs9, hm9⟩ := hp
  subst hr9
  rw [hs9, hm9, nd_pic_eq]
  refine nd_putxN (x := 1) dX10_image_19 pf_X10_72 (fun h => absurd h (by decide)) (sh_0 nd_PIC) rfl rfl (fun _ => rfl) (fun _ => rfl) h (fun σ4 h => ?_)
  exact b_X10_image_22 F _ _ _ _ (by decide) (by decide) _ _ h
/-- the image is taken again, or gone back to, or there is none -/
def f_X10_imageB (F : Nat) (x1 : Int32) (σ : nd_Mem) : nd_Res := (if x1 = 0 then (if σ 0 10 = 0 then (some (0, σ)) else (nd_bind (f_X2_give F 1 2 3 11 600 12 σ) fun r1 σ2 => (nd_bind (f_X1_forget F σ2) fun r3 σ4 => (some (1, σ4))))) else (f_X10_image_22 F σ))
set_option maxRecDepth 100000 in
set_option maxHeartbeats 4000000 in
theorem t_X10_imageB (F : Nat) (t : List nd_S) (hL : (nd_SH ++ t).length < nd_ro) {z : Int32 × nd_Mem} (x1 : Int32) (σ : nd_Mem) (ht : ¬ σ 0 10 = 0 → t = nd_PIC) (hx : σ 0 10 = 0 → x1 = 0) (h : f_X10_imageB F x1 σ = some z) : nd_Fn M_X10_image (nd_rm 5) [.ref 0, .int x1] (nd_SH ++ t) σ (nd_Pi (nd_SH ++ t) z) := by
  refine nd_Fn.ofV (ls := [(0, .ref 0), (1, .int x1)]) pl_X10_image rfl (fun _ => Nat.le_of_ble_eq_true rfl) (fun _ => rfl) ?_
  unfold f_X10_imageB at h
  refine nd_iload_n dX10_image_0 1 rfl ?_
  rcases nd_ite_e h with ⟨hx0, h⟩ | ⟨hx0, h⟩
  · refine nd_if_eq dX10_image_1 47 (by decide) (fun _ => ?_) (fun c => absurd hx0 c)
    refine nd_aload_n dX10_image_47 0 rfl ?_
    refine nd_get dX10_image_48 gf_X10_72 (sh_0 t) rfl ?_
    rcases nd_ite_e h with ⟨hfl, h⟩ | ⟨hfl, h⟩
    · rw [if_pos hfl]
      refine nd_ifnonnullN dX10_image_51 ?_
      refine nd_iconst dX10_image_54 ic_0 ?_
      exact nd_iret dX10_image_55 (Nat.zero_le _) (Nat.zero_le _) rfl (by cases h; exact ⟨rfl, rfl, rfl⟩)
    · obtain rfl := ht hfl
      rw [if_neg hfl]
      refine nd_ifnonnullR dX10_image_51 56 (by decide) ?_
      refine nd_aload_n dX10_image_56 0 rfl ?_
      refine nd_get dX10_image_57 gf_X10_72 (sh_0 nd_PIC) rfl ?_
      rw [if_neg hfl]
      refine nd_aload_n dX10_image_60 0 rfl ?_
      refine nd_get dX10_image_61 gf_X10_10 (sh_0 nd_PIC) rfl ?_
      refine nd_aload_n dX10_image_64 0 rfl ?_
      refine nd_get dX10_image_65 gf_X10_19 (sh_0 nd_PIC) rfl ?_
      refine nd_aload_n dX10_image_68 0 rfl ?_
      refine nd_get dX10_image_69 gf_X10_23 (sh_0 nd_PIC) rfl ?_
      refine nd_aload_n dX10_image_72 0 rfl ?_
      refine nd_get dX10_image_73 gf_X10_30 (sh_0 nd_PIC) rfl ?_
      obtain ⟨r1, σ2, hc3, h⟩ := nd_bind_e h
      refine nd_cvv [.ref 1, .ref 3, .ref 11, .ref 12] [] dX10_image_76 cl_X10_317 ph_100 ⟨Nat.le_of_ble_eq_true rfl, Nat.le_of_ble_eq_true rfl⟩ rfl (Nat.le_of_ble_eq_true rfl) hL (t_X2_give F 1 2 3 11 600 12 hL (is_Street_1 nd_PIC) (is_Rules_3 nd_PIC) (sh_11 nd_PIC) (is_Told_12 nd_PIC) _ hc3) ?_
      refine nd_aload_n dX10_image_79 0 rfl ?_
      refine nd_get dX10_image_80 gf_X10_37 (sh_0 nd_PIC) rfl ?_
      obtain ⟨r3, σ4, hc5, h⟩ := nd_bind_e h
      refine nd_cvv [] [] dX10_image_83 cl_X10_80 (sh_24 nd_PIC) ⟨Nat.le_of_ble_eq_true rfl, Nat.le_of_ble_eq_true rfl⟩ rfl (Nat.le_of_ble_eq_true rfl) hL (t_X1_forget F nd_PIC hL _ hc5) ?_
      refine nd_iconst dX10_image_86 ic_1 ?_
      exact nd_iret dX10_image_87 (Nat.zero_le _) (Nat.zero_le _) rfl (by cases h; exact ⟨rfl, rfl, rfl⟩)
  · have hfl : ¬ σ 0 10 = 0 := fun e => hx0 (hx e)
    obtain rfl := ht hfl
    refine nd_if_eq dX10_image_1 47 (by decide) (fun c => absurd c hx0) (fun _ => ?_)
    refine nd_aload_n dX10_image_4 0 rfl ?_
    refine nd_get dX10_image_5 gf_X10_72 (sh_0 nd_PIC) rfl ?_
    rw [if_neg hfl]
    refine nd_ifnonnullR dX10_image_8 22 (by decide) ?_
    exact b_X10_image_22 F 0 0 0 0 (Nat.le_refl _) (Nat.le_refl _) _ _ h
