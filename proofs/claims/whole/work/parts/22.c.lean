def f_X9_joined (F : Nat) (x0 : Int32) (x1 : Int32) (x2 : Int32) (σ : nd_Mem) : nd_Res := (if x0 = (-62 : Int32) then (if x1 ≤ x2 then (some ((0 : Int32), σ)) else (some ((1 : Int32), σ))) else (if x0 = (-61 : Int32) then (if x1 = x2 then (some ((1 : Int32), σ)) else (some ((0 : Int32), σ))) else (if x0 = (-60 : Int32) then (if x2 ≤ x1 then (some ((0 : Int32), σ)) else (some ((1 : Int32), σ))) else (if x0 = (-47 : Int32) then (if x2 = 0 then (some ((0 : Int32), σ)) else (if x2 = 0 then none else (some ((x1 / x2), σ)))) else (if x0 = (-45 : Int32) then (some ((x1 - x2), σ)) else (if x0 = (-43 : Int32) then (some ((x1 + x2), σ)) else (if x0 = (-42 : Int32) then (some ((x1 * x2), σ)) else (if x0 = (-3 : Int32) then (some ((x1 &&& x2), σ)) else (some ((x1 ||| x2), σ))))))))))
set_option maxRecDepth 100000 in
set_option maxHeartbeats 4000000 in
theorem t_X9_joined (F : Nat) (sh : List nd_S) (hL : sh.length < nd_ro) {z : Int32 × nd_Mem} (x0 : Int32) (x1 : Int32) (x2 : Int32) (σ : nd_Mem) (h : f_X9_joined F x0 x1 x2 σ = some z) : nd_Fn M_X9_joined (nd_rm 0) [.int x0, .int x1, .int x2] sh σ (nd_Pi sh z) := by
  refine nd_Fn.ofV (ls := [(0, .int x0), (1, .int x1), (2, .int x2)]) pl_X9_joined rfl (fun _ => Nat.le_of_ble_eq_true rfl) (fun _ => rfl) ?_
  unfold f_X9_joined at h
  refine nd_iload_n dX9_joined_0 0 rfl ?_
  rcases nd_ite_e h with ⟨c1, h⟩ | ⟨c1, h⟩
  · refine nd_look dX9_joined_1 (by decide) (by rw [c1] <;> decide) 122 (by decide) ?_
    refine nd_iload_n dX9_joined_122 1 rfl ?_
    refine nd_iload_n dX9_joined_123 2 rfl ?_
    refine nd_icmp_leN dX9_joined_124 131 (by decide) h (fun h => ?_) (fun h => ?_)
    · refine nd_iconst dX9_joined_131 ic_0 ?_
      exact nd_iret dX9_joined_132 (Nat.zero_le _) (Nat.zero_le _) (vp_nar_int _) (by cases h; exact ⟨rfl, rfl, rfl⟩)
    · refine nd_iconst dX9_joined_127 ic_1 ?_
      refine nd_goto dX9_joined_128 132 (by decide) ?_
      exact nd_iret dX9_joined_132 (Nat.zero_le _) (Nat.zero_le _) (vp_nar_int _) (by cases h; exact ⟨rfl, rfl, rfl⟩)
  rcases nd_ite_e h with ⟨c2, h⟩ | ⟨c2, h⟩
  · refine nd_look dX9_joined_1 (by decide) (by rw [c2] <;> decide) 111 (by decide) ?_
    refine nd_iload_n dX9_joined_111 1 rfl ?_
    refine nd_iload_n dX9_joined_112 2 rfl ?_
    refine nd_icmp_neN dX9_joined_113 120 (by decide) h (fun h => ?_) (fun h => ?_)
    · refine nd_iconst dX9_joined_120 ic_0 ?_
      exact nd_iret dX9_joined_121 (Nat.zero_le _) (Nat.zero_le _) (vp_nar_int _) (by cases h; exact ⟨rfl, rfl, rfl⟩)
    · refine nd_iconst dX9_joined_116 ic_1 ?_
      refine nd_goto dX9_joined_117 121 (by decide) ?_
      exact nd_iret dX9_joined_121 (Nat.zero_le _) (Nat.zero_le _) (vp_nar_int _) (by cases h; exact ⟨rfl, rfl, rfl⟩)
  rcases nd_ite_e h with ⟨c3, h⟩ | ⟨c3, h⟩
  · refine nd_look dX9_joined_1 (by decide) (by rw [c3] <;> decide) 100 (by decide) ?_
    refine nd_iload_n dX9_joined_100 1 rfl ?_
    refine nd_iload_n dX9_joined_101 2 rfl ?_
    refine nd_icmp_geN dX9_joined_102 109 (by decide) h (fun h => ?_) (fun h => ?_)
    · refine nd_iconst dX9_joined_109 ic_0 ?_
      exact nd_iret dX9_joined_110 (Nat.zero_le _) (Nat.zero_le _) (vp_nar_int _) (by cases h; exact ⟨rfl, rfl, rfl⟩)
    · refine nd_iconst dX9_joined_105 ic_1 ?_
      refine nd_goto dX9_joined_106 110 (by decide) ?_
      exact nd_iret dX9_joined_110 (Nat.zero_le _) (Nat.zero_le _) (vp_nar_int _) (by cases h; exact ⟨rfl, rfl, rfl⟩)
  rcases nd_ite_e h with ⟨c4, h⟩ | ⟨c4, h⟩
  · refine nd_look dX9_joined_1 (by decide) (by rw [c4] <;> decide) 88 (by decide) ?_
    refine nd_iload_n dX9_joined_88 2 rfl ?_
    refine nd_if_neN dX9_joined_89 96 (by decide) h (fun h => ?_) (fun h => ?_)
    · refine nd_iload_n dX9_joined_96 1 rfl ?_
      refine nd_iload_n dX9_joined_97 2 rfl ?_
      refine nd_idivN dX9_joined_98 h (fun h => ?_)
      exact nd_iret dX9_joined_99 (Nat.zero_le _) (Nat.zero_le _) (vp_nar_int _) (by cases h; exact ⟨rfl, rfl, rfl⟩)
    · refine nd_iconst dX9_joined_92 ic_0 ?_
      refine nd_goto dX9_joined_93 99 (by decide) ?_
      exact nd_iret dX9_joined_99 (Nat.zero_le _) (Nat.zero_le _) (vp_nar_int _) (by cases h; exact ⟨rfl, rfl, rfl⟩)
  rcases nd_ite_e h with ⟨c5, h⟩ | ⟨c5, h⟩
  · refine nd_look dX9_joined_1 (by decide) (by rw [c5] <;> decide) 80 (by decide) ?_
    refine nd_iload_n dX9_joined_80 1 rfl ?_
    refine nd_iload_n dX9_joined_81 2 rfl ?_
    refine nd_isub dX9_joined_82 ?_
    exact nd_iret dX9_joined_83 (Nat.zero_le _) (Nat.zero_le _) (vp_nar_int _) (by cases h; exact ⟨rfl, rfl, rfl⟩)
  rcases nd_ite_e h with ⟨c6, h⟩ | ⟨c6, h⟩
  · refine nd_look dX9_joined_1 (by decide) (by rw [c6] <;> decide) 76 (by decide) ?_
    refine nd_iload_n dX9_joined_76 1 rfl ?_
    refine nd_iload_n dX9_joined_77 2 rfl ?_
    refine nd_iadd dX9_joined_78 ?_
    exact nd_iret dX9_joined_79 (Nat.zero_le _) (Nat.zero_le _) (vp_nar_int _) (by cases h; exact ⟨rfl, rfl, rfl⟩)
  rcases nd_ite_e h with ⟨c7, h⟩ | ⟨c7, h⟩
  · refine nd_look dX9_joined_1 (by decide) (by rw [c7] <;> decide) 84 (by decide) ?_
    refine nd_iload_n dX9_joined_84 1 rfl ?_
    refine nd_iload_n dX9_joined_85 2 rfl ?_
    refine nd_imul dX9_joined_86 ?_
    exact nd_iret dX9_joined_87 (Nat.zero_le _) (Nat.zero_le _) (vp_nar_int _) (by cases h; exact ⟨rfl, rfl, rfl⟩)
  rcases nd_ite_e h with ⟨c8, h⟩ | ⟨c8, h⟩
  · refine nd_look dX9_joined_1 (by decide) (by rw [c8] <;> decide) 133 (by decide) ?_
    refine nd_iload_n dX9_joined_133 1 rfl ?_
    refine nd_iload_n dX9_joined_134 2 rfl ?_
    refine nd_iand dX9_joined_135 ?_
    exact nd_iret dX9_joined_136 (Nat.zero_le _) (Nat.zero_le _) (vp_nar_int _) (by cases h; exact ⟨rfl, rfl, rfl⟩)
  refine nd_look dX9_joined_1 (by decide) (nd_lookD _ ?_) 137 (by decide) ?_
  · intro q hq
    simp only [List.mem_cons, List.not_mem_nil, or_false] at hq
    rcases hq with rfl | rfl | rfl | rfl | rfl | rfl | rfl | rfl
    · exact fun e => c1 (e.trans ic_m62)
    · exact fun e => c2 (e.trans ic_m61)
    · exact fun e => c3 (e.trans ic_m60)
    · exact fun e => c4 (e.trans ic_m47)
    · exact fun e => c5 (e.trans ic_m45)
    · exact fun e => c6 (e.trans ic_m43)
    · exact fun e => c7 (e.trans ic_m42)
    · exact fun e => c8 (e.trans ic_m3)
  · refine nd_iload_n dX9_joined_137 1 rfl ?_
    refine nd_iload_n dX9_joined_138 2 rfl ?_
    refine nd_ior dX9_joined_139 ?_
    exact nd_iret dX9_joined_140 (Nat.zero_le _) (Nat.zero_le _) (vp_nar_int _) (by cases h; exact ⟨rfl, rfl, rfl⟩)
def f_X9_note (F : Nat) (b a st sa : Nat) (x1 : Int32) (x2 : Int32) (x3 : Int32) (σ : nd_Mem) : nd_Res := (if (σ b 3) = 0 then (if (σ st 8) < 0 then (some (0, σ)) else (if (σ st 8) < (150 : Int32) then (if ((σ st 8) * (4 : Int32)) < 0 ∨ 600 ≤ (((σ st 8) * (4 : Int32))).toNatClampNeg then none else (nd_let (nd_up σ 11 (((σ st 8) * (4 : Int32))).toNatClampNeg (σ st 6)) fun σ1 => (if (((σ st 8) * (4 : Int32)) + (1 : Int32)) < 0 ∨ 600 ≤ ((((σ st 8) * (4 : Int32)) + (1 : Int32))).toNatClampNeg then none else (nd_let (nd_up σ1 11 ((((σ st 8) * (4 : Int32)) + (1 : Int32))).toNatClampNeg x1) fun σ2 => (if (((σ st 8) * (4 : Int32)) + (2 : Int32)) < 0 ∨ 600 ≤ ((((σ st 8) * (4 : Int32)) + (2 : Int32))).toNatClampNeg then none else (nd_let (nd_up σ2 11 ((((σ st 8) * (4 : Int32)) + (2 : Int32))).toNatClampNeg x2) fun σ3 => (if (((σ st 8) * (4 : Int32)) + (3 : Int32)) < 0 ∨ 600 ≤ ((((σ st 8) * (4 : Int32)) + (3 : Int32))).toNatClampNeg then none else (nd_let (nd_up σ3 11 ((((σ st 8) * (4 : Int32)) + (3 : Int32))).toNatClampNeg x3) fun σ4 => (nd_let (nd_up σ4 st 8 ((σ4 st 8) + (1 : Int32))) fun σ5 => (some (0, σ5))))))))))) else (some (0, σ)))) else (some (0, σ)))
set_option maxRecDepth 100000 in
set_option maxHeartbeats 4000000 in
theorem t_X9_note (F : Nat) (b a st sa : Nat) (sh : List nd_S) (hL : sh.length < nd_ro) (hs : is_Walk sh b a st sa) {z : Int32 × nd_Mem} (x1 : Int32) (x2 : Int32) (x3 : Int32) (σ : nd_Mem) (h : f_X9_note F b a st sa x1 x2 x3 σ = some z) : nd_Fn M_X9_note (nd_rm 0) [.ref b, .int x1, .int x2, .int x3] sh σ (nd_Pv sh z) := by
  refine nd_Fn.ofV (ls := [(0, .ref b), (1, .int x1), (2, .int x2), (3, .int x3)]) pl_X9_note rfl (fun _ => Nat.le_of_ble_eq_true rfl) (fun _ => rfl) ?_
  unfold f_X9_note at h
  refine nd_aload_n dX9_note_0 0 rfl ?_
  refine nd_get dX9_note_1 gf_X9_23 hs.1 rfl ?_
  refine nd_if_neN dX9_note_4 30 (by decide) h (fun h => ?_) (fun h => ?_)
  · exact nd_vret dX9_note_30 (Nat.zero_le _) (Nat.zero_le _) trivial (by cases h; exact ⟨rfl, rfl, rfl⟩)
  · refine nd_aload_n dX9_note_7 0 rfl ?_
    refine nd_get dX9_note_8 gf_X9_9 hs.1 rfl ?_
    refine nd_get dX9_note_11 gf_X9_129 hs.2.2.1.1 rfl ?_
    refine nd_if_ltN dX9_note_14 30 (by decide) h (fun h => ?_) (fun h => ?_)
    · exact nd_vret dX9_note_30 (Nat.zero_le _) (Nat.zero_le _) trivial (by cases h; exact ⟨rfl, rfl, rfl⟩)
    · refine nd_aload_n dX9_note_17 0 rfl ?_
      refine nd_get dX9_note_18 gf_X9_9 hs.1 rfl ?_
      refine nd_get dX9_note_21 gf_X9_129 hs.2.2.1.1 rfl ?_
      refine nd_sipush dX9_note_24 is_150 ?_
      refine nd_icmp_ltN dX9_note_27 31 (by decide) h (fun h => ?_) (fun h => ?_)
      · refine nd_aload_n dX9_note_31 0 rfl ?_
        refine nd_get dX9_note_32 gf_X9_9 hs.1 rfl ?_
        refine nd_get dX9_note_35 gf_X9_129 hs.2.2.1.1 rfl ?_
        refine nd_iconst dX9_note_38 ic_4 ?_
        refine nd_imul dX9_note_39 ?_
        refine nd_istore (ls' := [(4, .int ((σ st 8) * (4 : Int32))), (0, .ref b), (1, .int x1), (2, .int x2), (3, .int x3)]) dX9_note_40 (by decide) rfl ?_
        refine nd_aload_n dX9_note_42 1 rfl ?_
        refine nd_get dX9_note_43 gf_X9_19 hs.1 rfl ?_
        refine nd_iload dX9_note_46 0 rfl ?_
        refine nd_aload_n dX9_note_48 1 rfl ?_
        refine nd_get dX9_note_49 gf_X9_9 hs.1 rfl ?_
        refine nd_get dX9_note_52 gf_X9_56 hs.2.2.1.1 rfl ?_
        refine nd_iastoreN dX9_note_55 hs.2.2.2.2 h (fun σ1 h => ?_)
        refine nd_aload_n dX9_note_56 1 rfl ?_
        refine nd_get dX9_note_57 gf_X9_19 hs.1 rfl ?_
        refine nd_iload dX9_note_60 0 rfl ?_
        refine nd_iconst dX9_note_62 ic_1 ?_
        refine nd_iadd dX9_note_63 ?_
        refine nd_iload_n dX9_note_64 2 rfl ?_
        refine nd_iastoreN dX9_note_65 hs.2.2.2.2 h (fun σ2 h => ?_)
        refine nd_aload_n dX9_note_66 1 rfl ?_
        refine nd_get dX9_note_67 gf_X9_19 hs.1 rfl ?_
        refine nd_iload dX9_note_70 0 rfl ?_
        refine nd_iconst dX9_note_72 ic_2 ?_
        refine nd_iadd dX9_note_73 ?_
        refine nd_iload_n dX9_note_74 3 rfl ?_
        refine nd_iastoreN dX9_note_75 hs.2.2.2.2 h (fun σ3 h => ?_)
        refine nd_aload_n dX9_note_76 1 rfl ?_
        refine nd_get dX9_note_77 gf_X9_19 hs.1 rfl ?_
        refine nd_iload dX9_note_80 0 rfl ?_
        refine nd_iconst dX9_note_82 ic_3 ?_
        refine nd_iadd dX9_note_83 ?_
        refine nd_iload_n dX9_note_84 4 rfl ?_
        refine nd_iastoreN dX9_note_85 hs.2.2.2.2 h (fun σ4 h => ?_)
        refine nd_aload_n dX9_note_86 1 rfl ?_
        refine nd_get dX9_note_87 gf_X9_9 hs.1 rfl ?_
        refine nd_dup dX9_note_90 rfl ?_
        refine nd_get dX9_note_91 gf_X9_129 hs.2.2.1.1 rfl ?_
        refine nd_iconst dX9_note_94 ic_1 ?_
        refine nd_iadd dX9_note_95 ?_
        refine nd_putiN dX9_note_96 pf_X9_129 hs.2.2.1.1 rfl h (fun σ5 h => ?_)
        exact nd_vret dX9_note_99 (Nat.zero_le _) (Nat.zero_le _) trivial (by cases h; exact ⟨rfl, rfl, rfl⟩)
      · exact nd_vret dX9_note_30 (Nat.zero_le _) (Nat.zero_le _) trivial (by cases h; exact ⟨rfl, rfl, rfl⟩)
def f_X9_beWidowed_40 (F : Nat) (b a st sa : Nat) (x1 : Int32) (s0 : Int32) (σ : nd_Mem) : nd_Res := (if s0 = 0 then (some (0, σ)) else (nd_bind (f_X6_get F st sa x1 (4 : Int32) σ) fun r1 σ2 => (if r1 = 0 then (nd_bind (f_X6_put F st sa x1 (4 : Int32) (1 : Int32) σ2) fun r4 σ5 => (nd_bind (f_X9_note F b a st sa (4 : Int32) x1 (0 : Int32) σ5) fun r7 σ8 => (some (0, σ8)))) else (some (0, σ2)))))
def f_X9_beWidowed_39 (F : Nat) (b a st sa : Nat) (x1 : Int32) (σ : nd_Mem) : nd_Res := (f_X9_beWidowed_40 F b a st sa x1 (0 : Int32) σ)
def f_X9_beWidowed (F : Nat) (b a st sa : Nat) (x1 : Int32) (σ : nd_Mem) : nd_Res := (if (((σ b 5) >>> (x1 &&& 31)) &&& (1 : Int32)) = 0 then (nd_bind (f_X6_get F st sa x1 (1 : Int32) σ) fun r1 σ2 => (if r1 ≤ 0 then (f_X9_beWidowed_39 F b a st sa x1 σ2) else (nd_bind (f_X6_get F st sa x1 (0 : Int32) σ2) fun r4 σ5 => (if r4 = 0 then (f_X9_beWidowed_40 F b a st sa x1 (1 : Int32) σ5) else (f_X9_beWidowed_39 F b a st sa x1 σ5))))) else (f_X9_beWidowed_39 F b a st sa x1 σ))
set_option maxRecDepth 100000 in
set_option maxHeartbeats 4000000 in
theorem b_X9_beWidowed_40 (F : Nat) (b a st sa : Nat) (sh : List nd_S) (hL : sh.length < nd_ro) (hs : is_Walk sh b a st sa) {z : Int32 × nd_Mem} (x1 : Int32) (s0 : Int32) (σ : nd_Mem) (h : f_X9_beWidowed_40 F b a st sa x1 s0 σ = some z) : nd_V M_X9_beWidowed (nd_rm 1) (nd_Pv sh z) 0 0 40 [(0, .ref b), (1, .int x1)] [.int s0] sh σ := by
  unfold f_X9_beWidowed_40 at h
  refine nd_istore_n (ls' := [(2, .int s0), (0, .ref b), (1, .int x1)]) dX9_beWidowed_40 (by decide) rfl ?_
  refine nd_iload_n dX9_beWidowed_41 0 rfl ?_
  refine nd_if_eqN dX9_beWidowed_42 74 (by decide) h (fun h => ?_) (fun h => ?_)
  · exact nd_vret dX9_beWidowed_74 (Nat.zero_le _) (Nat.zero_le _) trivial (by cases h; exact ⟨rfl, rfl, rfl⟩)
  · refine nd_aload_n dX9_beWidowed_45 1 rfl ?_
    refine nd_get dX9_beWidowed_46 gf_X9_9 hs.1 rfl ?_
    refine nd_iload_n dX9_beWidowed_49 2 rfl ?_
    refine nd_iconst dX9_beWidowed_50 ic_4 ?_
    obtain ⟨r1, σ2, hc3, h⟩ := nd_bind_e h
    refine nd_cvi [.int x1, .int (4 : Int32)] [] dX9_beWidowed_51 cl_X9_42 hs.2.2.1.1 ⟨Nat.le_of_ble_eq_true rfl, Nat.le_of_ble_eq_true rfl⟩ rfl (Nat.le_of_ble_eq_true rfl) hL (t_X6_get F st sa sh hL hs.2.2.1 _ _ _ hc3) ?_
    refine nd_if_neN dX9_beWidowed_54 74 (by decide) h (fun h => ?_) (fun h => ?_)
    · exact nd_vret dX9_beWidowed_74 (Nat.zero_le _) (Nat.zero_le _) trivial (by cases h; exact ⟨rfl, rfl, rfl⟩)
    · refine nd_aload_n dX9_beWidowed_57 1 rfl ?_
      refine nd_get dX9_beWidowed_58 gf_X9_9 hs.1 rfl ?_
      refine nd_iload_n dX9_beWidowed_61 2 rfl ?_
      refine nd_iconst dX9_beWidowed_62 ic_4 ?_
      refine nd_iconst dX9_beWidowed_63 ic_1 ?_
      obtain ⟨r4, σ5, hc6, h⟩ := nd_bind_e h
      refine nd_cvv [.int x1, .int (4 : Int32), .int (1 : Int32)] [] dX9_beWidowed_64 cl_X9_82 hs.2.2.1.1 ⟨Nat.le_of_ble_eq_true rfl, Nat.le_of_ble_eq_true rfl⟩ rfl (Nat.le_of_ble_eq_true rfl) hL (t_X6_put F st sa sh hL hs.2.2.1 _ _ _ _ hc6) ?_
      refine nd_aload_n dX9_beWidowed_67 1 rfl ?_
      refine nd_iconst dX9_beWidowed_68 ic_4 ?_
      refine nd_iload_n dX9_beWidowed_69 2 rfl ?_
      refine nd_iconst dX9_beWidowed_70 ic_0 ?_
      obtain ⟨r7, σ8, hc9, h⟩ := nd_bind_e h
      refine nd_cvv [.int (4 : Int32), .int x1, .int (0 : Int32)] [] dX9_beWidowed_71 cl_X9_108 hs.1 ⟨Nat.le_of_ble_eq_true rfl, Nat.le_of_ble_eq_true rfl⟩ rfl (Nat.le_of_ble_eq_true rfl) hL (t_X9_note F b a st sa sh hL hs _ _ _ _ hc9) ?_
      exact nd_vret dX9_beWidowed_74 (Nat.zero_le _) (Nat.zero_le _) trivial (by cases h; exact ⟨rfl, rfl, rfl⟩)
set_option maxRecDepth 100000 in
set_option maxHeartbeats 4000000 in
theorem b_X9_beWidowed_39 (F : Nat) (b a st sa : Nat) (sh : List nd_S) (hL : sh.length < nd_ro) (hs : is_Walk sh b a st sa) {z : Int32 × nd_Mem} (x1 : Int32) (σ : nd_Mem) (h : f_X9_beWidowed_39 F b a st sa x1 σ = some z) : nd_V M_X9_beWidowed (nd_rm 1) (nd_Pv sh z) 0 0 39 [(0, .ref b), (1, .int x1)] [] sh σ := by
  unfold f_X9_beWidowed_39 at h
  refine nd_iconst dX9_beWidowed_39 ic_0 ?_
  exact b_X9_beWidowed_40 F b a st sa sh hL hs _ _ _ h
set_option maxRecDepth 100000 in
set_option maxHeartbeats 4000000 in
theorem t_X9_beWidowed (F : Nat) (b a st sa : Nat) (sh : List nd_S) (hL : sh.length < nd_ro) (hs : is_Walk sh b a st sa) {z : Int32 × nd_Mem} (x1 : Int32) (σ : nd_Mem) (h : f_X9_beWidowed F b a st sa x1 σ = some z) : nd_Fn M_X9_beWidowed (nd_rm 1) [.ref b, .int x1] sh σ (nd_Pv sh z) := by
  refine nd_Fn.ofV (ls := [(0, .ref b), (1, .int x1)]) pl_X9_beWidowed rfl (fun _ => Nat.le_of_ble_eq_true rfl) (fun _ => rfl) ?_
  unfold f_X9_beWidowed at h
  refine nd_aload_n dX9_beWidowed_0 0 rfl ?_
  refine nd_get dX9_beWidowed_1 gf_X9_33 hs.1 rfl ?_
  refine nd_iload_n dX9_beWidowed_4 1 rfl ?_
  refine nd_ishr dX9_beWidowed_5 ?_
  refine nd_iconst dX9_beWidowed_6 ic_1 ?_
  refine nd_iand dX9_beWidowed_7 ?_
  refine nd_if_neN dX9_beWidowed_8 39 (by decide) h (fun h => ?_) (fun h => ?_)
  · exact b_X9_beWidowed_39 F b a st sa sh hL hs _ _ h
  · refine nd_aload_n dX9_beWidowed_11 0 rfl ?_
    refine nd_get dX9_beWidowed_12 gf_X9_9 hs.1 rfl ?_
    refine nd_iload_n dX9_beWidowed_15 1 rfl ?_
    refine nd_iconst dX9_beWidowed_16 ic_1 ?_
    obtain ⟨r1, σ2, hc3, h⟩ := nd_bind_e h
    refine nd_cvi [.int x1, .int (1 : Int32)] [] dX9_beWidowed_17 cl_X9_42 hs.2.2.1.1 ⟨Nat.le_of_ble_eq_true rfl, Nat.le_of_ble_eq_true rfl⟩ rfl (Nat.le_of_ble_eq_true rfl) hL (t_X6_get F st sa sh hL hs.2.2.1 _ _ _ hc3) ?_
    refine nd_if_leN dX9_beWidowed_20 39 (by decide) h (fun h => ?_) (fun h => ?_)
    · exact b_X9_beWidowed_39 F b a st sa sh hL hs _ _ h
    · refine nd_aload_n dX9_beWidowed_23 0 rfl ?_
      refine nd_get dX9_beWidowed_24 gf_X9_9 hs.1 rfl ?_
      refine nd_iload_n dX9_beWidowed_27 1 rfl ?_
      refine nd_iconst dX9_beWidowed_28 ic_0 ?_
      obtain ⟨r4, σ5, hc6, h⟩ := nd_bind_e h
      refine nd_cvi [.int x1, .int (0 : Int32)] [] dX9_beWidowed_29 cl_X9_42 hs.2.2.1.1 ⟨Nat.le_of_ble_eq_true rfl, Nat.le_of_ble_eq_true rfl⟩ rfl (Nat.le_of_ble_eq_true rfl) hL (t_X6_get F st sa sh hL hs.2.2.1 _ _ _ hc6) ?_
      refine nd_if_neN dX9_beWidowed_32 39 (by decide) h (fun h => ?_) (fun h => ?_)
      · exact b_X9_beWidowed_39 F b a st sa sh hL hs _ _ h
      · refine nd_iconst dX9_beWidowed_35 ic_1 ?_
        refine nd_goto dX9_beWidowed_36 40 (by decide) ?_
        exact b_X9_beWidowed_40 F b a st sa sh hL hs _ _ _ h
def f_X9_isLucky_42 (F : Nat) (b a st sa : Nat) (σ : nd_Mem) : nd_Res := (some ((0 : Int32), σ))
def f_X9_isLucky (F : Nat) (b a st sa : Nat) (x1 : Int32) (σ : nd_Mem) : nd_Res := (if (σ b 3) = 0 then (if x1 ≤ 0 then (f_X9_isLucky_42 F b a st sa σ) else (nd_bind (f_X6_draw F st sa (1000 : Int32) σ) fun r1 σ2 => (if x1 ≤ r1 then (f_X9_isLucky_42 F b a st sa σ2) else (some ((1 : Int32), σ2))))) else (if x1 < (500 : Int32) then (some ((0 : Int32), σ)) else (some ((1 : Int32), σ))))
set_option maxRecDepth 100000 in
set_option maxHeartbeats 4000000 in
theorem b_X9_isLucky_42 (F : Nat) (b a st sa : Nat) (sh : List nd_S) (hL : sh.length < nd_ro) (hs : is_Walk sh b a st sa) {z : Int32 × nd_Mem} (σ : nd_Mem) (h : f_X9_isLucky_42 F b a st sa σ = some z) : nd_V M_X9_isLucky (nd_rm 1) (nd_Pi sh z) 0 0 42 [(0, .ref b)] [] sh σ := by
  unfold f_X9_isLucky_42 at h
  refine nd_iconst dX9_isLucky_42 ic_0 ?_
  exact nd_iret dX9_isLucky_43 (Nat.zero_le _) (Nat.zero_le _) rfl (by cases h; exact ⟨rfl, rfl, rfl⟩)
set_option maxRecDepth 100000 in
set_option maxHeartbeats 4000000 in
theorem t_X9_isLucky (F : Nat) (b a st sa : Nat) (sh : List nd_S) (hL : sh.length < nd_ro) (hs : is_Walk sh b a st sa) {z : Int32 × nd_Mem} (x1 : Int32) (σ : nd_Mem) (h : f_X9_isLucky F b a st sa x1 σ = some z) : nd_Fn M_X9_isLucky (nd_rm 1) [.ref b, .int x1] sh σ (nd_Pi sh z) := by
  refine nd_Fn.ofV (ls := [(0, .ref b), (1, .int x1)]) pl_X9_isLucky rfl (fun _ => Nat.le_of_ble_eq_true rfl) (fun _ => rfl) ?_
  unfold f_X9_isLucky at h
  refine nd_aload_n dX9_isLucky_0 0 rfl ?_
  refine nd_get dX9_isLucky_1 gf_X9_23 hs.1 rfl ?_
  refine nd_if_eqN dX9_isLucky_4 20 (by decide) h (fun h => ?_) (fun h => ?_)
  · refine nd_iload_n dX9_isLucky_20 1 rfl ?_
    refine nd_if_leN dX9_isLucky_21 42 (by decide) h (fun h => ?_) (fun h => ?_)
    · refine nd_sub [0] rfl ?_
      exact b_X9_isLucky_42 F b a st sa sh hL hs _ h
    · refine nd_aload_n dX9_isLucky_24 0 rfl ?_
      refine nd_get dX9_isLucky_25 gf_X9_9 hs.1 rfl ?_
      refine nd_sipush dX9_isLucky_28 is_1000 ?_
      obtain ⟨r1, σ2, hc3, h⟩ := nd_bind_e h
      refine nd_cvi [.int (1000 : Int32)] [] dX9_isLucky_31 cl_X9_120 hs.2.2.1.1 ⟨Nat.le_of_ble_eq_true rfl, Nat.le_of_ble_eq_true rfl⟩ rfl (Nat.le_of_ble_eq_true rfl) hL (t_X6_draw F st sa sh hL hs.2.2.1 _ _ hc3) ?_
      refine nd_iload_n dX9_isLucky_34 1 rfl ?_
      refine nd_icmp_geN dX9_isLucky_35 42 (by decide) h (fun h => ?_) (fun h => ?_)
      · refine nd_sub [0] rfl ?_
        exact b_X9_isLucky_42 F b a st sa sh hL hs _ h
      · refine nd_iconst dX9_isLucky_38 ic_1 ?_
        refine nd_goto dX9_isLucky_39 43 (by decide) ?_
        exact nd_iret dX9_isLucky_43 (Nat.zero_le _) (Nat.zero_le _) rfl (by cases h; exact ⟨rfl, rfl, rfl⟩)
  · refine nd_iload_n dX9_isLucky_7 1 rfl ?_
    refine nd_sipush dX9_isLucky_8 is_500 ?_
    refine nd_icmp_ltN dX9_isLucky_11 18 (by decide) h (fun h => ?_) (fun h => ?_)
    · refine nd_iconst dX9_isLucky_18 ic_0 ?_
      exact nd_iret dX9_isLucky_19 (Nat.zero_le _) (Nat.zero_le _) rfl (by cases h; exact ⟨rfl, rfl, rfl⟩)
    · refine nd_iconst dX9_isLucky_14 ic_1 ?_
      refine nd_goto dX9_isLucky_15 19 (by decide) ?_
      exact nd_iret dX9_isLucky_19 (Nat.zero_le _) (Nat.zero_le _) rfl (by cases h; exact ⟨rfl, rfl, rfl⟩)
def f_X9_mostFor (F : Nat) (b a st sa : Nat) (x1 : Int32) (x2 : Int32) (σ : nd_Mem) : nd_Res := (if x1 = (0 : Int32) then (some ((1000 : Int32), σ)) else (if x1 = (1 : Int32) then (some ((5 : Int32), σ)) else (nd_bind (f_X6_get F st sa x2 (2 : Int32) σ) fun r3 σ4 => (some (r3, σ4)))))
set_option maxRecDepth 100000 in
set_option maxHeartbeats 4000000 in
theorem t_X9_mostFor (F : Nat) (b a st sa : Nat) (sh : List nd_S) (hL : sh.length < nd_ro) (hs : is_Walk sh b a st sa) {z : Int32 × nd_Mem} (x1 : Int32) (x2 : Int32) (σ : nd_Mem) (h : f_X9_mostFor F b a st sa x1 x2 σ = some z) : nd_Fn M_X9_mostFor (nd_rm 1) [.ref b, .int x1, .int x2] sh σ (nd_Pi sh z) := by
  refine nd_Fn.ofV (ls := [(0, .ref b), (1, .int x1), (2, .int x2)]) pl_X9_mostFor rfl (fun _ => Nat.le_of_ble_eq_true rfl) (fun _ => rfl) ?_
  unfold f_X9_mostFor at h
  refine nd_iload_n dX9_mostFor_0 1 rfl ?_
  rcases nd_ite_e h with ⟨c1, h⟩ | ⟨c1, h⟩
  · refine nd_look dX9_mostFor_1 (by decide) (by rw [c1] <;> decide) 28 (by decide) ?_
    refine nd_sipush dX9_mostFor_28 is_1000 ?_
    exact nd_iret dX9_mostFor_31 (Nat.zero_le _) (Nat.zero_le _) (vp_nar_int _) (by cases h; exact ⟨rfl, rfl, rfl⟩)
  rcases nd_ite_e h with ⟨c2, h⟩ | ⟨c2, h⟩
  · refine nd_look dX9_mostFor_1 (by decide) (by rw [c2] <;> decide) 32 (by decide) ?_
    refine nd_iconst dX9_mostFor_32 ic_5 ?_
    exact nd_iret dX9_mostFor_33 (Nat.zero_le _) (Nat.zero_le _) (vp_nar_int _) (by cases h; exact ⟨rfl, rfl, rfl⟩)
  refine nd_look dX9_mostFor_1 (by decide) (nd_lookD _ ?_) 34 (by decide) ?_
  · intro q hq
    simp only [List.mem_cons, List.not_mem_nil, or_false] at hq
    rcases hq with rfl | rfl
    · exact fun e => c1 (e.trans ic_0)
    · exact fun e => c2 (e.trans ic_1)
  · refine nd_aload_n dX9_mostFor_34 0 rfl ?_
    refine nd_get dX9_mostFor_35 gf_X9_9 hs.1 rfl ?_
    refine nd_iload_n dX9_mostFor_38 2 rfl ?_
    refine nd_iconst dX9_mostFor_39 ic_2 ?_
    obtain ⟨r3, σ4, hc5, h⟩ := nd_bind_e h
    refine nd_cvi [.int x2, .int (2 : Int32)] [] dX9_mostFor_40 cl_X9_42 hs.2.2.1.1 ⟨Nat.le_of_ble_eq_true rfl, Nat.le_of_ble_eq_true rfl⟩ rfl (Nat.le_of_ble_eq_true rfl) hL (t_X6_get F st sa sh hL hs.2.2.1 _ _ _ hc5) ?_
    exact nd_iret dX9_mostFor_43 (Nat.zero_le _) (Nat.zero_le _) (vp_nar_int _) (by cases h; exact ⟨rfl, rfl, rfl⟩)
def f_X9_named (F : Nat) (b a st sa : Nat) (x1 : Int32) (x2 : Int32) (σ : nd_Mem) : nd_Res := (if x1 = (7 : Int32) then (nd_bind (f_X6_get F st sa x2 (0 : Int32) σ) fun r2 σ3 => (some (r2, σ3))) else (if x1 = (8 : Int32) then (nd_bind (f_X6_get F st sa x2 (1 : Int32) σ) fun r6 σ7 => (some (r6, σ7))) else (if x1 = (9 : Int32) then (nd_bind (f_X6_get F st sa x2 (3 : Int32) σ) fun r10 σ11 => (some (r10, σ11))) else (if x1 = (10 : Int32) then (nd_bind (f_X6_get F st sa x2 (2 : Int32) σ) fun r14 σ15 => (some (r14, σ15))) else (if x1 = (11 : Int32) then (nd_bind (f_X6_get F st sa x2 (4 : Int32) σ) fun r18 σ19 => (some (r18, σ19))) else (if x1 = (12 : Int32) then (some (x2, σ)) else (if x1 = (13 : Int32) then (nd_bind (f_X5_sideOf F 3 x2 σ) fun r23 σ24 => (some (r23, σ24))) else (if x1 = (14 : Int32) then (if (σ st 2) = x2 then (some ((1 : Int32), σ)) else (some ((0 : Int32), σ))) else (if x1 = (15 : Int32) then (some ((σ st 4), σ)) else (some ((σ st 6), σ)))))))))))
set_option maxRecDepth 100000 in
set_option maxHeartbeats 4000000 in
theorem t_X9_named (F : Nat) (b a st sa : Nat) (sh : List nd_S) (hL : sh.length < nd_ro) (hs : is_Walk sh b a st sa) {z : Int32 × nd_Mem} (x1 : Int32) (x2 : Int32) (σ : nd_Mem) (h : f_X9_named F b a st sa x1 x2 σ = some z) : nd_Fn M_X9_named (nd_rm 1) [.ref b, .int x1, .int x2] sh σ (nd_Pi sh z) := by
  refine nd_Fn.ofV (ls := [(0, .ref b), (1, .int x1), (2, .int x2)]) pl_X9_named rfl (fun _ => Nat.le_of_ble_eq_true rfl) (fun _ => rfl) ?_
  unfold f_X9_named at h
  refine nd_iload_n dX9_named_0 1 rfl ?_
  rcases nd_ite_e h with ⟨c1, h⟩ | ⟨c1, h⟩
  · refine nd_tin dX9_named_1 0 (by rw [c1] <;> decide) (by rw [c1] <;> decide) rfl 52 (by decide) ?_
    refine nd_aload_n dX9_named_52 0 rfl ?_
    refine nd_get dX9_named_53 gf_X9_9 hs.1 rfl ?_
    refine nd_iload_n dX9_named_56 2 rfl ?_
    refine nd_iconst dX9_named_57 ic_0 ?_
    obtain ⟨r2, σ3, hc4, h⟩ := nd_bind_e h
    refine nd_cvi [.int x2, .int (0 : Int32)] [] dX9_named_58 cl_X9_42 hs.2.2.1.1 ⟨Nat.le_of_ble_eq_true rfl, Nat.le_of_ble_eq_true rfl⟩ rfl (Nat.le_of_ble_eq_true rfl) hL (t_X6_get F st sa sh hL hs.2.2.1 _ _ _ hc4) ?_
    exact nd_iret dX9_named_61 (Nat.zero_le _) (Nat.zero_le _) (vp_nar_int _) (by cases h; exact ⟨rfl, rfl, rfl⟩)
  rcases nd_ite_e h with ⟨c5, h⟩ | ⟨c5, h⟩
  · refine nd_tin dX9_named_1 1 (by rw [c5] <;> decide) (by rw [c5] <;> decide) rfl 62 (by decide) ?_
    refine nd_aload_n dX9_named_62 0 rfl ?_
    refine nd_get dX9_named_63 gf_X9_9 hs.1 rfl ?_
    refine nd_iload_n dX9_named_66 2 rfl ?_
    refine nd_iconst dX9_named_67 ic_1 ?_
    obtain ⟨r6, σ7, hc8, h⟩ := nd_bind_e h
    refine nd_cvi [.int x2, .int (1 : Int32)] [] dX9_named_68 cl_X9_42 hs.2.2.1.1 ⟨Nat.le_of_ble_eq_true rfl, Nat.le_of_ble_eq_true rfl⟩ rfl (Nat.le_of_ble_eq_true rfl) hL (t_X6_get F st sa sh hL hs.2.2.1 _ _ _ hc8) ?_
    exact nd_iret dX9_named_71 (Nat.zero_le _) (Nat.zero_le _) (vp_nar_int _) (by cases h; exact ⟨rfl, rfl, rfl⟩)
  rcases nd_ite_e h with ⟨c9, h⟩ | ⟨c9, h⟩
  · refine nd_tin dX9_named_1 2 (by rw [c9] <;> decide) (by rw [c9] <;> decide) rfl 72 (by decide) ?_
    refine nd_aload_n dX9_named_72 0 rfl ?_
    refine nd_get dX9_named_73 gf_X9_9 hs.1 rfl ?_
    refine nd_iload_n dX9_named_76 2 rfl ?_
    refine nd_iconst dX9_named_77 ic_3 ?_
    obtain ⟨r10, σ11, hc12, h⟩ := nd_bind_e h
    refine nd_cvi [.int x2, .int (3 : Int32)] [] dX9_named_78 cl_X9_42 hs.2.2.1.1 ⟨Nat.le_of_ble_eq_true rfl, Nat.le_of_ble_eq_true rfl⟩ rfl (Nat.le_of_ble_eq_true rfl) hL (t_X6_get F st sa sh hL hs.2.2.1 _ _ _ hc12) ?_
    exact nd_iret dX9_named_81 (Nat.zero_le _) (Nat.zero_le _) (vp_nar_int _) (by cases h; exact ⟨rfl, rfl, rfl⟩)
  rcases nd_ite_e h with ⟨c13, h⟩ | ⟨c13, h⟩
  · refine nd_tin dX9_named_1 3 (by rw [c13] <;> decide) (by rw [c13] <;> decide) rfl 82 (by decide) ?_
    refine nd_aload_n dX9_named_82 0 rfl ?_
    refine nd_get dX9_named_83 gf_X9_9 hs.1 rfl ?_
    refine nd_iload_n dX9_named_86 2 rfl ?_
    refine nd_iconst dX9_named_87 ic_2 ?_
    obtain ⟨r14, σ15, hc16, h⟩ := nd_bind_e h
    refine nd_cvi [.int x2, .int (2 : Int32)] [] dX9_named_88 cl_X9_42 hs.2.2.1.1 ⟨Nat.le_of_ble_eq_true rfl, Nat.le_of_ble_eq_true rfl⟩ rfl (Nat.le_of_ble_eq_true rfl) hL (t_X6_get F st sa sh hL hs.2.2.1 _ _ _ hc16) ?_
    exact nd_iret dX9_named_91 (Nat.zero_le _) (Nat.zero_le _) (vp_nar_int _) (by cases h; exact ⟨rfl, rfl, rfl⟩)
  rcases nd_ite_e h with ⟨c17, h⟩ | ⟨c17, h⟩
  · refine nd_tin dX9_named_1 4 (by rw [c17] <;> decide) (by rw [c17] <;> decide) rfl 92 (by decide) ?_
    refine nd_aload_n dX9_named_92 0 rfl ?_
    refine nd_get dX9_named_93 gf_X9_9 hs.1 rfl ?_
    refine nd_iload_n dX9_named_96 2 rfl ?_
    refine nd_iconst dX9_named_97 ic_4 ?_
    obtain ⟨r18, σ19, hc20, h⟩ := nd_bind_e h
    refine nd_cvi [.int x2, .int (4 : Int32)] [] dX9_named_98 cl_X9_42 hs.2.2.1.1 ⟨Nat.le_of_ble_eq_true rfl, Nat.le_of_ble_eq_true rfl⟩ rfl (Nat.le_of_ble_eq_true rfl) hL (t_X6_get F st sa sh hL hs.2.2.1 _ _ _ hc20) ?_
    exact nd_iret dX9_named_101 (Nat.zero_le _) (Nat.zero_le _) (vp_nar_int _) (by cases h; exact ⟨rfl, rfl, rfl⟩)
  rcases nd_ite_e h with ⟨c21, h⟩ | ⟨c21, h⟩
  · refine nd_tin dX9_named_1 5 (by rw [c21] <;> decide) (by rw [c21] <;> decide) rfl 102 (by decide) ?_
    refine nd_iload_n dX9_named_102 2 rfl ?_
    exact nd_iret dX9_named_103 (Nat.zero_le _) (Nat.zero_le _) (vp_nar_int _) (by cases h; exact ⟨rfl, rfl, rfl⟩)
  rcases nd_ite_e h with ⟨c22, h⟩ | ⟨c22, h⟩
  · refine nd_tin dX9_named_1 6 (by rw [c22] <;> decide) (by rw [c22] <;> decide) rfl 104 (by decide) ?_
    refine nd_aload_n dX9_named_104 0 rfl ?_
    refine nd_get dX9_named_105 gf_X9_15 hs.1 rfl ?_
    refine nd_iload_n dX9_named_108 2 rfl ?_
    obtain ⟨r23, σ24, hc25, h⟩ := nd_bind_e h
    refine nd_cvi [.int x2] [] dX9_named_109 cl_X9_85 hs.2.2.2.1.1 ⟨Nat.le_of_ble_eq_true rfl, Nat.le_of_ble_eq_true rfl⟩ rfl (Nat.le_of_ble_eq_true rfl) hL (t_X5_sideOf F 3 sh hL hs.2.2.2.1 _ _ hc25) ?_
    exact nd_iret dX9_named_112 (Nat.zero_le _) (Nat.zero_le _) (vp_nar_int _) (by cases h; exact ⟨rfl, rfl, rfl⟩)
  rcases nd_ite_e h with ⟨c26, h⟩ | ⟨c26, h⟩
  · refine nd_tin dX9_named_1 7 (by rw [c26] <;> decide) (by rw [c26] <;> decide) rfl 113 (by decide) ?_
    refine nd_aload_n dX9_named_113 0 rfl ?_
    refine nd_get dX9_named_114 gf_X9_9 hs.1 rfl ?_
    refine nd_get dX9_named_117 gf_X9_71 hs.2.2.1.1 rfl ?_
    refine nd_iload_n dX9_named_120 2 rfl ?_
    refine nd_icmp_neN dX9_named_121 128 (by decide) h (fun h => ?_) (fun h => ?_)
    · refine nd_iconst dX9_named_128 ic_0 ?_
      exact nd_iret dX9_named_129 (Nat.zero_le _) (Nat.zero_le _) (vp_nar_int _) (by cases h; exact ⟨rfl, rfl, rfl⟩)
    · refine nd_iconst dX9_named_124 ic_1 ?_
      refine nd_goto dX9_named_125 129 (by decide) ?_
      exact nd_iret dX9_named_129 (Nat.zero_le _) (Nat.zero_le _) (vp_nar_int _) (by cases h; exact ⟨rfl, rfl, rfl⟩)
  rcases nd_ite_e h with ⟨c27, h⟩ | ⟨c27, h⟩
  · refine nd_tin dX9_named_1 8 (by rw [c27] <;> decide) (by rw [c27] <;> decide) rfl 130 (by decide) ?_
    refine nd_aload_n dX9_named_130 0 rfl ?_
    refine nd_get dX9_named_131 gf_X9_9 hs.1 rfl ?_
    refine nd_get dX9_named_134 gf_X9_105 hs.2.2.1.1 rfl ?_
    exact nd_iret dX9_named_137 (Nat.zero_le _) (Nat.zero_le _) (vp_nar_int _) (by cases h; exact ⟨rfl, rfl, rfl⟩)
  refine nd_tout dX9_named_1 (fun j h1 h2 => ?_) 138 (by decide) ?_
  · rcases (show j = 7 ∨ j = 8 ∨ j = 9 ∨ j = 10 ∨ j = 11 ∨ j = 12 ∨ j = 13 ∨ j = 14 ∨ j = 15 by omega) with rfl | rfl | rfl | rfl | rfl | rfl | rfl | rfl | rfl
    · exact fun e => c1 (e.trans ic_7)
    · exact fun e => c5 (e.trans ic_8)
    · exact fun e => c9 (e.trans ic_9)
    · exact fun e => c13 (e.trans ic_10)
    · exact fun e => c17 (e.trans ic_11)
    · exact fun e => c21 (e.trans ic_12)
    · exact fun e => c22 (e.trans ic_13)
    · exact fun e => c26 (e.trans ic_14)
    · exact fun e => c27 (e.trans ic_15)
  · refine nd_aload_n dX9_named_138 0 rfl ?_
    refine nd_get dX9_named_139 gf_X9_9 hs.1 rfl ?_
    refine nd_get dX9_named_142 gf_X9_56 hs.2.2.1.1 rfl ?_
    exact nd_iret dX9_named_145 (Nat.zero_le _) (Nat.zero_le _) (vp_nar_int _) (by cases h; exact ⟨rfl, rfl, rfl⟩)
def f_X9_nextOf_66 (F : Nat) (b a st sa : Nat) (σ : nd_Mem) : nd_Res := (some ((-1 : Int32), σ))
def f_X9_nextOf_24_b (F : Nat) (rec24 : Int32 → Int32 → Int32 → nd_Mem → nd_Res) (b a st sa : Nat) (x2 : Int32) (x3 : Int32) (x4 : Int32) (σ : nd_Mem) : nd_Res := (if x4 < 0 then (f_X9_nextOf_66 F b a st sa σ) else (if (σ st 1) ≤ x4 then (f_X9_nextOf_66 F b a st sa σ) else (nd_bind (f_X5_sideOf F 3 x4 σ) fun r1 σ2 => (if r1 = x2 then (some (x4, σ2)) else (rec24 x2 x3 (x4 + x3) σ2)))))
def f_X9_nextOf_24 (F : Nat) (b a st sa : Nat) : Nat → Int32 → Int32 → Int32 → nd_Mem → nd_Res
  | 0, _, _, _, _ => none
  | m9 + 1, x2, x3, x4, σ => f_X9_nextOf_24_b F (f_X9_nextOf_24 F b a st sa m9) b a st sa x2 x3 x4 σ
def f_X9_nextOf_18 (F : Nat) (b a st sa : Nat) (x1 : Int32) (x2 : Int32) (s0 : Int32) (σ : nd_Mem) : nd_Res := (f_X9_nextOf_24 F b a st sa F x2 s0 (x1 + s0) σ)
def f_X9_nextOf (F : Nat) (b a st sa : Nat) (x1 : Int32) (σ : nd_Mem) : nd_Res := (nd_bind (f_X5_sideOf F 3 x1 σ) fun r1 σ2 => (if r1 = 0 then (f_X9_nextOf_18 F b a st sa x1 r1 (1 : Int32) σ2) else (f_X9_nextOf_18 F b a st sa x1 r1 (-1 : Int32) σ2)))
set_option maxRecDepth 100000 in
set_option maxHeartbeats 4000000 in
theorem b_X9_nextOf_66 (F : Nat) (b a st sa : Nat) (sh : List nd_S) (hL : sh.length < nd_ro) (hs : is_Walk sh b a st sa) {z : Int32 × nd_Mem} (σ : nd_Mem) (h : f_X9_nextOf_66 F b a st sa σ = some z) : nd_V M_X9_nextOf (nd_rm 1) (nd_Pi sh z) 0 0 66 [(0, .ref b)] [] sh σ := by
  unfold f_X9_nextOf_66 at h
  refine nd_iconst dX9_nextOf_66 ic_m1 ?_
  exact nd_iret dX9_nextOf_67 (Nat.zero_le _) (Nat.zero_le _) (vp_nar_int _) (by cases h; exact ⟨rfl, rfl, rfl⟩)
set_option maxRecDepth 100000 in
set_option maxHeartbeats 4000000 in
theorem b_X9_nextOf_24 (F : Nat) (b a st sa : Nat) (sh : List nd_S) (hL : sh.length < nd_ro) (hs : is_Walk sh b a st sa) {z : Int32 × nd_Mem} (m9 : Nat) : ∀ (x2 : Int32) (x3 : Int32) (x4 : Int32) (σ : nd_Mem), f_X9_nextOf_24 F b a st sa m9 x2 x3 x4 σ = some z → nd_V M_X9_nextOf (nd_rm 1) (nd_Pi sh z) 0 0 24 [(0, .ref b), (2, .int x2), (3, .int x3), (4, .int x4)] [] sh σ := by
  induction m9 with
  | zero =>
    intro x2 x3 x4 σ h
    have h : none = some z := h
    cases h
  | succ m9 hrec24 =>
    intro x2 x3 x4 σ h
    have h : f_X9_nextOf_24_b F (f_X9_nextOf_24 F b a st sa m9) b a st sa x2 x3 x4 σ = some z := h
    unfold f_X9_nextOf_24_b at h
    refine nd_iload dX9_nextOf_24 3 rfl ?_
    refine nd_if_ltN dX9_nextOf_26 66 (by decide) h (fun h => ?_) (fun h => ?_)
    · refine nd_sub [0] rfl ?_
      exact b_X9_nextOf_66 F b a st sa sh hL hs _ h
    · refine nd_iload dX9_nextOf_29 3 rfl ?_
      refine nd_aload_n dX9_nextOf_31 0 rfl ?_
      refine nd_get dX9_nextOf_32 gf_X9_9 hs.1 rfl ?_
      refine nd_get dX9_nextOf_35 gf_X9_37 hs.2.2.1.1 rfl ?_
      refine nd_icmp_geN dX9_nextOf_38 66 (by decide) h (fun h => ?_) (fun h => ?_)
      · refine nd_sub [0] rfl ?_
        exact b_X9_nextOf_66 F b a st sa sh hL hs _ h
      · refine nd_aload_n dX9_nextOf_41 0 rfl ?_
        refine nd_get dX9_nextOf_42 gf_X9_15 hs.1 rfl ?_
        refine nd_iload dX9_nextOf_45 3 rfl ?_
        obtain ⟨r1, σ2, hc3, h⟩ := nd_bind_e h
        refine nd_cvi [.int x4] [] dX9_nextOf_47 cl_X9_85 hs.2.2.2.1.1 ⟨Nat.le_of_ble_eq_true rfl, Nat.le_of_ble_eq_true rfl⟩ rfl (Nat.le_of_ble_eq_true rfl) hL (t_X5_sideOf F 3 sh hL hs.2.2.2.1 _ _ hc3) ?_
        refine nd_iload_n dX9_nextOf_50 1 rfl ?_
        refine nd_icmp_neN dX9_nextOf_51 57 (by decide) h (fun h => ?_) (fun h => ?_)
        · refine nd_iload dX9_nextOf_57 3 rfl ?_
          refine nd_iload_n dX9_nextOf_59 2 rfl ?_
          refine nd_iadd dX9_nextOf_60 ?_
          refine nd_istore (ls' := [(4, .int (x4 + x3)), (0, .ref b), (2, .int x2), (3, .int x3)]) dX9_nextOf_61 (by decide) rfl ?_
          refine nd_goto dX9_nextOf_63 24 (by decide) ?_
          refine nd_sub [1, 2, 3, 0] rfl ?_
          exact hrec24 _ _ _ _ h
        · refine nd_iload dX9_nextOf_54 3 rfl ?_
          exact nd_iret dX9_nextOf_56 (Nat.zero_le _) (Nat.zero_le _) (vp_nar_int _) (by cases h; exact ⟨rfl, rfl, rfl⟩)
set_option maxRecDepth 100000 in
set_option maxHeartbeats 4000000 in
theorem b_X9_nextOf_18 (F : Nat) (b a st sa : Nat) (sh : List nd_S) (hL : sh.length < nd_ro) (hs : is_Walk sh b a st sa) {z : Int32 × nd_Mem} (x1 : Int32) (x2 : Int32) (s0 : Int32) (σ : nd_Mem) (h : f_X9_nextOf_18 F b a st sa x1 x2 s0 σ = some z) : nd_V M_X9_nextOf (nd_rm 1) (nd_Pi sh z) 0 0 18 [(0, .ref b), (1, .int x1), (2, .int x2)] [.int s0] sh σ := by
  unfold f_X9_nextOf_18 at h
  refine nd_istore_n (ls' := [(3, .int s0), (0, .ref b), (1, .int x1), (2, .int x2)]) dX9_nextOf_18 (by decide) rfl ?_
  refine nd_iload_n dX9_nextOf_19 2 rfl ?_
  refine nd_iload_n dX9_nextOf_20 0 rfl ?_
  refine nd_iadd dX9_nextOf_21 ?_
  refine nd_istore (ls' := [(4, .int (x1 + s0)), (3, .int s0), (0, .ref b), (1, .int x1), (2, .int x2)]) dX9_nextOf_22 (by decide) rfl ?_
  refine nd_sub [2, 4, 1, 0] rfl ?_
  exact b_X9_nextOf_24 F b a st sa sh hL hs F _ _ _ _ h
set_option maxRecDepth 100000 in
set_option maxHeartbeats 4000000 in
theorem t_X9_nextOf (F : Nat) (b a st sa : Nat) (sh : List nd_S) (hL : sh.length < nd_ro) (hs : is_Walk sh b a st sa) {z : Int32 × nd_Mem} (x1 : Int32) (σ : nd_Mem) (h : f_X9_nextOf F b a st sa x1 σ = some z) : nd_Fn M_X9_nextOf (nd_rm 1) [.ref b, .int x1] sh σ (nd_Pi sh z) := by
  refine nd_Fn.ofV (ls := [(0, .ref b), (1, .int x1)]) pl_X9_nextOf rfl (fun _ => Nat.le_of_ble_eq_true rfl) (fun _ => rfl) ?_
  unfold f_X9_nextOf at h
  refine nd_aload_n dX9_nextOf_0 0 rfl ?_
  refine nd_get dX9_nextOf_1 gf_X9_15 hs.1 rfl ?_
  refine nd_iload_n dX9_nextOf_4 1 rfl ?_
  obtain ⟨r1, σ2, hc3, h⟩ := nd_bind_e h
  refine nd_cvi [.int x1] [] dX9_nextOf_5 cl_X9_85 hs.2.2.2.1.1 ⟨Nat.le_of_ble_eq_true rfl, Nat.le_of_ble_eq_true rfl⟩ rfl (Nat.le_of_ble_eq_true rfl) hL (t_X5_sideOf F 3 sh hL hs.2.2.2.1 _ _ hc3) ?_
  refine nd_istore_n (ls' := [(2, .int r1), (0, .ref b), (1, .int x1)]) dX9_nextOf_8 (by decide) rfl ?_
  refine nd_iload_n dX9_nextOf_9 0 rfl ?_
  refine nd_if_neN dX9_nextOf_10 17 (by decide) h (fun h => ?_) (fun h => ?_)
  · refine nd_iconst dX9_nextOf_17 ic_m1 ?_
    refine nd_sub [1, 2, 0] rfl ?_
    exact b_X9_nextOf_18 F b a st sa sh hL hs _ _ _ _ h
  · refine nd_iconst dX9_nextOf_13 ic_1 ?_
    refine nd_goto dX9_nextOf_14 18 (by decide) ?_
    refine nd_sub [1, 2, 0] rfl ?_
    exact b_X9_nextOf_18 F b a st sa sh hL hs _ _ _ _ h
def f_X9_usual (F : Nat) (b a st sa : Nat) (x1 : Int32) (x2 : Int32) (σ : nd_Mem) : nd_Res := (if x1 = (0 : Int32) then (some (((800 : Int32) - ((100 : Int32) * (σ st 4))), σ)) else (if x1 = (1 : Int32) then (some ((2 : Int32), σ)) else (nd_bind (f_X6_get F st sa x2 (2 : Int32) σ) fun r3 σ4 => (some ((r3 / (2 : Int32)), σ4)))))
set_option maxRecDepth 100000 in
set_option maxHeartbeats 4000000 in
theorem t_X9_usual (F : Nat) (b a st sa : Nat) (sh : List nd_S) (hL : sh.length < nd_ro) (hs : is_Walk sh b a st sa) {z : Int32 × nd_Mem} (x1 : Int32) (x2 : Int32) (σ : nd_Mem) (h : f_X9_usual F b a st sa x1 x2 σ = some z) : nd_Fn M_X9_usual (nd_rm 1) [.ref b, .int x1, .int x2] sh σ (nd_Pi sh z) := by
  refine nd_Fn.ofV (ls := [(0, .ref b), (1, .int x1), (2, .int x2)]) pl_X9_usual rfl (fun _ => Nat.le_of_ble_eq_true rfl) (fun _ => rfl) ?_
  unfold f_X9_usual at h
  refine nd_iload_n dX9_usual_0 1 rfl ?_
  rcases nd_ite_e h with ⟨c1, h⟩ | ⟨c1, h⟩
  · refine nd_look dX9_usual_1 (by decide) (by rw [c1] <;> decide) 28 (by decide) ?_
    refine nd_sipush dX9_usual_28 is_800 ?_
    refine nd_bipush dX9_usual_31 ib_100 ?_
    refine nd_aload_n dX9_usual_33 0 rfl ?_
    refine nd_get dX9_usual_34 gf_X9_9 hs.1 rfl ?_
    refine nd_get dX9_usual_37 gf_X9_105 hs.2.2.1.1 rfl ?_
    refine nd_imul dX9_usual_40 ?_
    refine nd_isub dX9_usual_41 ?_
    exact nd_iret dX9_usual_42 (Nat.zero_le _) (Nat.zero_le _) (vp_nar_int _) (by cases h; exact ⟨rfl, rfl, rfl⟩)
  rcases nd_ite_e h with ⟨c2, h⟩ | ⟨c2, h⟩
  · refine nd_look dX9_usual_1 (by decide) (by rw [c2] <;> decide) 43 (by decide) ?_
    refine nd_iconst dX9_usual_43 ic_2 ?_
    exact nd_iret dX9_usual_44 (Nat.zero_le _) (Nat.zero_le _) (vp_nar_int _) (by cases h; exact ⟨rfl, rfl, rfl⟩)
  refine nd_look dX9_usual_1 (by decide) (nd_lookD _ ?_) 45 (by decide) ?_
  · intro q hq
    simp only [List.mem_cons, List.not_mem_nil, or_false] at hq
    rcases hq with rfl | rfl
    · exact fun e => c1 (e.trans ic_0)
    · exact fun e => c2 (e.trans ic_1)
  · refine nd_aload_n dX9_usual_45 0 rfl ?_
    refine nd_get dX9_usual_46 gf_X9_9 hs.1 rfl ?_
    refine nd_iload_n dX9_usual_49 2 rfl ?_
    refine nd_iconst dX9_usual_50 ic_2 ?_
    obtain ⟨r3, σ4, hc5, h⟩ := nd_bind_e h
    refine nd_cvi [.int x2, .int (2 : Int32)] [] dX9_usual_51 cl_X9_42 hs.2.2.1.1 ⟨Nat.le_of_ble_eq_true rfl, Nat.le_of_ble_eq_true rfl⟩ rfl (Nat.le_of_ble_eq_true rfl) hL (t_X6_get F st sa sh hL hs.2.2.1 _ _ _ hc5) ?_
    refine nd_iconst dX9_usual_54 ic_2 ?_
    refine nd_idiv dX9_usual_55 (by decide) ?_
    exact nd_iret dX9_usual_56 (Nat.zero_le _) (Nat.zero_le _) (vp_nar_int _) (by cases h; exact ⟨rfl, rfl, rfl⟩)
def f_X9_canGo_47 (F : Nat) (b a st sa : Nat) (σ : nd_Mem) : nd_Res := (some ((0 : Int32), σ))
def f_X9_canGo (F : Nat) (b a st sa : Nat) (x1 : Int32) (x2 : Int32) (σ : nd_Mem) : nd_Res := (if x2 = (-1 : Int32) then (some ((1 : Int32), σ)) else (nd_bind (f_X6_get F st sa x2 (1 : Int32) σ) fun r1 σ2 => (if r1 ≤ 0 then (f_X9_canGo_47 F b a st sa σ2) else (nd_bind (f_X6_get F st sa x2 (4 : Int32) σ2) fun r4 σ5 => (if r4 = 0 then (nd_bind (f_X5_feud F 3 x1 x2 σ5) fun r7 σ8 => (if r7 = 0 then (some ((1 : Int32), σ8)) else (f_X9_canGo_47 F b a st sa σ8))) else (f_X9_canGo_47 F b a st sa σ5))))))
set_option maxRecDepth 100000 in
set_option maxHeartbeats 4000000 in
theorem b_X9_canGo_47 (F : Nat) (b a st sa : Nat) (sh : List nd_S) (hL : sh.length < nd_ro) (hs : is_Walk sh b a st sa) {z : Int32 × nd_Mem} (σ : nd_Mem) (h : f_X9_canGo_47 F b a st sa σ = some z) : nd_V M_X9_canGo (nd_rm 2) (nd_Pi sh z) 0 0 47 [(0, .ref b)] [] sh σ := by
  unfold f_X9_canGo_47 at h
  refine nd_iconst dX9_canGo_47 ic_0 ?_
  exact nd_iret dX9_canGo_48 (Nat.zero_le _) (Nat.zero_le _) rfl (by cases h; exact ⟨rfl, rfl, rfl⟩)
set_option maxRecDepth 100000 in
set_option maxHeartbeats 4000000 in
theorem t_X9_canGo (F : Nat) (b a st sa : Nat) (sh : List nd_S) (hL : sh.length < nd_ro) (hs : is_Walk sh b a st sa) {z : Int32 × nd_Mem} (x1 : Int32) (x2 : Int32) (σ : nd_Mem) (h : f_X9_canGo F b a st sa x1 x2 σ = some z) : nd_Fn M_X9_canGo (nd_rm 2) [.ref b, .int x1, .int x2] sh σ (nd_Pi sh z) := by
  refine nd_Fn.ofV (ls := [(0, .ref b), (1, .int x1), (2, .int x2)]) pl_X9_canGo rfl (fun _ => Nat.le_of_ble_eq_true rfl) (fun _ => rfl) ?_
  unfold f_X9_canGo at h
  refine nd_iload_n dX9_canGo_0 2 rfl ?_
  refine nd_iconst dX9_canGo_1 ic_m1 ?_
  refine nd_icmp_neN dX9_canGo_2 7 (by decide) h (fun h => ?_) (fun h => ?_)
  · refine nd_aload_n dX9_canGo_7 0 rfl ?_
    refine nd_get dX9_canGo_8 gf_X9_9 hs.1 rfl ?_
    refine nd_iload_n dX9_canGo_11 2 rfl ?_
    refine nd_iconst dX9_canGo_12 ic_1 ?_
    obtain ⟨r1, σ2, hc3, h⟩ := nd_bind_e h
    refine nd_cvi [.int x2, .int (1 : Int32)] [] dX9_canGo_13 cl_X9_42 hs.2.2.1.1 ⟨Nat.le_of_ble_eq_true rfl, Nat.le_of_ble_eq_true rfl⟩ rfl (Nat.le_of_ble_eq_true rfl) hL (t_X6_get F st sa sh hL hs.2.2.1 _ _ _ hc3) ?_
    refine nd_if_leN dX9_canGo_16 47 (by decide) h (fun h => ?_) (fun h => ?_)
    · refine nd_sub [0] rfl ?_
      exact b_X9_canGo_47 F b a st sa sh hL hs _ h
    · refine nd_aload_n dX9_canGo_19 0 rfl ?_
      refine nd_get dX9_canGo_20 gf_X9_9 hs.1 rfl ?_
      refine nd_iload_n dX9_canGo_23 2 rfl ?_
      refine nd_iconst dX9_canGo_24 ic_4 ?_
      obtain ⟨r4, σ5, hc6, h⟩ := nd_bind_e h
      refine nd_cvi [.int x2, .int (4 : Int32)] [] dX9_canGo_25 cl_X9_42 hs.2.2.1.1 ⟨Nat.le_of_ble_eq_true rfl, Nat.le_of_ble_eq_true rfl⟩ rfl (Nat.le_of_ble_eq_true rfl) hL (t_X6_get F st sa sh hL hs.2.2.1 _ _ _ hc6) ?_
      refine nd_if_neN dX9_canGo_28 47 (by decide) h (fun h => ?_) (fun h => ?_)
      · refine nd_sub [0] rfl ?_
        exact b_X9_canGo_47 F b a st sa sh hL hs _ h
      · refine nd_aload_n dX9_canGo_31 0 rfl ?_
        refine nd_get dX9_canGo_32 gf_X9_15 hs.1 rfl ?_
        refine nd_iload_n dX9_canGo_35 1 rfl ?_
        refine nd_iload_n dX9_canGo_36 2 rfl ?_
        obtain ⟨r7, σ8, hc9, h⟩ := nd_bind_e h
        refine nd_cvi [.int x1, .int x2] [] dX9_canGo_37 cl_X9_117 hs.2.2.2.1.1 ⟨Nat.le_of_ble_eq_true rfl, Nat.le_of_ble_eq_true rfl⟩ rfl (Nat.le_of_ble_eq_true rfl) hL (t_X5_feud F 3 sh hL hs.2.2.2.1 _ _ _ hc9) ?_
        refine nd_if_neN dX9_canGo_40 47 (by decide) h (fun h => ?_) (fun h => ?_)
        · refine nd_sub [0] rfl ?_
          exact b_X9_canGo_47 F b a st sa sh hL hs _ h
        · refine nd_iconst dX9_canGo_43 ic_1 ?_
          refine nd_goto dX9_canGo_44 48 (by decide) ?_
          exact nd_iret dX9_canGo_48 (Nat.zero_le _) (Nat.zero_le _) rfl (by cases h; exact ⟨rfl, rfl, rfl⟩)
  · refine nd_iconst dX9_canGo_5 ic_1 ?_
    exact nd_iret dX9_canGo_6 (Nat.zero_le _) (Nat.zero_le _) rfl (by cases h; exact ⟨rfl, rfl, rfl⟩)
def f_X9_carryOut (F : Nat) (b a st sa : Nat) (x1 : Int32) (x2 : Int32) (x3 : Int32) (σ : nd_Mem) : nd_Res := (if x1 = (1 : Int32) then (nd_bind (f_X6_add F st sa x2 (0 : Int32) (1 : Int32) σ) fun r2 σ3 => (some (0, σ3))) else (if x1 = (2 : Int32) then (nd_bind (f_X6_add F st sa x2 (1 : Int32) (1 : Int32) σ) fun r6 σ7 => (some (0, σ7))) else (if x1 = (3 : Int32) then (nd_bind (f_X6_put F st sa x2 (4 : Int32) (1 : Int32) σ) fun r10 σ11 => (some (0, σ11))) else (if x1 = (4 : Int32) then (nd_bind (f_X6_put F st sa x2 (4 : Int32) (0 : Int32) σ) fun r14 σ15 => (some (0, σ15))) else (if x1 = (5 : Int32) then (nd_bind (f_X6_add F st sa x2 (2 : Int32) x3 σ) fun r18 σ19 => (some (0, σ19))) else (nd_let (nd_up σ st 2 x2) fun σ21 => (some (0, σ21))))))))
set_option maxRecDepth 100000 in
set_option maxHeartbeats 4000000 in
theorem t_X9_carryOut (F : Nat) (b a st sa : Nat) (sh : List nd_S) (hL : sh.length < nd_ro) (hs : is_Walk sh b a st sa) {z : Int32 × nd_Mem} (x1 : Int32) (x2 : Int32) (x3 : Int32) (σ : nd_Mem) (h : f_X9_carryOut F b a st sa x1 x2 x3 σ = some z) : nd_Fn M_X9_carryOut (nd_rm 2) [.ref b, .int x1, .int x2, .int x3] sh σ (nd_Pv sh z) := by
  refine nd_Fn.ofV (ls := [(0, .ref b), (1, .int x1), (2, .int x2), (3, .int x3)]) pl_X9_carryOut rfl (fun _ => Nat.le_of_ble_eq_true rfl) (fun _ => rfl) ?_
  unfold f_X9_carryOut at h
  refine nd_iload_n dX9_carryOut_0 1 rfl ?_
  rcases nd_ite_e h with ⟨c1, h⟩ | ⟨c1, h⟩
  · refine nd_tin dX9_carryOut_1 0 (by rw [c1] <;> decide) (by rw [c1] <;> decide) rfl 36 (by decide) ?_
    refine nd_aload_n dX9_carryOut_36 0 rfl ?_
    refine nd_get dX9_carryOut_37 gf_X9_9 hs.1 rfl ?_
    refine nd_iload_n dX9_carryOut_40 2 rfl ?_
    refine nd_iconst dX9_carryOut_41 ic_0 ?_
    refine nd_iconst dX9_carryOut_42 ic_1 ?_
    obtain ⟨r2, σ3, hc4, h⟩ := nd_bind_e h
    refine nd_cvv [.int x2, .int (0 : Int32), .int (1 : Int32)] [] dX9_carryOut_43 cl_X9_78 hs.2.2.1.1 ⟨Nat.le_of_ble_eq_true rfl, Nat.le_of_ble_eq_true rfl⟩ rfl (Nat.le_of_ble_eq_true rfl) hL (t_X6_add F st sa sh hL hs.2.2.1 _ _ _ _ hc4) ?_
    refine nd_goto dX9_carryOut_46 109 (by decide) ?_
    exact nd_vret dX9_carryOut_109 (Nat.zero_le _) (Nat.zero_le _) trivial (by cases h; exact ⟨rfl, rfl, rfl⟩)
  rcases nd_ite_e h with ⟨c5, h⟩ | ⟨c5, h⟩
  · refine nd_tin dX9_carryOut_1 1 (by rw [c5] <;> decide) (by rw [c5] <;> decide) rfl 49 (by decide) ?_
    refine nd_aload_n dX9_carryOut_49 0 rfl ?_
    refine nd_get dX9_carryOut_50 gf_X9_9 hs.1 rfl ?_
    refine nd_iload_n dX9_carryOut_53 2 rfl ?_
    refine nd_iconst dX9_carryOut_54 ic_1 ?_
    refine nd_iconst dX9_carryOut_55 ic_1 ?_
    obtain ⟨r6, σ7, hc8, h⟩ := nd_bind_e h
    refine nd_cvv [.int x2, .int (1 : Int32), .int (1 : Int32)] [] dX9_carryOut_56 cl_X9_78 hs.2.2.1.1 ⟨Nat.le_of_ble_eq_true rfl, Nat.le_of_ble_eq_true rfl⟩ rfl (Nat.le_of_ble_eq_true rfl) hL (t_X6_add F st sa sh hL hs.2.2.1 _ _ _ _ hc8) ?_
    refine nd_goto dX9_carryOut_59 109 (by decide) ?_
    exact nd_vret dX9_carryOut_109 (Nat.zero_le _) (Nat.zero_le _) trivial (by cases h; exact ⟨rfl, rfl, rfl⟩)
  rcases nd_ite_e h with ⟨c9, h⟩ | ⟨c9, h⟩
  · refine nd_tin dX9_carryOut_1 2 (by rw [c9] <;> decide) (by rw [c9] <;> decide) rfl 62 (by decide) ?_
    refine nd_aload_n dX9_carryOut_62 0 rfl ?_
    refine nd_get dX9_carryOut_63 gf_X9_9 hs.1 rfl ?_
    refine nd_iload_n dX9_carryOut_66 2 rfl ?_
    refine nd_iconst dX9_carryOut_67 ic_4 ?_
    refine nd_iconst dX9_carryOut_68 ic_1 ?_
    obtain ⟨r10, σ11, hc12, h⟩ := nd_bind_e h
    refine nd_cvv [.int x2, .int (4 : Int32), .int (1 : Int32)] [] dX9_carryOut_69 cl_X9_82 hs.2.2.1.1 ⟨Nat.le_of_ble_eq_true rfl, Nat.le_of_ble_eq_true rfl⟩ rfl (Nat.le_of_ble_eq_true rfl) hL (t_X6_put F st sa sh hL hs.2.2.1 _ _ _ _ hc12) ?_
    refine nd_goto dX9_carryOut_72 109 (by decide) ?_
    exact nd_vret dX9_carryOut_109 (Nat.zero_le _) (Nat.zero_le _) trivial (by cases h; exact ⟨rfl, rfl, rfl⟩)
  rcases nd_ite_e h with ⟨c13, h⟩ | ⟨c13, h⟩
  · refine nd_tin dX9_carryOut_1 3 (by rw [c13] <;> decide) (by rw [c13] <;> decide) rfl 75 (by decide) ?_
    refine nd_aload_n dX9_carryOut_75 0 rfl ?_
    refine nd_get dX9_carryOut_76 gf_X9_9 hs.1 rfl ?_
    refine nd_iload_n dX9_carryOut_79 2 rfl ?_
    refine nd_iconst dX9_carryOut_80 ic_4 ?_
    refine nd_iconst dX9_carryOut_81 ic_0 ?_
    obtain ⟨r14, σ15, hc16, h⟩ := nd_bind_e h
    refine nd_cvv [.int x2, .int (4 : Int32), .int (0 : Int32)] [] dX9_carryOut_82 cl_X9_82 hs.2.2.1.1 ⟨Nat.le_of_ble_eq_true rfl, Nat.le_of_ble_eq_true rfl⟩ rfl (Nat.le_of_ble_eq_true rfl) hL (t_X6_put F st sa sh hL hs.2.2.1 _ _ _ _ hc16) ?_
    refine nd_goto dX9_carryOut_85 109 (by decide) ?_
    exact nd_vret dX9_carryOut_109 (Nat.zero_le _) (Nat.zero_le _) trivial (by cases h; exact ⟨rfl, rfl, rfl⟩)
  rcases nd_ite_e h with ⟨c17, h⟩ | ⟨c17, h⟩
  · refine nd_tin dX9_carryOut_1 4 (by rw [c17] <;> decide) (by rw [c17] <;> decide) rfl 88 (by decide) ?_
    refine nd_aload_n dX9_carryOut_88 0 rfl ?_
    refine nd_get dX9_carryOut_89 gf_X9_9 hs.1 rfl ?_
    refine nd_iload_n dX9_carryOut_92 2 rfl ?_
    refine nd_iconst dX9_carryOut_93 ic_2 ?_
    refine nd_iload_n dX9_carryOut_94 3 rfl ?_
    obtain ⟨r18, σ19, hc20, h⟩ := nd_bind_e h
    refine nd_cvv [.int x2, .int (2 : Int32), .int x3] [] dX9_carryOut_95 cl_X9_78 hs.2.2.1.1 ⟨Nat.le_of_ble_eq_true rfl, Nat.le_of_ble_eq_true rfl⟩ rfl (Nat.le_of_ble_eq_true rfl) hL (t_X6_add F st sa sh hL hs.2.2.1 _ _ _ _ hc20) ?_
    refine nd_goto dX9_carryOut_98 109 (by decide) ?_
    exact nd_vret dX9_carryOut_109 (Nat.zero_le _) (Nat.zero_le _) trivial (by cases h; exact ⟨rfl, rfl, rfl⟩)
  refine nd_tout dX9_carryOut_1 (fun j h1 h2 => ?_) 101 (by decide) ?_
  · rcases (show j = 1 ∨ j = 2 ∨ j = 3 ∨ j = 4 ∨ j = 5 by omega) with rfl | rfl | rfl | rfl | rfl
    · exact fun e => c1 (e.trans ic_1)
    · exact fun e => c5 (e.trans ic_2)
    · exact fun e => c9 (e.trans ic_3)
    · exact fun e => c13 (e.trans ic_4)
    · exact fun e => c17 (e.trans ic_5)
  · refine nd_aload_n dX9_carryOut_101 0 rfl ?_
    refine nd_get dX9_carryOut_102 gf_X9_9 hs.1 rfl ?_
    refine nd_iload_n dX9_carryOut_105 2 rfl ?_
    refine nd_putiN dX9_carryOut_106 pf_X9_71 hs.2.2.1.1 rfl h (fun σ21 h => ?_)
    exact nd_vret dX9_carryOut_109 (Nat.zero_le _) (Nat.zero_le _) trivial (by cases h; exact ⟨rfl, rfl, rfl⟩)
def f_X9_reckon_170 (F : Nat) (rec6 : Int32 → Int32 → Int32 → Int32 → nd_Mem → nd_Res) (b a st sa : Nat) (x2 : Int32) (x3 : Int32) (x4 : Int32) (x5 : Int32) (σ : nd_Mem) : nd_Res := (rec6 x2 x3 x4 (x5 + (1 : Int32)) σ)
def f_X9_reckon_83 (F : Nat) (rec6 : Int32 → Int32 → Int32 → Int32 → nd_Mem → nd_Res) (b a st sa : Nat) (x2 : Int32) (x3 : Int32) (x4 : Int32) (x5 : Int32) (s0 : Int32) (s1 : Int32) (σ : nd_Mem) : nd_Res := (if s1 < 0 ∨ 48 ≤ (s1).toNatClampNeg then none else (nd_let (nd_up σ a (s1).toNatClampNeg s0) fun σ1 => (f_X9_reckon_170 F rec6 b a st sa x2 x3 (x4 + (1 : Int32)) x5 σ1)))
def f_X9_reckon_126 (F : Nat) (rec6 : Int32 → Int32 → Int32 → Int32 → nd_Mem → nd_Res) (b a st sa : Nat) (x2 : Int32) (x3 : Int32) (x4 : Int32) (x5 : Int32) (x6 : Int32) (x7 : Int32) (σ : nd_Mem) : nd_Res := (if x7 = 0 then (if x4 < (2 : Int32) then (f_X9_reckon_170 F rec6 b a st sa x2 x3 x4 x5 σ) else (if ((x4 + (-1 : Int32)) - (1 : Int32)) < 0 ∨ 48 ≤ (((x4 + (-1 : Int32)) - (1 : Int32))).toNatClampNeg then none else (if (x4 + (-1 : Int32)) < 0 ∨ 48 ≤ ((x4 + (-1 : Int32))).toNatClampNeg then none else (nd_bind (f_X9_joined F x6 (σ a (((x4 + (-1 : Int32)) - (1 : Int32))).toNatClampNeg) (σ a ((x4 + (-1 : Int32))).toNatClampNeg) σ) fun r1 σ2 => (if ((x4 + (-1 : Int32)) - (1 : Int32)) < 0 ∨ 48 ≤ (((x4 + (-1 : Int32)) - (1 : Int32))).toNatClampNeg then none else (nd_let (nd_up σ2 a (((x4 + (-1 : Int32)) - (1 : Int32))).toNatClampNeg r1) fun σ4 => (f_X9_reckon_170 F rec6 b a st sa x2 x3 (x4 + (-1 : Int32)) x5 σ4))))))) else (f_X9_reckon_170 F rec6 b a st sa x2 x3 x4 x5 σ))
def f_X9_reckon_90 (F : Nat) (rec6 : Int32 → Int32 → Int32 → Int32 → nd_Mem → nd_Res) (b a st sa : Nat) (x2 : Int32) (x3 : Int32) (x4 : Int32) (x5 : Int32) (x6 : Int32) (x7 : Int32) (σ : nd_Mem) : nd_Res := (if x6 = (-2 : Int32) then (if x4 < (1 : Int32) then (f_X9_reckon_126 F rec6 b a st sa x2 x3 x4 x5 x6 x7 σ) else (if (x4 - (1 : Int32)) < 0 ∨ 48 ≤ ((x4 - (1 : Int32))).toNatClampNeg then none else (if (x4 - (1 : Int32)) < 0 ∨ 48 ≤ ((x4 - (1 : Int32))).toNatClampNeg then none else (nd_let (nd_up σ a ((x4 - (1 : Int32))).toNatClampNeg ((1 : Int32) - (σ a ((x4 - (1 : Int32))).toNatClampNeg))) fun σ1 => (f_X9_reckon_170 F rec6 b a st sa x2 x3 x4 x5 σ1))))) else (f_X9_reckon_126 F rec6 b a st sa x2 x3 x4 x5 x6 x7 σ))
def f_X9_reckon_43 (F : Nat) (rec6 : Int32 → Int32 → Int32 → Int32 → nd_Mem → nd_Res) (b a st sa : Nat) (x2 : Int32) (x3 : Int32) (x4 : Int32) (x5 : Int32) (x6 : Int32) (s0 : Int32) (σ : nd_Mem) : nd_Res := (if s0 = 0 then (f_X9_reckon_90 F rec6 b a st sa x2 x3 x4 x5 x6 s0 σ) else (if (48 : Int32) ≤ x4 then (f_X9_reckon_90 F rec6 b a st sa x2 x3 x4 x5 x6 s0 σ) else (if x6 < 0 then (nd_bind (f_X9_named F b a st sa ((-100 : Int32) - x6) x3 σ) fun r1 σ2 => (f_X9_reckon_83 F rec6 b a st sa x2 x3 x4 x5 r1 x4 σ2)) else (f_X9_reckon_83 F rec6 b a st sa x2 x3 x4 x5 x6 x4 σ))))
def f_X9_reckon_38 (F : Nat) (rec6 : Int32 → Int32 → Int32 → Int32 → nd_Mem → nd_Res) (b a st sa : Nat) (x2 : Int32) (x3 : Int32) (x4 : Int32) (x5 : Int32) (x6 : Int32) (σ : nd_Mem) : nd_Res := (f_X9_reckon_43 F rec6 b a st sa x2 x3 x4 x5 x6 (1 : Int32) σ)
def f_X9_reckon_6_b (F : Nat) (rec6 : Int32 → Int32 → Int32 → Int32 → nd_Mem → nd_Res) (b a st sa : Nat) (x2 : Int32) (x3 : Int32) (x4 : Int32) (x5 : Int32) (σ : nd_Mem) : nd_Res := (if x2 ≤ x5 then (if (0 : Int32) < 0 ∨ 48 ≤ ((0 : Int32)).toNatClampNeg then none else (some ((σ a ((0 : Int32)).toNatClampNeg), σ))) else (nd_bind (f_X4_at F 6 7 400 x5 σ) fun r1 σ2 => (if 0 ≤ r1 then (f_X9_reckon_38 F rec6 b a st sa x2 x3 x4 x5 r1 σ2) else (if (-100 : Int32) < r1 then (f_X9_reckon_43 F rec6 b a st sa x2 x3 x4 x5 r1 (0 : Int32) σ2) else (f_X9_reckon_38 F rec6 b a st sa x2 x3 x4 x5 r1 σ2)))))
def f_X9_reckon_6 (F : Nat) (b a st sa : Nat) : Nat → Int32 → Int32 → Int32 → Int32 → nd_Mem → nd_Res
  | 0, _, _, _, _, _ => none
  | m9 + 1, x2, x3, x4, x5, σ => f_X9_reckon_6_b F (f_X9_reckon_6 F b a st sa m9) b a st sa x2 x3 x4 x5 σ
def f_X9_reckon (F : Nat) (b a st sa : Nat) (x1 : Int32) (x2 : Int32) (x3 : Int32) (σ : nd_Mem) : nd_Res := (f_X9_reckon_6 F b a st sa F x2 x3 (0 : Int32) x1 σ)
set_option maxRecDepth 100000 in
set_option maxHeartbeats 4000000 in
theorem b_X9_reckon_170 (F : Nat) (rec6 : Int32 → Int32 → Int32 → Int32 → nd_Mem → nd_Res) (b a st sa : Nat) (sh : List nd_S) (hL : sh.length < nd_ro) (hs : is_Walk sh b a st sa) {z : Int32 × nd_Mem} (hrec6 : ∀ (x2 : Int32) (x3 : Int32) (x4 : Int32) (x5 : Int32) (σ : nd_Mem), rec6 x2 x3 x4 x5 σ = some z → nd_V M_X9_reckon (nd_rm 2) (nd_Pi sh z) 0 0 6 [(0, .ref b), (2, .int x2), (3, .int x3), (4, .int x4), (5, .int x5)] [] sh σ) (x2 : Int32) (x3 : Int32) (x4 : Int32) (x5 : Int32) (σ : nd_Mem) (h : f_X9_reckon_170 F rec6 b a st sa x2 x3 x4 x5 σ = some z) : nd_V M_X9_reckon (nd_rm 2) (nd_Pi sh z) 0 0 170 [(0, .ref b), (2, .int x2), (3, .int x3), (4, .int x4), (5, .int x5)] [] sh σ := by
  unfold f_X9_reckon_170 at h
  refine nd_iinc (v := (x5 + (1 : Int32))) (ls' := [(5, .int (x5 + (1 : Int32))), (0, .ref b), (2, .int x2), (3, .int x3), (4, .int x4)]) dX9_reckon_170 4 rfl (congrArg (HAdd.hAdd _) ic_1) (by decide) rfl ?_
  refine nd_goto dX9_reckon_173 6 (by decide) ?_
  refine nd_sub [1, 2, 3, 4, 0] rfl ?_
  exact hrec6 _ _ _ _ _ h
set_option maxRecDepth 100000 in
set_option maxHeartbeats 4000000 in
theorem b_X9_reckon_83 (F : Nat) (rec6 : Int32 → Int32 → Int32 → Int32 → nd_Mem → nd_Res) (b a st sa : Nat) (sh : List nd_S) (hL : sh.length < nd_ro) (hs : is_Walk sh b a st sa) {z : Int32 × nd_Mem} (hrec6 : ∀ (x2 : Int32) (x3 : Int32) (x4 : Int32) (x5 : Int32) (σ : nd_Mem), rec6 x2 x3 x4 x5 σ = some z → nd_V M_X9_reckon (nd_rm 2) (nd_Pi sh z) 0 0 6 [(0, .ref b), (2, .int x2), (3, .int x3), (4, .int x4), (5, .int x5)] [] sh σ) (x2 : Int32) (x3 : Int32) (x4 : Int32) (x5 : Int32) (s0 : Int32) (s1 : Int32) (σ : nd_Mem) (h : f_X9_reckon_83 F rec6 b a st sa x2 x3 x4 x5 s0 s1 σ = some z) : nd_V M_X9_reckon (nd_rm 2) (nd_Pi sh z) 0 0 83 [(0, .ref b), (2, .int x2), (3, .int x3), (4, .int x4), (5, .int x5)] [.int s0, .int s1, .ref a] sh σ := by
  unfold f_X9_reckon_83 at h
  refine nd_iastoreN dX9_reckon_83 hs.2.1 h (fun σ1 h => ?_)
  refine nd_iinc (v := (x4 + (1 : Int32))) (ls' := [(4, .int (x4 + (1 : Int32))), (0, .ref b), (2, .int x2), (3, .int x3), (5, .int x5)]) dX9_reckon_84 3 rfl (congrArg (HAdd.hAdd _) ic_1) (by decide) rfl ?_
  refine nd_goto dX9_reckon_87 170 (by decide) ?_
  refine nd_sub [1, 2, 3, 0, 4] rfl ?_
  exact b_X9_reckon_170 F _ b a st sa sh hL hs hrec6 _ _ _ _ _ h
set_option maxRecDepth 100000 in
set_option maxHeartbeats 4000000 in
theorem b_X9_reckon_126 (F : Nat) (rec6 : Int32 → Int32 → Int32 → Int32 → nd_Mem → nd_Res) (b a st sa : Nat) (sh : List nd_S) (hL : sh.length < nd_ro) (hs : is_Walk sh b a st sa) {z : Int32 × nd_Mem} (hrec6 : ∀ (x2 : Int32) (x3 : Int32) (x4 : Int32) (x5 : Int32) (σ : nd_Mem), rec6 x2 x3 x4 x5 σ = some z → nd_V M_X9_reckon (nd_rm 2) (nd_Pi sh z) 0 0 6 [(0, .ref b), (2, .int x2), (3, .int x3), (4, .int x4), (5, .int x5)] [] sh σ) (x2 : Int32) (x3 : Int32) (x4 : Int32) (x5 : Int32) (x6 : Int32) (x7 : Int32) (σ : nd_Mem) (h : f_X9_reckon_126 F rec6 b a st sa x2 x3 x4 x5 x6 x7 σ = some z) : nd_V M_X9_reckon (nd_rm 2) (nd_Pi sh z) 0 0 126 [(0, .ref b), (2, .int x2), (3, .int x3), (4, .int x4), (5, .int x5), (6, .int x6), (7, .int x7)] [] sh σ := by
  unfold f_X9_reckon_126 at h
  refine nd_iload dX9_reckon_126 6 rfl ?_
  refine nd_if_neN dX9_reckon_128 170 (by decide) h (fun h => ?_) (fun h => ?_)
  · refine nd_sub [0, 1, 2, 3, 4] rfl ?_
    exact b_X9_reckon_170 F _ b a st sa sh hL hs hrec6 _ _ _ _ _ h
  · refine nd_iload dX9_reckon_131 3 rfl ?_
    refine nd_iconst dX9_reckon_133 ic_2 ?_
    refine nd_icmp_ltN dX9_reckon_134 170 (by decide) h (fun h => ?_) (fun h => ?_)
    · refine nd_sub [0, 1, 2, 3, 4] rfl ?_
      exact b_X9_reckon_170 F _ b a st sa sh hL hs hrec6 _ _ _ _ _ h
    · refine nd_iinc (v := (x4 + (-1 : Int32))) (ls' := [(4, .int (x4 + (-1 : Int32))), (0, .ref b), (2, .int x2), (3, .int x3), (5, .int x5), (6, .int x6), (7, .int x7)]) dX9_reckon_137 3 rfl (congrArg (HAdd.hAdd _) ic_m1) (by decide) rfl ?_
      refine nd_aload_n dX9_reckon_140 1 rfl ?_
      refine nd_get dX9_reckon_141 gf_X9_27 hs.1 rfl ?_
      refine nd_iload dX9_reckon_144 0 rfl ?_
      refine nd_iconst dX9_reckon_146 ic_1 ?_
      refine nd_isub dX9_reckon_147 ?_
      refine nd_iload dX9_reckon_148 5 rfl ?_
      refine nd_aload_n dX9_reckon_150 1 rfl ?_
      refine nd_get dX9_reckon_151 gf_X9_27 hs.1 rfl ?_
      refine nd_iload dX9_reckon_154 0 rfl ?_
      refine nd_iconst dX9_reckon_156 ic_1 ?_
      refine nd_isub dX9_reckon_157 ?_
      refine nd_ialoadN dX9_reckon_158 hs.2.1 h (fun h => ?_)
      refine nd_aload_n dX9_reckon_159 1 rfl ?_
      refine nd_get dX9_reckon_160 gf_X9_27 hs.1 rfl ?_
      refine nd_iload dX9_reckon_163 0 rfl ?_
      refine nd_ialoadN dX9_reckon_165 hs.2.1 h (fun h => ?_)
      obtain ⟨r1, σ2, hc3, h⟩ := nd_bind_e h
      refine nd_csi [.int x6, .int (σ a (((x4 + (-1 : Int32)) - (1 : Int32))).toNatClampNeg), .int (σ a ((x4 + (-1 : Int32))).toNatClampNeg)] [.int ((x4 + (-1 : Int32)) - (1 : Int32)), .ref a] dX9_reckon_166 cl_X9_159 ⟨Nat.le_of_ble_eq_true rfl, Nat.le_of_ble_eq_true rfl⟩ rfl (Nat.le_of_ble_eq_true rfl) hL (t_X9_joined F sh hL _ _ _ _ hc3) ?_
      refine nd_iastoreN dX9_reckon_169 hs.2.1 h (fun σ4 h => ?_)
      refine nd_sub [1, 2, 3, 0, 4] rfl ?_
      exact b_X9_reckon_170 F _ b a st sa sh hL hs hrec6 _ _ _ _ _ h
set_option maxRecDepth 100000 in
set_option maxHeartbeats 4000000 in
theorem b_X9_reckon_90 (F : Nat) (rec6 : Int32 → Int32 → Int32 → Int32 → nd_Mem → nd_Res) (b a st sa : Nat) (sh : List nd_S) (hL : sh.length < nd_ro) (hs : is_Walk sh b a st sa) {z : Int32 × nd_Mem} (hrec6 : ∀ (x2 : Int32) (x3 : Int32) (x4 : Int32) (x5 : Int32) (σ : nd_Mem), rec6 x2 x3 x4 x5 σ = some z → nd_V M_X9_reckon (nd_rm 2) (nd_Pi sh z) 0 0 6 [(0, .ref b), (2, .int x2), (3, .int x3), (4, .int x4), (5, .int x5)] [] sh σ) (x2 : Int32) (x3 : Int32) (x4 : Int32) (x5 : Int32) (x6 : Int32) (x7 : Int32) (σ : nd_Mem) (h : f_X9_reckon_90 F rec6 b a st sa x2 x3 x4 x5 x6 x7 σ = some z) : nd_V M_X9_reckon (nd_rm 2) (nd_Pi sh z) 0 0 90 [(0, .ref b), (2, .int x2), (3, .int x3), (4, .int x4), (5, .int x5), (6, .int x6), (7, .int x7)] [] sh σ := by
  unfold f_X9_reckon_90 at h
  refine nd_iload dX9_reckon_90 5 rfl ?_
  refine nd_bipush dX9_reckon_92 ib_m2 ?_
  refine nd_icmp_neN dX9_reckon_94 126 (by decide) h (fun h => ?_) (fun h => ?_)
  · exact b_X9_reckon_126 F _ b a st sa sh hL hs hrec6 _ _ _ _ _ _ _ h
  · refine nd_iload dX9_reckon_97 3 rfl ?_
    refine nd_iconst dX9_reckon_99 ic_1 ?_
    refine nd_icmp_ltN dX9_reckon_100 126 (by decide) h (fun h => ?_) (fun h => ?_)
    · exact b_X9_reckon_126 F _ b a st sa sh hL hs hrec6 _ _ _ _ _ _ _ h
    · refine nd_aload_n dX9_reckon_103 0 rfl ?_
      refine nd_get dX9_reckon_104 gf_X9_27 hs.1 rfl ?_
      refine nd_iload dX9_reckon_107 3 rfl ?_
      refine nd_iconst dX9_reckon_109 ic_1 ?_
      refine nd_isub dX9_reckon_110 ?_
      refine nd_iconst dX9_reckon_111 ic_1 ?_
      refine nd_aload_n dX9_reckon_112 0 rfl ?_
      refine nd_get dX9_reckon_113 gf_X9_27 hs.1 rfl ?_
      refine nd_iload dX9_reckon_116 3 rfl ?_
      refine nd_iconst dX9_reckon_118 ic_1 ?_
      refine nd_isub dX9_reckon_119 ?_
      refine nd_ialoadN dX9_reckon_120 hs.2.1 h (fun h => ?_)
      refine nd_isub dX9_reckon_121 ?_
      refine nd_iastoreN dX9_reckon_122 hs.2.1 h (fun σ1 h => ?_)
      refine nd_goto dX9_reckon_123 170 (by decide) ?_
      refine nd_sub [0, 1, 2, 3, 4] rfl ?_
      exact b_X9_reckon_170 F _ b a st sa sh hL hs hrec6 _ _ _ _ _ h
set_option maxRecDepth 100000 in
set_option maxHeartbeats 4000000 in
theorem b_X9_reckon_43 (F : Nat) (rec6 : Int32 → Int32 → Int32 → Int32 → nd_Mem → nd_Res) (b a st sa : Nat) (sh : List nd_S) (hL : sh.length < nd_ro) (hs : is_Walk sh b a st sa) {z : Int32 × nd_Mem} (hrec6 : ∀ (x2 : Int32) (x3 : Int32) (x4 : Int32) (x5 : Int32) (σ : nd_Mem), rec6 x2 x3 x4 x5 σ = some z → nd_V M_X9_reckon (nd_rm 2) (nd_Pi sh z) 0 0 6 [(0, .ref b), (2, .int x2), (3, .int x3), (4, .int x4), (5, .int x5)] [] sh σ) (x2 : Int32) (x3 : Int32) (x4 : Int32) (x5 : Int32) (x6 : Int32) (s0 : Int32) (σ : nd_Mem) (h : f_X9_reckon_43 F rec6 b a st sa x2 x3 x4 x5 x6 s0 σ = some z) : nd_V M_X9_reckon (nd_rm 2) (nd_Pi sh z) 0 0 43 [(0, .ref b), (2, .int x2), (3, .int x3), (4, .int x4), (5, .int x5), (6, .int x6)] [.int s0] sh σ := by
  unfold f_X9_reckon_43 at h
  refine nd_istore (ls' := [(7, .int s0), (0, .ref b), (2, .int x2), (3, .int x3), (4, .int x4), (5, .int x5), (6, .int x6)]) dX9_reckon_43 (by decide) rfl ?_
  refine nd_iload dX9_reckon_45 0 rfl ?_
  refine nd_if_eqN dX9_reckon_47 90 (by decide) h (fun h => ?_) (fun h => ?_)
  · refine nd_sub [1, 2, 3, 4, 5, 6, 0] rfl ?_
    exact b_X9_reckon_90 F _ b a st sa sh hL hs hrec6 _ _ _ _ _ _ _ h
  · refine nd_iload dX9_reckon_50 4 rfl ?_
    refine nd_bipush dX9_reckon_52 ib_48 ?_
    refine nd_icmp_geN dX9_reckon_54 90 (by decide) h (fun h => ?_) (fun h => ?_)
    · refine nd_sub [1, 2, 3, 4, 5, 6, 0] rfl ?_
      exact b_X9_reckon_90 F _ b a st sa sh hL hs hrec6 _ _ _ _ _ _ _ h
    · refine nd_aload_n dX9_reckon_57 1 rfl ?_
      refine nd_get dX9_reckon_58 gf_X9_27 hs.1 rfl ?_
      refine nd_iload dX9_reckon_61 4 rfl ?_
      refine nd_iload dX9_reckon_63 6 rfl ?_
      refine nd_if_ltN dX9_reckon_65 73 (by decide) h (fun h => ?_) (fun h => ?_)
      · refine nd_aload_n dX9_reckon_73 1 rfl ?_
        refine nd_bipush dX9_reckon_74 ib_m100 ?_
        refine nd_iload dX9_reckon_76 6 rfl ?_
        refine nd_isub dX9_reckon_78 ?_
        refine nd_iload_n dX9_reckon_79 3 rfl ?_
        obtain ⟨r1, σ2, hc3, h⟩ := nd_bind_e h
        refine nd_cvi [.int ((-100 : Int32) - x6), .int x3] [.int x4, .ref a] dX9_reckon_80 cl_X9_156 hs.1 ⟨Nat.le_of_ble_eq_true rfl, Nat.le_of_ble_eq_true rfl⟩ rfl (Nat.le_of_ble_eq_true rfl) hL (t_X9_named F b a st sa sh hL hs _ _ _ hc3) ?_
        refine nd_sub [1, 2, 3, 4, 5] rfl ?_
        exact b_X9_reckon_83 F _ b a st sa sh hL hs hrec6 _ _ _ _ _ _ _ h
      · refine nd_iload dX9_reckon_68 6 rfl ?_
        refine nd_goto dX9_reckon_70 83 (by decide) ?_
        refine nd_sub [1, 2, 3, 4, 5] rfl ?_
        exact b_X9_reckon_83 F _ b a st sa sh hL hs hrec6 _ _ _ _ _ _ _ h
set_option maxRecDepth 100000 in
set_option maxHeartbeats 4000000 in
theorem b_X9_reckon_38 (F : Nat) (rec6 : Int32 → Int32 → Int32 → Int32 → nd_Mem → nd_Res) (b a st sa : Nat) (sh : List nd_S) (hL : sh.length < nd_ro) (hs : is_Walk sh b a st sa) {z : Int32 × nd_Mem} (hrec6 : ∀ (x2 : Int32) (x3 : Int32) (x4 : Int32) (x5 : Int32) (σ : nd_Mem), rec6 x2 x3 x4 x5 σ = some z → nd_V M_X9_reckon (nd_rm 2) (nd_Pi sh z) 0 0 6 [(0, .ref b), (2, .int x2), (3, .int x3), (4, .int x4), (5, .int x5)] [] sh σ) (x2 : Int32) (x3 : Int32) (x4 : Int32) (x5 : Int32) (x6 : Int32) (σ : nd_Mem) (h : f_X9_reckon_38 F rec6 b a st sa x2 x3 x4 x5 x6 σ = some z) : nd_V M_X9_reckon (nd_rm 2) (nd_Pi sh z) 0 0 38 [(0, .ref b), (2, .int x2), (3, .int x3), (4, .int x4), (5, .int x5), (6, .int x6)] [] sh σ := by
  unfold f_X9_reckon_38 at h
  refine nd_iconst dX9_reckon_38 ic_1 ?_
  refine nd_goto dX9_reckon_39 43 (by decide) ?_
  exact b_X9_reckon_43 F _ b a st sa sh hL hs hrec6 _ _ _ _ _ _ _ h
set_option maxRecDepth 100000 in
set_option maxHeartbeats 4000000 in
theorem b_X9_reckon_6 (F : Nat) (b a st sa : Nat) (sh : List nd_S) (hL : sh.length < nd_ro) (hs : is_Walk sh b a st sa) {z : Int32 × nd_Mem} (m9 : Nat) : ∀ (x2 : Int32) (x3 : Int32) (x4 : Int32) (x5 : Int32) (σ : nd_Mem), f_X9_reckon_6 F b a st sa m9 x2 x3 x4 x5 σ = some z → nd_V M_X9_reckon (nd_rm 2) (nd_Pi sh z) 0 0 6 [(0, .ref b), (2, .int x2), (3, .int x3), (4, .int x4), (5, .int x5)] [] sh σ := by
  induction m9 with
  | zero =>
    intro x2 x3 x4 x5 σ h
    have h : none = some z := h
    cases h
  | succ m9 hrec6 =>
    intro x2 x3 x4 x5 σ h
    have h : f_X9_reckon_6_b F (f_X9_reckon_6 F b a st sa m9) b a st sa x2 x3 x4 x5 σ = some z := h
    unfold f_X9_reckon_6_b at h
    refine nd_iload dX9_reckon_6 4 rfl ?_
    refine nd_iload_n dX9_reckon_8 1 rfl ?_
    refine nd_icmp_geN dX9_reckon_9 176 (by decide) h (fun h => ?_) (fun h => ?_)
    · refine nd_aload_n dX9_reckon_176 0 rfl ?_
      refine nd_get dX9_reckon_177 gf_X9_27 hs.1 rfl ?_
      refine nd_iconst dX9_reckon_180 ic_0 ?_
      refine nd_ialoadN dX9_reckon_181 hs.2.1 h (fun h => ?_)
      exact nd_iret dX9_reckon_182 (Nat.zero_le _) (Nat.zero_le _) (vp_nar_int _) (by cases h; exact ⟨rfl, rfl, rfl⟩)
    · refine nd_aload_n dX9_reckon_12 0 rfl ?_
      refine nd_get dX9_reckon_13 gf_X9_15 hs.1 rfl ?_
      refine nd_get dX9_reckon_16 gf_X9_153 hs.2.2.2.1.1 rfl ?_
      refine nd_iload dX9_reckon_19 4 rfl ?_
      obtain ⟨r1, σ2, hc3, h⟩ := nd_bind_e h
      refine nd_cvi [.int x5] [] dX9_reckon_21 cl_X9_99 hs.2.2.2.1.2.2.1.1 ⟨Nat.le_of_ble_eq_true rfl, Nat.le_of_ble_eq_true rfl⟩ rfl (Nat.le_of_ble_eq_true rfl) hL (t_X4_at F 6 7 400 sh hL hs.2.2.2.1.2.2.1 _ _ hc3) ?_
      refine nd_istore (ls' := [(6, .int r1), (0, .ref b), (2, .int x2), (3, .int x3), (4, .int x4), (5, .int x5)]) dX9_reckon_24 (by decide) rfl ?_
      refine nd_iload dX9_reckon_26 0 rfl ?_
      refine nd_if_geN dX9_reckon_28 38 (by decide) h (fun h => ?_) (fun h => ?_)
      · refine nd_sub [1, 2, 3, 4, 5, 0] rfl ?_
        exact b_X9_reckon_38 F _ b a st sa sh hL hs hrec6 _ _ _ _ _ _ h
      · refine nd_iload dX9_reckon_31 0 rfl ?_
        refine nd_bipush dX9_reckon_33 ib_m100 ?_
        refine nd_icmp_gtN dX9_reckon_35 42 (by decide) h (fun h => ?_) (fun h => ?_)
        · refine nd_iconst dX9_reckon_42 ic_0 ?_
          refine nd_sub [1, 2, 3, 4, 5, 0] rfl ?_
          exact b_X9_reckon_43 F _ b a st sa sh hL hs hrec6 _ _ _ _ _ _ _ h
        · refine nd_sub [1, 2, 3, 4, 5, 0] rfl ?_
          exact b_X9_reckon_38 F _ b a st sa sh hL hs hrec6 _ _ _ _ _ _ h
set_option maxRecDepth 100000 in
set_option maxHeartbeats 4000000 in
theorem t_X9_reckon (F : Nat) (b a st sa : Nat) (sh : List nd_S) (hL : sh.length < nd_ro) (hs : is_Walk sh b a st sa) {z : Int32 × nd_Mem} (x1 : Int32) (x2 : Int32) (x3 : Int32) (σ : nd_Mem) (h : f_X9_reckon F b a st sa x1 x2 x3 σ = some z) : nd_Fn M_X9_reckon (nd_rm 2) [.ref b, .int x1, .int x2, .int x3] sh σ (nd_Pi sh z) := by
  refine nd_Fn.ofV (ls := [(0, .ref b), (1, .int x1), (2, .int x2), (3, .int x3)]) pl_X9_reckon rfl (fun _ => Nat.le_of_ble_eq_true rfl) (fun _ => rfl) ?_
  unfold f_X9_reckon at h
  refine nd_iconst dX9_reckon_0 ic_0 ?_
  refine nd_istore (ls' := [(4, .int (0 : Int32)), (0, .ref b), (1, .int x1), (2, .int x2), (3, .int x3)]) dX9_reckon_1 (by decide) rfl ?_
  refine nd_iload_n dX9_reckon_3 2 rfl ?_
  refine nd_istore (ls' := [(5, .int x1), (4, .int (0 : Int32)), (0, .ref b), (1, .int x1), (2, .int x2), (3, .int x3)]) dX9_reckon_4 (by decide) rfl ?_
  refine nd_sub [2, 4, 5, 1, 0] rfl ?_
  exact b_X9_reckon_6 F b a st sa sh hL hs F _ _ _ _ _ h
def f_X9_ask_127 (F : Nat) (b a st sa : Nat) (x1 : Int32) (x2 : Int32) (x3 : Int32) (σ : nd_Mem) : nd_Res := (nd_bind (f_X9_mostFor F b a st sa x1 x2 σ) fun r1 σ2 => (some ((if (0 : Int32) < (if r1 < x3 then r1 else x3) then (if r1 < x3 then r1 else x3) else (0 : Int32)), σ2)))
def f_X9_ask_96 (F : Nat) (b a st sa : Nat) (x1 : Int32) (x2 : Int32) (x5 : Int32) (x6 : Int32) (σ : nd_Mem) : nd_Res := (nd_bind (f_X4_at F 4 5 64 (x5 + (1 : Int32)) σ) fun r1 σ2 => (nd_bind (f_X9_reckon F b a st sa r1 x6 x2 σ2) fun r4 σ5 => (f_X9_ask_127 F b a st sa x1 x2 r4 σ5)))
def f_X9_ask_121 (F : Nat) (rec22 : Int32 → Int32 → Int32 → Int32 → Int32 → nd_Mem → nd_Res) (b a st sa : Nat) (x1 : Int32) (x2 : Int32) (x3 : Int32) (x4 : Int32) (x5 : Int32) (σ : nd_Mem) : nd_Res := (rec22 x1 x2 x3 x4 (x5 + (4 : Int32)) σ)
def f_X9_ask_22_b (F : Nat) (rec22 : Int32 → Int32 → Int32 → Int32 → Int32 → nd_Mem → nd_Res) (b a st sa : Nat) (x1 : Int32) (x2 : Int32) (x3 : Int32) (x4 : Int32) (x5 : Int32) (σ : nd_Mem) : nd_Res := (if x4 ≤ x5 then (f_X9_ask_127 F b a st sa x1 x2 x3 σ) else (nd_bind (f_X4_at F 4 5 64 (x5 + (2 : Int32)) σ) fun r1 σ2 => (nd_bind (f_X4_at F 4 5 64 (x5 + (3 : Int32)) σ2) fun r4 σ5 => (nd_bind (f_X4_at F 4 5 64 x5 σ5) fun r7 σ8 => (if r7 = x1 then (if r1 = r4 then (f_X9_ask_96 F b a st sa x1 x2 x5 r1 σ8) else (nd_bind (f_X9_reckon F b a st sa r1 r4 x2 σ8) fun r10 σ11 => (if r10 = 0 then (f_X9_ask_121 F rec22 b a st sa x1 x2 x3 x4 x5 σ11) else (f_X9_ask_96 F b a st sa x1 x2 x5 r1 σ11)))) else (f_X9_ask_121 F rec22 b a st sa x1 x2 x3 x4 x5 σ8))))))
def f_X9_ask_22 (F : Nat) (b a st sa : Nat) : Nat → Int32 → Int32 → Int32 → Int32 → Int32 → nd_Mem → nd_Res
  | 0, _, _, _, _, _, _ => none
  | m9 + 1, x1, x2, x3, x4, x5, σ => f_X9_ask_22_b F (f_X9_ask_22 F b a st sa m9) b a st sa x1 x2 x3 x4 x5 σ
def f_X9_ask (F : Nat) (b a st sa : Nat) (x1 : Int32) (x2 : Int32) (σ : nd_Mem) : nd_Res := (nd_bind (f_X9_usual F b a st sa x1 x2 σ) fun r1 σ2 => (f_X9_ask_22 F b a st sa F x1 x2 r1 (σ2 4 1) (0 : Int32) σ2))
set_option maxRecDepth 100000 in
set_option maxHeartbeats 4000000 in
theorem b_X9_ask_127 (F : Nat) (b a st sa : Nat) (sh : List nd_S) (hL : sh.length < nd_ro) (hs : is_Walk sh b a st sa) {z : Int32 × nd_Mem} (x1 : Int32) (x2 : Int32) (x3 : Int32) (σ : nd_Mem) (h : f_X9_ask_127 F b a st sa x1 x2 x3 σ = some z) : nd_V M_X9_ask (nd_rm 3) (nd_Pi sh z) 0 0 127 [(0, .ref b), (1, .int x1), (2, .int x2), (3, .int x3)] [] sh σ := by
  unfold f_X9_ask_127 at h
  refine nd_iconst dX9_ask_127 ic_0 ?_
  refine nd_iload_n dX9_ask_128 3 rfl ?_
  refine nd_aload_n dX9_ask_129 0 rfl ?_
  refine nd_iload_n dX9_ask_130 1 rfl ?_
  refine nd_iload_n dX9_ask_131 2 rfl ?_
  obtain ⟨r1, σ2, hc3, h⟩ := nd_bind_e h
  refine nd_cvi [.int x1, .int x2] [.int x3, .int (0 : Int32)] dX9_ask_132 cl_X9_142 hs.1 ⟨Nat.le_of_ble_eq_true rfl, Nat.le_of_ble_eq_true rfl⟩ rfl (Nat.le_of_ble_eq_true rfl) hL (t_X9_mostFor F b a st sa sh hL hs _ _ _ hc3) ?_
  refine nd_min dX9_ask_135 lk_X9_145 wmin_s wmin_i wmin_c ⟨by decide, by decide⟩ (Nat.le_refl _) (Nat.le_refl _) (Nat.le_of_ble_eq_true rfl) ?_
  refine nd_max dX9_ask_138 lk_X9_150 wmax_s wmax_i wmax_c ⟨by decide, by decide⟩ (Nat.le_refl _) (Nat.le_refl _) (Nat.le_of_ble_eq_true rfl) ?_
  exact nd_iret dX9_ask_141 (Nat.zero_le _) (Nat.zero_le _) (vp_nar_int _) (by cases h; exact ⟨rfl, rfl, rfl⟩)
set_option maxRecDepth 100000 in
set_option maxHeartbeats 4000000 in
theorem b_X9_ask_96 (F : Nat) (b a st sa : Nat) (sh : List nd_S) (hL : sh.length < nd_ro) (hs : is_Walk sh b a st sa) {z : Int32 × nd_Mem} (x1 : Int32) (x2 : Int32) (x5 : Int32) (x6 : Int32) (σ : nd_Mem) (h : f_X9_ask_96 F b a st sa x1 x2 x5 x6 σ = some z) : nd_V M_X9_ask (nd_rm 3) (nd_Pi sh z) 0 0 96 [(0, .ref b), (1, .int x1), (2, .int x2), (5, .int x5), (6, .int x6)] [] sh σ := by
  unfold f_X9_ask_96 at h
  refine nd_aload_n dX9_ask_96 0 rfl ?_
  refine nd_aload_n dX9_ask_97 0 rfl ?_
  refine nd_get dX9_ask_98 gf_X9_15 hs.1 rfl ?_
  refine nd_get dX9_ask_101 gf_X9_135 hs.2.2.2.1.1 rfl ?_
  refine nd_iload dX9_ask_104 3 rfl ?_
  refine nd_iconst dX9_ask_106 ic_1 ?_
  refine nd_iadd dX9_ask_107 ?_
  obtain ⟨r1, σ2, hc3, h⟩ := nd_bind_e h
  refine nd_cvi [.int (x5 + (1 : Int32))] [.ref b] dX9_ask_108 cl_X9_99 hs.2.2.2.1.2.1.1 ⟨Nat.le_of_ble_eq_true rfl, Nat.le_of_ble_eq_true rfl⟩ rfl (Nat.le_of_ble_eq_true rfl) hL (t_X4_at F 4 5 64 sh hL hs.2.2.2.1.2.1 _ _ hc3) ?_
  refine nd_iload dX9_ask_111 4 rfl ?_
  refine nd_iload_n dX9_ask_113 2 rfl ?_
  obtain ⟨r4, σ5, hc6, h⟩ := nd_bind_e h
  refine nd_cvi [.int r1, .int x6, .int x2] [] dX9_ask_114 cl_X9_138 hs.1 ⟨Nat.le_of_ble_eq_true rfl, Nat.le_of_ble_eq_true rfl⟩ rfl (Nat.le_of_ble_eq_true rfl) hL (t_X9_reckon F b a st sa sh hL hs _ _ _ _ hc6) ?_
  refine nd_istore_n (ls' := [(3, .int r4), (0, .ref b), (1, .int x1), (2, .int x2), (5, .int x5), (6, .int x6)]) dX9_ask_117 (by decide) rfl ?_
  refine nd_goto dX9_ask_118 127 (by decide) ?_
  refine nd_sub [1, 2, 3, 0] rfl ?_
  exact b_X9_ask_127 F b a st sa sh hL hs _ _ _ _ h
set_option maxRecDepth 100000 in
set_option maxHeartbeats 4000000 in
theorem b_X9_ask_121 (F : Nat) (rec22 : Int32 → Int32 → Int32 → Int32 → Int32 → nd_Mem → nd_Res) (b a st sa : Nat) (sh : List nd_S) (hL : sh.length < nd_ro) (hs : is_Walk sh b a st sa) {z : Int32 × nd_Mem} (hrec22 : ∀ (x1 : Int32) (x2 : Int32) (x3 : Int32) (x4 : Int32) (x5 : Int32) (σ : nd_Mem), rec22 x1 x2 x3 x4 x5 σ = some z → nd_V M_X9_ask (nd_rm 3) (nd_Pi sh z) 0 0 22 [(0, .ref b), (1, .int x1), (2, .int x2), (3, .int x3), (4, .int x4), (5, .int x5)] [] sh σ) (x1 : Int32) (x2 : Int32) (x3 : Int32) (x4 : Int32) (x5 : Int32) (σ : nd_Mem) (h : f_X9_ask_121 F rec22 b a st sa x1 x2 x3 x4 x5 σ = some z) : nd_V M_X9_ask (nd_rm 3) (nd_Pi sh z) 0 0 121 [(0, .ref b), (1, .int x1), (2, .int x2), (3, .int x3), (4, .int x4), (5, .int x5)] [] sh σ := by
  unfold f_X9_ask_121 at h
  refine nd_iinc (v := (x5 + (4 : Int32))) (ls' := [(5, .int (x5 + (4 : Int32))), (0, .ref b), (1, .int x1), (2, .int x2), (3, .int x3), (4, .int x4)]) dX9_ask_121 5 rfl (congrArg (HAdd.hAdd _) ic_4) (by decide) rfl ?_
  refine nd_goto dX9_ask_124 22 (by decide) ?_
  refine nd_sub [1, 2, 3, 4, 5, 0] rfl ?_
  exact hrec22 _ _ _ _ _ _ h
set_option maxRecDepth 100000 in
set_option maxHeartbeats 4000000 in
theorem b_X9_ask_22 (F : Nat) (b a st sa : Nat) (sh : List nd_S) (hL : sh.length < nd_ro) (hs : is_Walk sh b a st sa) {z : Int32 × nd_Mem} (m9 : Nat) : ∀ (x1 : Int32) (x2 : Int32) (x3 : Int32) (x4 : Int32) (x5 : Int32) (σ : nd_Mem), f_X9_ask_22 F b a st sa m9 x1 x2 x3 x4 x5 σ = some z → nd_V M_X9_ask (nd_rm 3) (nd_Pi sh z) 0 0 22 [(0, .ref b), (1, .int x1), (2, .int x2), (3, .int x3), (4, .int x4), (5, .int x5)] [] sh σ := by
  induction m9 with
  | zero =>
    intro x1 x2 x3 x4 x5 σ h
    have h : none = some z := h
    cases h
  | succ m9 hrec22 =>
    intro x1 x2 x3 x4 x5 σ h
    have h : f_X9_ask_22_b F (f_X9_ask_22 F b a st sa m9) b a st sa x1 x2 x3 x4 x5 σ = some z := h
    unfold f_X9_ask_22_b at h
    refine nd_iload dX9_ask_22 5 rfl ?_
    refine nd_iload dX9_ask_24 4 rfl ?_
    refine nd_icmp_geN dX9_ask_26 127 (by decide) h (fun h => ?_) (fun h => ?_)
    · refine nd_sub [0, 1, 2, 3] rfl ?_
      exact b_X9_ask_127 F b a st sa sh hL hs _ _ _ _ h
    · refine nd_aload_n dX9_ask_29 0 rfl ?_
      refine nd_get dX9_ask_30 gf_X9_15 hs.1 rfl ?_
      refine nd_get dX9_ask_33 gf_X9_135 hs.2.2.2.1.1 rfl ?_
      refine nd_iload dX9_ask_36 5 rfl ?_
      refine nd_iconst dX9_ask_38 ic_2 ?_
      refine nd_iadd dX9_ask_39 ?_
      obtain ⟨r1, σ2, hc3, h⟩ := nd_bind_e h
      refine nd_cvi [.int (x5 + (2 : Int32))] [] dX9_ask_40 cl_X9_99 hs.2.2.2.1.2.1.1 ⟨Nat.le_of_ble_eq_true rfl, Nat.le_of_ble_eq_true rfl⟩ rfl (Nat.le_of_ble_eq_true rfl) hL (t_X4_at F 4 5 64 sh hL hs.2.2.2.1.2.1 _ _ hc3) ?_
      refine nd_istore (ls' := [(6, .int r1), (0, .ref b), (1, .int x1), (2, .int x2), (3, .int x3), (4, .int x4), (5, .int x5)]) dX9_ask_43 (by decide) rfl ?_
      refine nd_aload_n dX9_ask_45 1 rfl ?_
      refine nd_get dX9_ask_46 gf_X9_15 hs.1 rfl ?_
      refine nd_get dX9_ask_49 gf_X9_135 hs.2.2.2.1.1 rfl ?_
      refine nd_iload dX9_ask_52 6 rfl ?_
      refine nd_iconst dX9_ask_54 ic_3 ?_
      refine nd_iadd dX9_ask_55 ?_
      obtain ⟨r4, σ5, hc6, h⟩ := nd_bind_e h
      refine nd_cvi [.int (x5 + (3 : Int32))] [] dX9_ask_56 cl_X9_99 hs.2.2.2.1.2.1.1 ⟨Nat.le_of_ble_eq_true rfl, Nat.le_of_ble_eq_true rfl⟩ rfl (Nat.le_of_ble_eq_true rfl) hL (t_X4_at F 4 5 64 sh hL hs.2.2.2.1.2.1 _ _ hc6) ?_
      refine nd_istore (ls' := [(7, .int r4), (6, .int r1), (0, .ref b), (1, .int x1), (2, .int x2), (3, .int x3), (4, .int x4), (5, .int x5)]) dX9_ask_59 (by decide) rfl ?_
      refine nd_aload_n dX9_ask_61 2 rfl ?_
      refine nd_get dX9_ask_62 gf_X9_15 hs.1 rfl ?_
      refine nd_get dX9_ask_65 gf_X9_135 hs.2.2.2.1.1 rfl ?_
      refine nd_iload dX9_ask_68 7 rfl ?_
      obtain ⟨r7, σ8, hc9, h⟩ := nd_bind_e h
      refine nd_cvi [.int x5] [] dX9_ask_70 cl_X9_99 hs.2.2.2.1.2.1.1 ⟨Nat.le_of_ble_eq_true rfl, Nat.le_of_ble_eq_true rfl⟩ rfl (Nat.le_of_ble_eq_true rfl) hL (t_X4_at F 4 5 64 sh hL hs.2.2.2.1.2.1 _ _ hc9) ?_
      refine nd_iload_n dX9_ask_73 3 rfl ?_
      refine nd_icmp_neN dX9_ask_74 121 (by decide) h (fun h => ?_) (fun h => ?_)
      · refine nd_sub [2, 3, 4, 5, 6, 7] rfl ?_
        exact b_X9_ask_121 F _ b a st sa sh hL hs hrec22 _ _ _ _ _ _ h
      · refine nd_iload dX9_ask_77 1 rfl ?_
        refine nd_iload dX9_ask_79 0 rfl ?_
        refine nd_icmp_eqN dX9_ask_81 96 (by decide) h (fun h => ?_) (fun h => ?_)
        · refine nd_sub [2, 3, 4, 7, 1] rfl ?_
          exact b_X9_ask_96 F b a st sa sh hL hs _ _ _ _ _ h
        · refine nd_aload_n dX9_ask_84 2 rfl ?_
          refine nd_iload dX9_ask_85 1 rfl ?_
          refine nd_iload dX9_ask_87 0 rfl ?_
          refine nd_iload_n dX9_ask_89 4 rfl ?_
          obtain ⟨r10, σ11, hc12, h⟩ := nd_bind_e h
          refine nd_cvi [.int r1, .int r4, .int x2] [] dX9_ask_90 cl_X9_138 hs.1 ⟨Nat.le_of_ble_eq_true rfl, Nat.le_of_ble_eq_true rfl⟩ rfl (Nat.le_of_ble_eq_true rfl) hL (t_X9_reckon F b a st sa sh hL hs _ _ _ _ hc12) ?_
          refine nd_if_eqN dX9_ask_93 121 (by decide) h (fun h => ?_) (fun h => ?_)
          · refine nd_sub [2, 3, 4, 5, 6, 7] rfl ?_
            exact b_X9_ask_121 F _ b a st sa sh hL hs hrec22 _ _ _ _ _ _ h
          · refine nd_sub [2, 3, 4, 7, 1] rfl ?_
            exact b_X9_ask_96 F b a st sa sh hL hs _ _ _ _ _ h
set_option maxRecDepth 100000 in
set_option maxHeartbeats 4000000 in
theorem t_X9_ask (F : Nat) (b a st sa : Nat) (sh : List nd_S) (hL : sh.length < nd_ro) (hs : is_Walk sh b a st sa) {z : Int32 × nd_Mem} (x1 : Int32) (x2 : Int32) (σ : nd_Mem) (h : f_X9_ask F b a st sa x1 x2 σ = some z) : nd_Fn M_X9_ask (nd_rm 3) [.ref b, .int x1, .int x2] sh σ (nd_Pi sh z) := by
  refine nd_Fn.ofV (ls := [(0, .ref b), (1, .int x1), (2, .int x2)]) pl_X9_ask rfl (fun _ => Nat.le_of_ble_eq_true rfl) (fun _ => rfl) ?_
  unfold f_X9_ask at h
  refine nd_aload_n dX9_ask_0 0 rfl ?_
  refine nd_iload_n dX9_ask_1 1 rfl ?_
  refine nd_iload_n dX9_ask_2 2 rfl ?_
  obtain ⟨r1, σ2, hc3, h⟩ := nd_bind_e h
  refine nd_cvi [.int x1, .int x2] [] dX9_ask_3 cl_X9_132 hs.1 ⟨Nat.le_of_ble_eq_true rfl, Nat.le_of_ble_eq_true rfl⟩ rfl (Nat.le_of_ble_eq_true rfl) hL (t_X9_usual F b a st sa sh hL hs _ _ _ hc3) ?_
  refine nd_istore_n (ls' := [(3, .int r1), (0, .ref b), (1, .int x1), (2, .int x2)]) dX9_ask_6 (by decide) rfl ?_
  refine nd_aload_n dX9_ask_7 1 rfl ?_
  refine nd_get dX9_ask_8 gf_X9_15 hs.1 rfl ?_
  refine nd_get dX9_ask_11 gf_X9_135 hs.2.2.2.1.1 rfl ?_
  refine nd_get dX9_ask_14 gf_X9_94 hs.2.2.2.1.2.1.1 rfl ?_
  refine nd_istore (ls' := [(4, .int (σ2 4 1)), (3, .int r1), (0, .ref b), (1, .int x1), (2, .int x2)]) dX9_ask_17 (by decide) rfl ?_
  refine nd_iconst dX9_ask_19 ic_0 ?_
  refine nd_istore (ls' := [(5, .int (0 : Int32)), (4, .int (σ2 4 1)), (3, .int r1), (0, .ref b), (1, .int x1), (2, .int x2)]) dX9_ask_20 (by decide) rfl ?_
  refine nd_sub [3, 4, 5, 2, 1, 0] rfl ?_
  exact b_X9_ask_22 F b a st sa sh hL hs F _ _ _ _ _ _ h
def f_X9_canByHand_77 (F : Nat) (b a st sa : Nat) (σ : nd_Mem) : nd_Res := (some ((0 : Int32), σ))
def f_X9_canByHand (F : Nat) (b a st sa : Nat) (x1 : Int32) (x2 : Int32) (σ : nd_Mem) : nd_Res := (nd_bind (f_X6_has F st sa x2 σ) fun r1 σ2 => (if r1 = 0 then (some ((0 : Int32), σ2)) else (if x1 = (0 : Int32) then (nd_bind (f_X6_get F st sa x2 (0 : Int32) σ2) fun r5 σ6 => (if r5 ≤ 0 then (f_X9_canByHand_77 F b a st sa σ6) else (nd_bind (f_X9_nextOf F b a st sa x2 σ6) fun r8 σ9 => (nd_bind (f_X9_canGo F b a st sa x2 r8 σ9) fun r11 σ12 => (if r11 = 0 then (f_X9_canByHand_77 F b a st sa σ12) else (some ((1 : Int32), σ12))))))) else (if x1 = (1 : Int32) then (nd_bind (f_X6_get F st sa x2 (0 : Int32) σ2) fun r15 σ16 => (if (9 : Int32) ≤ r15 then (some ((0 : Int32), σ16)) else (some ((1 : Int32), σ16)))) else (if x1 = (2 : Int32) then (nd_bind (f_X6_get F st sa x2 (1 : Int32) σ2) fun r19 σ20 => (if (9 : Int32) ≤ r19 then (some ((0 : Int32), σ20)) else (some ((1 : Int32), σ20)))) else (if x1 = (3 : Int32) then (nd_bind (f_X6_get F st sa x2 (4 : Int32) σ2) fun r23 σ24 => (if r23 = (1 : Int32) then (some ((1 : Int32), σ24)) else (some ((0 : Int32), σ24)))) else (if x1 = (4 : Int32) then (if (σ2 st 2) = x2 then (some ((0 : Int32), σ2)) else (some ((1 : Int32), σ2))) else (some ((0 : Int32), σ2)))))))))
set_option maxRecDepth 100000 in
set_option maxHeartbeats 4000000 in
theorem b_X9_canByHand_77 (F : Nat) (b a st sa : Nat) (sh : List nd_S) (hL : sh.length < nd_ro) (hs : is_Walk sh b a st sa) {z : Int32 × nd_Mem} (σ : nd_Mem) (h : f_X9_canByHand_77 F b a st sa σ = some z) : nd_V M_X9_canByHand (nd_rm 3) (nd_Pi sh z) 0 0 77 [(0, .ref b)] [] sh σ := by
  unfold f_X9_canByHand_77 at h
  refine nd_iconst dX9_canByHand_77 ic_0 ?_
  exact nd_iret dX9_canByHand_78 (Nat.zero_le _) (Nat.zero_le _) rfl (by cases h; exact ⟨rfl, rfl, rfl⟩)
set_option maxRecDepth 100000 in
set_option maxHeartbeats 4000000 in
theorem t_X9_canByHand (F : Nat) (b a st sa : Nat) (sh : List nd_S) (hL : sh.length < nd_ro) (hs : is_Walk sh b a st sa) {z : Int32 × nd_Mem} (x1 : Int32) (x2 : Int32) (σ : nd_Mem) (h : f_X9_canByHand F b a st sa x1 x2 σ = some z) : nd_Fn M_X9_canByHand (nd_rm 3) [.ref b, .int x1, .int x2] sh σ (nd_Pi sh z) := by
  refine nd_Fn.ofV (ls := [(0, .ref b), (1, .int x1), (2, .int x2)]) pl_X9_canByHand rfl (fun _ => Nat.le_of_ble_eq_true rfl) (fun _ => rfl) ?_
  unfold f_X9_canByHand at h
  refine nd_aload_n dX9_canByHand_0 0 rfl ?_
  refine nd_get dX9_canByHand_1 gf_X9_9 hs.1 rfl ?_
  refine nd_iload_n dX9_canByHand_4 2 rfl ?_
  obtain ⟨r1, σ2, hc3, h⟩ := nd_bind_e h
  refine nd_cvi [.int x2] [] dX9_canByHand_5 cl_X9_59 hs.2.2.1.1 ⟨Nat.le_of_ble_eq_true rfl, Nat.le_of_ble_eq_true rfl⟩ rfl (Nat.le_of_ble_eq_true rfl) hL (t_X6_has F st sa sh hL hs.2.2.1 _ _ hc3) ?_
  refine nd_if_neN dX9_canByHand_8 13 (by decide) h (fun h => ?_) (fun h => ?_)
  · refine nd_iload_n dX9_canByHand_13 1 rfl ?_
    rcases nd_ite_e h with ⟨c4, h⟩ | ⟨c4, h⟩
    · refine nd_tin dX9_canByHand_14 0 (by rw [c4] <;> decide) (by rw [c4] <;> decide) rfl 48 (by decide) ?_
      refine nd_aload_n dX9_canByHand_48 0 rfl ?_
      refine nd_get dX9_canByHand_49 gf_X9_9 hs.1 rfl ?_
      refine nd_iload_n dX9_canByHand_52 2 rfl ?_
      refine nd_iconst dX9_canByHand_53 ic_0 ?_
      obtain ⟨r5, σ6, hc7, h⟩ := nd_bind_e h
      refine nd_cvi [.int x2, .int (0 : Int32)] [] dX9_canByHand_54 cl_X9_42 hs.2.2.1.1 ⟨Nat.le_of_ble_eq_true rfl, Nat.le_of_ble_eq_true rfl⟩ rfl (Nat.le_of_ble_eq_true rfl) hL (t_X6_get F st sa sh hL hs.2.2.1 _ _ _ hc7) ?_
      refine nd_if_leN dX9_canByHand_57 77 (by decide) h (fun h => ?_) (fun h => ?_)
      · refine nd_sub [0] rfl ?_
        exact b_X9_canByHand_77 F b a st sa sh hL hs _ h
      · refine nd_aload_n dX9_canByHand_60 0 rfl ?_
        refine nd_iload_n dX9_canByHand_61 2 rfl ?_
        refine nd_aload_n dX9_canByHand_62 0 rfl ?_
        refine nd_iload_n dX9_canByHand_63 2 rfl ?_
        obtain ⟨r8, σ9, hc10, h⟩ := nd_bind_e h
        refine nd_cvi [.int x2] [.int x2, .ref b] dX9_canByHand_64 cl_X9_63 hs.1 ⟨Nat.le_of_ble_eq_true rfl, Nat.le_of_ble_eq_true rfl⟩ rfl (Nat.le_of_ble_eq_true rfl) hL (t_X9_nextOf F b a st sa sh hL hs _ _ hc10) ?_
        obtain ⟨r11, σ12, hc13, h⟩ := nd_bind_e h
        refine nd_cvi [.int x2, .int r8] [] dX9_canByHand_67 cl_X9_67 hs.1 ⟨Nat.le_of_ble_eq_true rfl, Nat.le_of_ble_eq_true rfl⟩ rfl (Nat.le_of_ble_eq_true rfl) hL (t_X9_canGo F b a st sa sh hL hs _ _ _ hc13) ?_
        refine nd_if_eqN dX9_canByHand_70 77 (by decide) h (fun h => ?_) (fun h => ?_)
        · refine nd_sub [0] rfl ?_
          exact b_X9_canByHand_77 F b a st sa sh hL hs _ h
        · refine nd_iconst dX9_canByHand_73 ic_1 ?_
          refine nd_goto dX9_canByHand_74 78 (by decide) ?_
          exact nd_iret dX9_canByHand_78 (Nat.zero_le _) (Nat.zero_le _) rfl (by cases h; exact ⟨rfl, rfl, rfl⟩)
    rcases nd_ite_e h with ⟨c14, h⟩ | ⟨c14, h⟩
    · refine nd_tin dX9_canByHand_14 1 (by rw [c14] <;> decide) (by rw [c14] <;> decide) rfl 79 (by decide) ?_
      refine nd_aload_n dX9_canByHand_79 0 rfl ?_
      refine nd_get dX9_canByHand_80 gf_X9_9 hs.1 rfl ?_
      refine nd_iload_n dX9_canByHand_83 2 rfl ?_
      refine nd_iconst dX9_canByHand_84 ic_0 ?_
      obtain ⟨r15, σ16, hc17, h⟩ := nd_bind_e h
      refine nd_cvi [.int x2, .int (0 : Int32)] [] dX9_canByHand_85 cl_X9_42 hs.2.2.1.1 ⟨Nat.le_of_ble_eq_true rfl, Nat.le_of_ble_eq_true rfl⟩ rfl (Nat.le_of_ble_eq_true rfl) hL (t_X6_get F st sa sh hL hs.2.2.1 _ _ _ hc17) ?_
      refine nd_bipush dX9_canByHand_88 ib_9 ?_
      refine nd_icmp_geN dX9_canByHand_90 97 (by decide) h (fun h => ?_) (fun h => ?_)
      · refine nd_iconst dX9_canByHand_97 ic_0 ?_
        exact nd_iret dX9_canByHand_98 (Nat.zero_le _) (Nat.zero_le _) rfl (by cases h; exact ⟨rfl, rfl, rfl⟩)
      · refine nd_iconst dX9_canByHand_93 ic_1 ?_
        refine nd_goto dX9_canByHand_94 98 (by decide) ?_
        exact nd_iret dX9_canByHand_98 (Nat.zero_le _) (Nat.zero_le _) rfl (by cases h; exact ⟨rfl, rfl, rfl⟩)
    rcases nd_ite_e h with ⟨c18, h⟩ | ⟨c18, h⟩
    · refine nd_tin dX9_canByHand_14 2 (by rw [c18] <;> decide) (by rw [c18] <;> decide) rfl 99 (by decide) ?_
      refine nd_aload_n dX9_canByHand_99 0 rfl ?_
      refine nd_get dX9_canByHand_100 gf_X9_9 hs.1 rfl ?_
      refine nd_iload_n dX9_canByHand_103 2 rfl ?_
      refine nd_iconst dX9_canByHand_104 ic_1 ?_
      obtain ⟨r19, σ20, hc21, h⟩ := nd_bind_e h
      refine nd_cvi [.int x2, .int (1 : Int32)] [] dX9_canByHand_105 cl_X9_42 hs.2.2.1.1 ⟨Nat.le_of_ble_eq_true rfl, Nat.le_of_ble_eq_true rfl⟩ rfl (Nat.le_of_ble_eq_true rfl) hL (t_X6_get F st sa sh hL hs.2.2.1 _ _ _ hc21) ?_
      refine nd_bipush dX9_canByHand_108 ib_9 ?_
      refine nd_icmp_geN dX9_canByHand_110 117 (by decide) h (fun h => ?_) (fun h => ?_)
      · refine nd_iconst dX9_canByHand_117 ic_0 ?_
        exact nd_iret dX9_canByHand_118 (Nat.zero_le _) (Nat.zero_le _) rfl (by cases h; exact ⟨rfl, rfl, rfl⟩)
      · refine nd_iconst dX9_canByHand_113 ic_1 ?_
        refine nd_goto dX9_canByHand_114 118 (by decide) ?_
        exact nd_iret dX9_canByHand_118 (Nat.zero_le _) (Nat.zero_le _) rfl (by cases h; exact ⟨rfl, rfl, rfl⟩)
    rcases nd_ite_e h with ⟨c22, h⟩ | ⟨c22, h⟩
    · refine nd_tin dX9_canByHand_14 3 (by rw [c22] <;> decide) (by rw [c22] <;> decide) rfl 119 (by decide) ?_
      refine nd_aload_n dX9_canByHand_119 0 rfl ?_
      refine nd_get dX9_canByHand_120 gf_X9_9 hs.1 rfl ?_
      refine nd_iload_n dX9_canByHand_123 2 rfl ?_
      refine nd_iconst dX9_canByHand_124 ic_4 ?_
      obtain ⟨r23, σ24, hc25, h⟩ := nd_bind_e h
      refine nd_cvi [.int x2, .int (4 : Int32)] [] dX9_canByHand_125 cl_X9_42 hs.2.2.1.1 ⟨Nat.le_of_ble_eq_true rfl, Nat.le_of_ble_eq_true rfl⟩ rfl (Nat.le_of_ble_eq_true rfl) hL (t_X6_get F st sa sh hL hs.2.2.1 _ _ _ hc25) ?_
      refine nd_iconst dX9_canByHand_128 ic_1 ?_
      refine nd_icmp_neN dX9_canByHand_129 136 (by decide) h (fun h => ?_) (fun h => ?_)
      · refine nd_iconst dX9_canByHand_136 ic_0 ?_
        exact nd_iret dX9_canByHand_137 (Nat.zero_le _) (Nat.zero_le _) rfl (by cases h; exact ⟨rfl, rfl, rfl⟩)
      · refine nd_iconst dX9_canByHand_132 ic_1 ?_
        refine nd_goto dX9_canByHand_133 137 (by decide) ?_
        exact nd_iret dX9_canByHand_137 (Nat.zero_le _) (Nat.zero_le _) rfl (by cases h; exact ⟨rfl, rfl, rfl⟩)
    rcases nd_ite_e h with ⟨c26, h⟩ | ⟨c26, h⟩
    · refine nd_tin dX9_canByHand_14 4 (by rw [c26] <;> decide) (by rw [c26] <;> decide) rfl 138 (by decide) ?_
      refine nd_aload_n dX9_canByHand_138 0 rfl ?_
      refine nd_get dX9_canByHand_139 gf_X9_9 hs.1 rfl ?_
      refine nd_get dX9_canByHand_142 gf_X9_71 hs.2.2.1.1 rfl ?_
      refine nd_iload_n dX9_canByHand_145 2 rfl ?_
      refine nd_icmp_eqN dX9_canByHand_146 153 (by decide) h (fun h => ?_) (fun h => ?_)
      · refine nd_iconst dX9_canByHand_153 ic_0 ?_
        exact nd_iret dX9_canByHand_154 (Nat.zero_le _) (Nat.zero_le _) rfl (by cases h; exact ⟨rfl, rfl, rfl⟩)
      · refine nd_iconst dX9_canByHand_149 ic_1 ?_
        refine nd_goto dX9_canByHand_150 154 (by decide) ?_
        exact nd_iret dX9_canByHand_154 (Nat.zero_le _) (Nat.zero_le _) rfl (by cases h; exact ⟨rfl, rfl, rfl⟩)
    refine nd_tout dX9_canByHand_14 (fun j h1 h2 => ?_) 155 (by decide) ?_
    · rcases (show j = 0 ∨ j = 1 ∨ j = 2 ∨ j = 3 ∨ j = 4 by omega) with rfl | rfl | rfl | rfl | rfl
      · exact fun e => c4 (e.trans ic_0)
      · exact fun e => c14 (e.trans ic_1)
      · exact fun e => c18 (e.trans ic_2)
      · exact fun e => c22 (e.trans ic_3)
      · exact fun e => c26 (e.trans ic_4)
    · refine nd_iconst dX9_canByHand_155 ic_0 ?_
      exact nd_iret dX9_canByHand_156 (Nat.zero_le _) (Nat.zero_le _) rfl (by cases h; exact ⟨rfl, rfl, rfl⟩)
  · refine nd_iconst dX9_canByHand_11 ic_0 ?_
    exact nd_iret dX9_canByHand_12 (Nat.zero_le _) (Nat.zero_le _) rfl (by cases h; exact ⟨rfl, rfl, rfl⟩)
def f_X9_carryOutPlans_82 (F : Nat) (rec13 : Int32 → Int32 → nd_Mem → nd_Res) (b a st sa : Nat) (x1 : Int32) (x2 : Int32) (σ : nd_Mem) : nd_Res := (rec13 x1 (x2 + (4 : Int32)) σ)
def f_X9_carryOutPlans_13_b (F : Nat) (rec13 : Int32 → Int32 → nd_Mem → nd_Res) (b a st sa : Nat) (x1 : Int32) (x2 : Int32) (σ : nd_Mem) : nd_Res := (if x1 ≤ x2 then (some (0, σ)) else (nd_bind (f_X4_at F 8 9 64 x2 σ) fun r1 σ2 => (if r1 = (σ2 st 6) then (nd_bind (f_X4_at F 8 9 64 (x2 + (1 : Int32)) σ2) fun r4 σ5 => (nd_bind (f_X4_at F 8 9 64 (x2 + (2 : Int32)) σ5) fun r7 σ8 => (nd_bind (f_X4_at F 8 9 64 (x2 + (3 : Int32)) σ8) fun r10 σ11 => (nd_bind (f_X9_carryOut F b a st sa r4 r7 r10 σ11) fun r13 σ14 => (f_X9_carryOutPlans_82 F rec13 b a st sa x1 x2 σ14))))) else (f_X9_carryOutPlans_82 F rec13 b a st sa x1 x2 σ2))))
def f_X9_carryOutPlans_13 (F : Nat) (b a st sa : Nat) : Nat → Int32 → Int32 → nd_Mem → nd_Res
  | 0, _, _, _ => none
  | m9 + 1, x1, x2, σ => f_X9_carryOutPlans_13_b F (f_X9_carryOutPlans_13 F b a st sa m9) b a st sa x1 x2 σ
def f_X9_carryOutPlans (F : Nat) (b a st sa : Nat) (σ : nd_Mem) : nd_Res := (f_X9_carryOutPlans_13 F b a st sa F (σ 8 1) (0 : Int32) σ)
set_option maxRecDepth 100000 in
set_option maxHeartbeats 4000000 in
theorem b_X9_carryOutPlans_82 (F : Nat) (rec13 : Int32 → Int32 → nd_Mem → nd_Res) (b a st sa : Nat) (sh : List nd_S) (hL : sh.length < nd_ro) (hs : is_Walk sh b a st sa) {z : Int32 × nd_Mem} (hrec13 : ∀ (x1 : Int32) (x2 : Int32) (σ : nd_Mem), rec13 x1 x2 σ = some z → nd_V M_X9_carryOutPlans (nd_rm 3) (nd_Pv sh z) 0 0 13 [(0, .ref b), (1, .int x1), (2, .int x2)] [] sh σ) (x1 : Int32) (x2 : Int32) (σ : nd_Mem) (h : f_X9_carryOutPlans_82 F rec13 b a st sa x1 x2 σ = some z) : nd_V M_X9_carryOutPlans (nd_rm 3) (nd_Pv sh z) 0 0 82 [(0, .ref b), (1, .int x1), (2, .int x2)] [] sh σ := by
  unfold f_X9_carryOutPlans_82 at h
  refine nd_iinc (v := (x2 + (4 : Int32))) (ls' := [(2, .int (x2 + (4 : Int32))), (0, .ref b), (1, .int x1)]) dX9_carryOutPlans_82 2 rfl (congrArg (HAdd.hAdd _) ic_4) (by decide) rfl ?_
  refine nd_goto dX9_carryOutPlans_85 13 (by decide) ?_
  refine nd_sub [1, 2, 0] rfl ?_
  exact hrec13 _ _ _ h
set_option maxRecDepth 100000 in
set_option maxHeartbeats 4000000 in
theorem b_X9_carryOutPlans_13 (F : Nat) (b a st sa : Nat) (sh : List nd_S) (hL : sh.length < nd_ro) (hs : is_Walk sh b a st sa) {z : Int32 × nd_Mem} (m9 : Nat) : ∀ (x1 : Int32) (x2 : Int32) (σ : nd_Mem), f_X9_carryOutPlans_13 F b a st sa m9 x1 x2 σ = some z → nd_V M_X9_carryOutPlans (nd_rm 3) (nd_Pv sh z) 0 0 13 [(0, .ref b), (1, .int x1), (2, .int x2)] [] sh σ := by
  induction m9 with
  | zero =>
    intro x1 x2 σ h
    have h : none = some z := h
    cases h
  | succ m9 hrec13 =>
    intro x1 x2 σ h
    have h : f_X9_carryOutPlans_13_b F (f_X9_carryOutPlans_13 F b a st sa m9) b a st sa x1 x2 σ = some z := h
    unfold f_X9_carryOutPlans_13_b at h
    refine nd_iload_n dX9_carryOutPlans_13 2 rfl ?_
    refine nd_iload_n dX9_carryOutPlans_14 1 rfl ?_
    refine nd_icmp_geN dX9_carryOutPlans_15 88 (by decide) h (fun h => ?_) (fun h => ?_)
    · exact nd_vret dX9_carryOutPlans_88 (Nat.zero_le _) (Nat.zero_le _) trivial (by cases h; exact ⟨rfl, rfl, rfl⟩)
    · refine nd_aload_n dX9_carryOutPlans_18 0 rfl ?_
      refine nd_get dX9_carryOutPlans_19 gf_X9_15 hs.1 rfl ?_
      refine nd_get dX9_carryOutPlans_22 gf_X9_90 hs.2.2.2.1.1 rfl ?_
      refine nd_iload_n dX9_carryOutPlans_25 2 rfl ?_
      obtain ⟨r1, σ2, hc3, h⟩ := nd_bind_e h
      refine nd_cvi [.int x2] [] dX9_carryOutPlans_26 cl_X9_99 hs.2.2.2.1.2.2.2.1.1 ⟨Nat.le_of_ble_eq_true rfl, Nat.le_of_ble_eq_true rfl⟩ rfl (Nat.le_of_ble_eq_true rfl) hL (t_X4_at F 8 9 64 sh hL hs.2.2.2.1.2.2.2.1 _ _ hc3) ?_
      refine nd_aload_n dX9_carryOutPlans_29 0 rfl ?_
      refine nd_get dX9_carryOutPlans_30 gf_X9_9 hs.1 rfl ?_
      refine nd_get dX9_carryOutPlans_33 gf_X9_56 hs.2.2.1.1 rfl ?_
      refine nd_icmp_neN dX9_carryOutPlans_36 82 (by decide) h (fun h => ?_) (fun h => ?_)
      · exact b_X9_carryOutPlans_82 F _ b a st sa sh hL hs hrec13 _ _ _ h
      · refine nd_aload_n dX9_carryOutPlans_39 0 rfl ?_
        refine nd_aload_n dX9_carryOutPlans_40 0 rfl ?_
        refine nd_get dX9_carryOutPlans_41 gf_X9_15 hs.1 rfl ?_
        refine nd_get dX9_carryOutPlans_44 gf_X9_90 hs.2.2.2.1.1 rfl ?_
        refine nd_iload_n dX9_carryOutPlans_47 2 rfl ?_
        refine nd_iconst dX9_carryOutPlans_48 ic_1 ?_
        refine nd_iadd dX9_carryOutPlans_49 ?_
        obtain ⟨r4, σ5, hc6, h⟩ := nd_bind_e h
        refine nd_cvi [.int (x2 + (1 : Int32))] [.ref b] dX9_carryOutPlans_50 cl_X9_99 hs.2.2.2.1.2.2.2.1.1 ⟨Nat.le_of_ble_eq_true rfl, Nat.le_of_ble_eq_true rfl⟩ rfl (Nat.le_of_ble_eq_true rfl) hL (t_X4_at F 8 9 64 sh hL hs.2.2.2.1.2.2.2.1 _ _ hc6) ?_
        refine nd_aload_n dX9_carryOutPlans_53 0 rfl ?_
        refine nd_get dX9_carryOutPlans_54 gf_X9_15 hs.1 rfl ?_
        refine nd_get dX9_carryOutPlans_57 gf_X9_90 hs.2.2.2.1.1 rfl ?_
        refine nd_iload_n dX9_carryOutPlans_60 2 rfl ?_
        refine nd_iconst dX9_carryOutPlans_61 ic_2 ?_
        refine nd_iadd dX9_carryOutPlans_62 ?_
        obtain ⟨r7, σ8, hc9, h⟩ := nd_bind_e h
        refine nd_cvi [.int (x2 + (2 : Int32))] [.int r4, .ref b] dX9_carryOutPlans_63 cl_X9_99 hs.2.2.2.1.2.2.2.1.1 ⟨Nat.le_of_ble_eq_true rfl, Nat.le_of_ble_eq_true rfl⟩ rfl (Nat.le_of_ble_eq_true rfl) hL (t_X4_at F 8 9 64 sh hL hs.2.2.2.1.2.2.2.1 _ _ hc9) ?_
        refine nd_aload_n dX9_carryOutPlans_66 0 rfl ?_
        refine nd_get dX9_carryOutPlans_67 gf_X9_15 hs.1 rfl ?_
        refine nd_get dX9_carryOutPlans_70 gf_X9_90 hs.2.2.2.1.1 rfl ?_
        refine nd_iload_n dX9_carryOutPlans_73 2 rfl ?_
        refine nd_iconst dX9_carryOutPlans_74 ic_3 ?_
        refine nd_iadd dX9_carryOutPlans_75 ?_
        obtain ⟨r10, σ11, hc12, h⟩ := nd_bind_e h
        refine nd_cvi [.int (x2 + (3 : Int32))] [.int r7, .int r4, .ref b] dX9_carryOutPlans_76 cl_X9_99 hs.2.2.2.1.2.2.2.1.1 ⟨Nat.le_of_ble_eq_true rfl, Nat.le_of_ble_eq_true rfl⟩ rfl (Nat.le_of_ble_eq_true rfl) hL (t_X4_at F 8 9 64 sh hL hs.2.2.2.1.2.2.2.1 _ _ hc12) ?_
        obtain ⟨r13, σ14, hc15, h⟩ := nd_bind_e h
        refine nd_cvv [.int r4, .int r7, .int r10] [] dX9_carryOutPlans_79 cl_X9_102 hs.1 ⟨Nat.le_of_ble_eq_true rfl, Nat.le_of_ble_eq_true rfl⟩ rfl (Nat.le_of_ble_eq_true rfl) hL (t_X9_carryOut F b a st sa sh hL hs _ _ _ _ hc15) ?_
        exact b_X9_carryOutPlans_82 F _ b a st sa sh hL hs hrec13 _ _ _ h
set_option maxRecDepth 100000 in
set_option maxHeartbeats 4000000 in
theorem t_X9_carryOutPlans (F : Nat) (b a st sa : Nat) (sh : List nd_S) (hL : sh.length < nd_ro) (hs : is_Walk sh b a st sa) {z : Int32 × nd_Mem} (σ : nd_Mem) (h : f_X9_carryOutPlans F b a st sa σ = some z) : nd_Fn M_X9_carryOutPlans (nd_rm 3) [.ref b] sh σ (nd_Pv sh z) := by
  refine nd_Fn.ofV (ls := [(0, .ref b)]) pl_X9_carryOutPlans rfl (fun _ => Nat.le_of_ble_eq_true rfl) (fun _ => rfl) ?_
  unfold f_X9_carryOutPlans at h
  refine nd_aload_n dX9_carryOutPlans_0 0 rfl ?_
  refine nd_get dX9_carryOutPlans_1 gf_X9_15 hs.1 rfl ?_
  refine nd_get dX9_carryOutPlans_4 gf_X9_90 hs.2.2.2.1.1 rfl ?_
  refine nd_get dX9_carryOutPlans_7 gf_X9_94 hs.2.2.2.1.2.2.2.1.1 rfl ?_
  refine nd_istore_n (ls' := [(1, .int (σ 8 1)), (0, .ref b)]) dX9_carryOutPlans_10 (by decide) rfl ?_
  refine nd_iconst dX9_carryOutPlans_11 ic_0 ?_
  refine nd_istore_n (ls' := [(2, .int (0 : Int32)), (1, .int (σ 8 1)), (0, .ref b)]) dX9_carryOutPlans_12 (by decide) rfl ?_
  refine nd_sub [2, 1, 0] rfl ?_
  exact b_X9_carryOutPlans_13 F b a st sa sh hL hs F _ _ _ h
def f_X9_bear_105 (F : Nat) (rec18 : Int32 → Int32 → Int32 → Int32 → Int32 → nd_Mem → nd_Res) (rec35 : Int32 → Int32 → Int32 → Int32 → Int32 → Int32 → Int32 → nd_Mem → nd_Res) (b a st sa : Nat) (x1 : Int32) (x2 : Int32) (x3 : Int32) (x4 : Int32) (x5 : Int32) (x6 : Int32) (x7 : Int32) (σ : nd_Mem) : nd_Res := (rec35 x1 x2 x3 x4 x5 x6 (x7 + (1 : Int32)) σ)
def f_X9_bear_71 (F : Nat) (rec18 : Int32 → Int32 → Int32 → Int32 → Int32 → nd_Mem → nd_Res) (rec35 : Int32 → Int32 → Int32 → Int32 → Int32 → Int32 → Int32 → nd_Mem → nd_Res) (b a st sa : Nat) (x1 : Int32) (x2 : Int32) (x3 : Int32) (x4 : Int32) (x5 : Int32) (x6 : Int32) (x7 : Int32) (s0 : Int32) (σ : nd_Mem) : nd_Res := (nd_bind (f_X6_get F st sa x1 s0 σ) fun r1 σ2 => (if (9 : Int32) ≤ r1 then (f_X9_bear_105 F rec18 rec35 b a st sa x1 x2 (x3 + (1 : Int32)) x4 x5 x6 x7 σ2) else (nd_bind (f_X6_add F st sa x1 s0 (1 : Int32) σ2) fun r4 σ5 => (f_X9_bear_105 F rec18 rec35 b a st sa x1 x2 (x3 + (1 : Int32)) (x4 + (1 : Int32)) x5 x6 x7 σ5))))
def f_X9_bear_63 (F : Nat) (rec18 : Int32 → Int32 → Int32 → Int32 → Int32 → nd_Mem → nd_Res) (rec35 : Int32 → Int32 → Int32 → Int32 → Int32 → Int32 → Int32 → nd_Mem → nd_Res) (b a st sa : Nat) (x1 : Int32) (x2 : Int32) (x3 : Int32) (x4 : Int32) (x5 : Int32) (x6 : Int32) (x7 : Int32) (s0 : Int32) (σ : nd_Mem) : nd_Res := (if s0 = 0 then (f_X9_bear_71 F rec18 rec35 b a st sa x1 x2 x3 x4 x5 x6 x7 (0 : Int32) σ) else (f_X9_bear_71 F rec18 rec35 b a st sa x1 x2 x3 x4 x5 x6 x7 (1 : Int32) σ))
def f_X9_bear_35_b (F : Nat) (rec18 : Int32 → Int32 → Int32 → Int32 → Int32 → nd_Mem → nd_Res) (rec35 : Int32 → Int32 → Int32 → Int32 → Int32 → Int32 → Int32 → nd_Mem → nd_Res) (b a st sa : Nat) (x1 : Int32) (x2 : Int32) (x3 : Int32) (x4 : Int32) (x5 : Int32) (x6 : Int32) (x7 : Int32) (σ : nd_Mem) : nd_Res := (if x6 ≤ x7 then (rec18 x1 x2 x3 x4 (x5 + (1 : Int32)) σ) else (if (σ b 3) = 0 then (nd_bind (f_X6_draw F st sa (2 : Int32) σ) fun r1 σ2 => (f_X9_bear_63 F rec18 rec35 b a st sa x1 x2 x3 x4 x5 x6 x7 r1 σ2)) else (f_X9_bear_63 F rec18 rec35 b a st sa x1 x2 x3 x4 x5 x6 x7 (q_rem x3 (2 : Int32)) σ)))
def f_X9_bear_35 (F : Nat) (rec18 : Int32 → Int32 → Int32 → Int32 → Int32 → nd_Mem → nd_Res) (b a st sa : Nat) : Nat → Int32 → Int32 → Int32 → Int32 → Int32 → Int32 → Int32 → nd_Mem → nd_Res
  | 0, _, _, _, _, _, _, _, _ => none
  | m9 + 1, x1, x2, x3, x4, x5, x6, x7, σ => f_X9_bear_35_b F rec18 (f_X9_bear_35 F rec18 b a st sa m9) b a st sa x1 x2 x3 x4 x5 x6 x7 σ
def f_X9_bear_18_b (F : Nat) (rec18 : Int32 → Int32 → Int32 → Int32 → Int32 → nd_Mem → nd_Res) (b a st sa : Nat) (x1 : Int32) (x2 : Int32) (x3 : Int32) (x4 : Int32) (x5 : Int32) (σ : nd_Mem) : nd_Res := (if x2 ≤ x5 then (nd_bind (f_X6_put F st sa x1 (3 : Int32) (0 : Int32) σ) fun r1 σ2 => (if x4 ≤ 0 then (some (0, σ2)) else (nd_bind (f_X9_note F b a st sa (3 : Int32) x1 x4 σ2) fun r4 σ5 => (some (0, σ5))))) else (nd_bind (f_X9_ask F b a st sa (1 : Int32) x1 σ) fun r7 σ8 => (f_X9_bear_35 F rec18 b a st sa F x1 x2 x3 x4 x5 r7 (0 : Int32) σ8)))
def f_X9_bear_18 (F : Nat) (b a st sa : Nat) : Nat → Int32 → Int32 → Int32 → Int32 → Int32 → nd_Mem → nd_Res
  | 0, _, _, _, _, _, _ => none
  | m9 + 1, x1, x2, x3, x4, x5, σ => f_X9_bear_18_b F (f_X9_bear_18 F b a st sa m9) b a st sa x1 x2 x3 x4 x5 σ
def f_X9_bear (F : Nat) (b a st sa : Nat) (x1 : Int32) (σ : nd_Mem) : nd_Res := (nd_bind (f_X6_get F st sa x1 (3 : Int32) σ) fun r1 σ2 => (f_X9_bear_18 F b a st sa F x1 r1 (0 : Int32) (0 : Int32) (0 : Int32) σ2))
set_option maxRecDepth 100000 in
set_option maxHeartbeats 4000000 in
theorem b_X9_bear_105 (F : Nat) (rec18 : Int32 → Int32 → Int32 → Int32 → Int32 → nd_Mem → nd_Res) (rec35 : Int32 → Int32 → Int32 → Int32 → Int32 → Int32 → Int32 → nd_Mem → nd_Res) (b a st sa : Nat) (sh : List nd_S) (hL : sh.length < nd_ro) (hs : is_Walk sh b a st sa) {z : Int32 × nd_Mem} (hrec18 : ∀ (x1 : Int32) (x2 : Int32) (x3 : Int32) (x4 : Int32) (x5 : Int32) (σ : nd_Mem), rec18 x1 x2 x3 x4 x5 σ = some z → nd_V M_X9_bear (nd_rm 4) (nd_Pv sh z) 0 0 18 [(0, .ref b), (1, .int x1), (2, .int x2), (3, .int x3), (4, .int x4), (5, .int x5)] [] sh σ) (hrec35 : ∀ (x1 : Int32) (x2 : Int32) (x3 : Int32) (x4 : Int32) (x5 : Int32) (x6 : Int32) (x7 : Int32) (σ : nd_Mem), rec35 x1 x2 x3 x4 x5 x6 x7 σ = some z → nd_V M_X9_bear (nd_rm 4) (nd_Pv sh z) 0 0 35 [(0, .ref b), (1, .int x1), (2, .int x2), (3, .int x3), (4, .int x4), (5, .int x5), (6, .int x6), (7, .int x7)] [] sh σ) (x1 : Int32) (x2 : Int32) (x3 : Int32) (x4 : Int32) (x5 : Int32) (x6 : Int32) (x7 : Int32) (σ : nd_Mem) (h : f_X9_bear_105 F rec18 rec35 b a st sa x1 x2 x3 x4 x5 x6 x7 σ = some z) : nd_V M_X9_bear (nd_rm 4) (nd_Pv sh z) 0 0 105 [(0, .ref b), (1, .int x1), (2, .int x2), (3, .int x3), (4, .int x4), (5, .int x5), (6, .int x6), (7, .int x7)] [] sh σ := by
  unfold f_X9_bear_105 at h
  refine nd_iinc (v := (x7 + (1 : Int32))) (ls' := [(7, .int (x7 + (1 : Int32))), (0, .ref b), (1, .int x1), (2, .int x2), (3, .int x3), (4, .int x4), (5, .int x5), (6, .int x6)]) dX9_bear_105 7 rfl (congrArg (HAdd.hAdd _) ic_1) (by decide) rfl ?_
  refine nd_goto dX9_bear_108 35 (by decide) ?_
  refine nd_sub [1, 2, 3, 4, 5, 6, 7, 0] rfl ?_
  exact hrec35 _ _ _ _ _ _ _ _ h
set_option maxRecDepth 100000 in
set_option maxHeartbeats 4000000 in
theorem b_X9_bear_71 (F : Nat) (rec18 : Int32 → Int32 → Int32 → Int32 → Int32 → nd_Mem → nd_Res) (rec35 : Int32 → Int32 → Int32 → Int32 → Int32 → Int32 → Int32 → nd_Mem → nd_Res) (b a st sa : Nat) (sh : List nd_S) (hL : sh.length < nd_ro) (hs : is_Walk sh b a st sa) {z : Int32 × nd_Mem} (hrec18 : ∀ (x1 : Int32) (x2 : Int32) (x3 : Int32) (x4 : Int32) (x5 : Int32) (σ : nd_Mem), rec18 x1 x2 x3 x4 x5 σ = some z → nd_V M_X9_bear (nd_rm 4) (nd_Pv sh z) 0 0 18 [(0, .ref b), (1, .int x1), (2, .int x2), (3, .int x3), (4, .int x4), (5, .int x5)] [] sh σ) (hrec35 : ∀ (x1 : Int32) (x2 : Int32) (x3 : Int32) (x4 : Int32) (x5 : Int32) (x6 : Int32) (x7 : Int32) (σ : nd_Mem), rec35 x1 x2 x3 x4 x5 x6 x7 σ = some z → nd_V M_X9_bear (nd_rm 4) (nd_Pv sh z) 0 0 35 [(0, .ref b), (1, .int x1), (2, .int x2), (3, .int x3), (4, .int x4), (5, .int x5), (6, .int x6), (7, .int x7)] [] sh σ) (x1 : Int32) (x2 : Int32) (x3 : Int32) (x4 : Int32) (x5 : Int32) (x6 : Int32) (x7 : Int32) (s0 : Int32) (σ : nd_Mem) (h : f_X9_bear_71 F rec18 rec35 b a st sa x1 x2 x3 x4 x5 x6 x7 s0 σ = some z) : nd_V M_X9_bear (nd_rm 4) (nd_Pv sh z) 0 0 71 [(0, .ref b), (1, .int x1), (2, .int x2), (3, .int x3), (4, .int x4), (5, .int x5), (6, .int x6), (7, .int x7)] [.int s0] sh σ := by
  unfold f_X9_bear_71 at h
  refine nd_istore (ls' := [(8, .int s0), (0, .ref b), (1, .int x1), (2, .int x2), (3, .int x3), (4, .int x4), (5, .int x5), (6, .int x6), (7, .int x7)]) dX9_bear_71 (by decide) rfl ?_
  refine nd_iinc (v := (x3 + (1 : Int32))) (ls' := [(3, .int (x3 + (1 : Int32))), (8, .int s0), (0, .ref b), (1, .int x1), (2, .int x2), (4, .int x4), (5, .int x5), (6, .int x6), (7, .int x7)]) dX9_bear_73 4 rfl (congrArg (HAdd.hAdd _) ic_1) (by decide) rfl ?_
  refine nd_aload_n dX9_bear_76 2 rfl ?_
  refine nd_get dX9_bear_77 gf_X9_9 hs.1 rfl ?_
  refine nd_iload_n dX9_bear_80 3 rfl ?_
  refine nd_iload dX9_bear_81 1 rfl ?_
  obtain ⟨r1, σ2, hc3, h⟩ := nd_bind_e h
  refine nd_cvi [.int x1, .int s0] [] dX9_bear_83 cl_X9_42 hs.2.2.1.1 ⟨Nat.le_of_ble_eq_true rfl, Nat.le_of_ble_eq_true rfl⟩ rfl (Nat.le_of_ble_eq_true rfl) hL (t_X6_get F st sa sh hL hs.2.2.1 _ _ _ hc3) ?_
  refine nd_bipush dX9_bear_86 ib_9 ?_
  refine nd_icmp_geN dX9_bear_88 105 (by decide) h (fun h => ?_) (fun h => ?_)
  · refine nd_sub [2, 3, 4, 0, 5, 6, 7, 8] rfl ?_
    exact b_X9_bear_105 F _ _ b a st sa sh hL hs hrec18 hrec35 _ _ _ _ _ _ _ _ h
  · refine nd_aload_n dX9_bear_91 2 rfl ?_
    refine nd_get dX9_bear_92 gf_X9_9 hs.1 rfl ?_
    refine nd_iload_n dX9_bear_95 3 rfl ?_
    refine nd_iload dX9_bear_96 1 rfl ?_
    refine nd_iconst dX9_bear_98 ic_1 ?_
    obtain ⟨r4, σ5, hc6, h⟩ := nd_bind_e h
    refine nd_cvv [.int x1, .int s0, .int (1 : Int32)] [] dX9_bear_99 cl_X9_78 hs.2.2.1.1 ⟨Nat.le_of_ble_eq_true rfl, Nat.le_of_ble_eq_true rfl⟩ rfl (Nat.le_of_ble_eq_true rfl) hL (t_X6_add F st sa sh hL hs.2.2.1 _ _ _ _ hc6) ?_
    refine nd_iinc (v := (x4 + (1 : Int32))) (ls' := [(4, .int (x4 + (1 : Int32))), (3, .int (x3 + (1 : Int32))), (8, .int s0), (0, .ref b), (1, .int x1), (2, .int x2), (5, .int x5), (6, .int x6), (7, .int x7)]) dX9_bear_102 5 rfl (congrArg (HAdd.hAdd _) ic_1) (by decide) rfl ?_
    refine nd_sub [3, 4, 5, 1, 0, 6, 7, 8] rfl ?_
    exact b_X9_bear_105 F _ _ b a st sa sh hL hs hrec18 hrec35 _ _ _ _ _ _ _ _ h
set_option maxRecDepth 100000 in
set_option maxHeartbeats 4000000 in
theorem b_X9_bear_63 (F : Nat) (rec18 : Int32 → Int32 → Int32 → Int32 → Int32 → nd_Mem → nd_Res) (rec35 : Int32 → Int32 → Int32 → Int32 → Int32 → Int32 → Int32 → nd_Mem → nd_Res) (b a st sa : Nat) (sh : List nd_S) (hL : sh.length < nd_ro) (hs : is_Walk sh b a st sa) {z : Int32 × nd_Mem} (hrec18 : ∀ (x1 : Int32) (x2 : Int32) (x3 : Int32) (x4 : Int32) (x5 : Int32) (σ : nd_Mem), rec18 x1 x2 x3 x4 x5 σ = some z → nd_V M_X9_bear (nd_rm 4) (nd_Pv sh z) 0 0 18 [(0, .ref b), (1, .int x1), (2, .int x2), (3, .int x3), (4, .int x4), (5, .int x5)] [] sh σ) (hrec35 : ∀ (x1 : Int32) (x2 : Int32) (x3 : Int32) (x4 : Int32) (x5 : Int32) (x6 : Int32) (x7 : Int32) (σ : nd_Mem), rec35 x1 x2 x3 x4 x5 x6 x7 σ = some z → nd_V M_X9_bear (nd_rm 4) (nd_Pv sh z) 0 0 35 [(0, .ref b), (1, .int x1), (2, .int x2), (3, .int x3), (4, .int x4), (5, .int x5), (6, .int x6), (7, .int x7)] [] sh σ) (x1 : Int32) (x2 : Int32) (x3 : Int32) (x4 : Int32) (x5 : Int32) (x6 : Int32) (x7 : Int32) (s0 : Int32) (σ : nd_Mem) (h : f_X9_bear_63 F rec18 rec35 b a st sa x1 x2 x3 x4 x5 x6 x7 s0 σ = some z) : nd_V M_X9_bear (nd_rm 4) (nd_Pv sh z) 0 0 63 [(0, .ref b), (1, .int x1), (2, .int x2), (3, .int x3), (4, .int x4), (5, .int x5), (6, .int x6), (7, .int x7)] [.int s0] sh σ := by
  unfold f_X9_bear_63 at h
  refine nd_if_neN dX9_bear_63 70 (by decide) h (fun h => ?_) (fun h => ?_)
  · refine nd_iconst dX9_bear_70 ic_1 ?_
    exact b_X9_bear_71 F _ _ b a st sa sh hL hs hrec18 hrec35 _ _ _ _ _ _ _ _ _ h
  · refine nd_iconst dX9_bear_66 ic_0 ?_
    refine nd_goto dX9_bear_67 71 (by decide) ?_
    exact b_X9_bear_71 F _ _ b a st sa sh hL hs hrec18 hrec35 _ _ _ _ _ _ _ _ _ h
set_option maxRecDepth 100000 in
set_option maxHeartbeats 4000000 in
theorem b_X9_bear_35 (F : Nat) (rec18 : Int32 → Int32 → Int32 → Int32 → Int32 → nd_Mem → nd_Res) (b a st sa : Nat) (sh : List nd_S) (hL : sh.length < nd_ro) (hs : is_Walk sh b a st sa) {z : Int32 × nd_Mem} (hrec18 : ∀ (x1 : Int32) (x2 : Int32) (x3 : Int32) (x4 : Int32) (x5 : Int32) (σ : nd_Mem), rec18 x1 x2 x3 x4 x5 σ = some z → nd_V M_X9_bear (nd_rm 4) (nd_Pv sh z) 0 0 18 [(0, .ref b), (1, .int x1), (2, .int x2), (3, .int x3), (4, .int x4), (5, .int x5)] [] sh σ) (m9 : Nat) : ∀ (x1 : Int32) (x2 : Int32) (x3 : Int32) (x4 : Int32) (x5 : Int32) (x6 : Int32) (x7 : Int32) (σ : nd_Mem), f_X9_bear_35 F rec18 b a st sa m9 x1 x2 x3 x4 x5 x6 x7 σ = some z → nd_V M_X9_bear (nd_rm 4) (nd_Pv sh z) 0 0 35 [(0, .ref b), (1, .int x1), (2, .int x2), (3, .int x3), (4, .int x4), (5, .int x5), (6, .int x6), (7, .int x7)] [] sh σ := by
  induction m9 with
  | zero =>
    intro x1 x2 x3 x4 x5 x6 x7 σ h
    have h : none = some z := h
    cases h
  | succ m9 hrec35 =>
    intro x1 x2 x3 x4 x5 x6 x7 σ h
    have h : f_X9_bear_35_b F rec18 (f_X9_bear_35 F rec18 b a st sa m9) b a st sa x1 x2 x3 x4 x5 x6 x7 σ = some z := h
    unfold f_X9_bear_35_b at h
    refine nd_iload dX9_bear_35 7 rfl ?_
    refine nd_iload dX9_bear_37 6 rfl ?_
    refine nd_icmp_geN dX9_bear_39 111 (by decide) h (fun h => ?_) (fun h => ?_)
    · refine nd_iinc (v := (x5 + (1 : Int32))) (ls' := [(5, .int (x5 + (1 : Int32))), (0, .ref b), (1, .int x1), (2, .int x2), (3, .int x3), (4, .int x4), (6, .int x6), (7, .int x7)]) dX9_bear_111 5 rfl (congrArg (HAdd.hAdd _) ic_1) (by decide) rfl ?_
      refine nd_goto dX9_bear_114 18 (by decide) ?_
      refine nd_sub [1, 2, 3, 4, 5, 0] rfl ?_
      exact hrec18 _ _ _ _ _ _ h
    · refine nd_aload_n dX9_bear_42 0 rfl ?_
      refine nd_get dX9_bear_43 gf_X9_23 hs.1 rfl ?_
      refine nd_if_eqN dX9_bear_46 55 (by decide) h (fun h => ?_) (fun h => ?_)
      · refine nd_aload_n dX9_bear_55 0 rfl ?_
        refine nd_get dX9_bear_56 gf_X9_9 hs.1 rfl ?_
        refine nd_iconst dX9_bear_59 ic_2 ?_
        obtain ⟨r1, σ2, hc3, h⟩ := nd_bind_e h
        refine nd_cvi [.int (2 : Int32)] [] dX9_bear_60 cl_X9_120 hs.2.2.1.1 ⟨Nat.le_of_ble_eq_true rfl, Nat.le_of_ble_eq_true rfl⟩ rfl (Nat.le_of_ble_eq_true rfl) hL (t_X6_draw F st sa sh hL hs.2.2.1 _ _ hc3) ?_
        exact b_X9_bear_63 F _ _ b a st sa sh hL hs hrec18 hrec35 _ _ _ _ _ _ _ _ _ h
      · refine nd_iload_n dX9_bear_49 3 rfl ?_
        refine nd_iconst dX9_bear_50 ic_2 ?_
        refine nd_irem dX9_bear_51 (by decide) ?_
        refine nd_goto dX9_bear_52 63 (by decide) ?_
        exact b_X9_bear_63 F _ _ b a st sa sh hL hs hrec18 hrec35 _ _ _ _ _ _ _ _ _ h
set_option maxRecDepth 100000 in
set_option maxHeartbeats 4000000 in
theorem b_X9_bear_18 (F : Nat) (b a st sa : Nat) (sh : List nd_S) (hL : sh.length < nd_ro) (hs : is_Walk sh b a st sa) {z : Int32 × nd_Mem} (m9 : Nat) : ∀ (x1 : Int32) (x2 : Int32) (x3 : Int32) (x4 : Int32) (x5 : Int32) (σ : nd_Mem), f_X9_bear_18 F b a st sa m9 x1 x2 x3 x4 x5 σ = some z → nd_V M_X9_bear (nd_rm 4) (nd_Pv sh z) 0 0 18 [(0, .ref b), (1, .int x1), (2, .int x2), (3, .int x3), (4, .int x4), (5, .int x5)] [] sh σ := by
  induction m9 with
  | zero =>
    intro x1 x2 x3 x4 x5 σ h
    have h : none = some z := h
    cases h
  | succ m9 hrec18 =>
    intro x1 x2 x3 x4 x5 σ h
    have h : f_X9_bear_18_b F (f_X9_bear_18 F b a st sa m9) b a st sa x1 x2 x3 x4 x5 σ = some z := h
    unfold f_X9_bear_18_b at h
    refine nd_iload dX9_bear_18 5 rfl ?_
    refine nd_iload_n dX9_bear_20 2 rfl ?_
    refine nd_icmp_geN dX9_bear_21 117 (by decide) h (fun h => ?_) (fun h => ?_)
    · refine nd_aload_n dX9_bear_117 0 rfl ?_
      refine nd_get dX9_bear_118 gf_X9_9 hs.1 rfl ?_
      refine nd_iload_n dX9_bear_121 1 rfl ?_
      refine nd_iconst dX9_bear_122 ic_3 ?_
      refine nd_iconst dX9_bear_123 ic_0 ?_
      obtain ⟨r1, σ2, hc3, h⟩ := nd_bind_e h
      refine nd_cvv [.int x1, .int (3 : Int32), .int (0 : Int32)] [] dX9_bear_124 cl_X9_82 hs.2.2.1.1 ⟨Nat.le_of_ble_eq_true rfl, Nat.le_of_ble_eq_true rfl⟩ rfl (Nat.le_of_ble_eq_true rfl) hL (t_X6_put F st sa sh hL hs.2.2.1 _ _ _ _ hc3) ?_
      refine nd_iload dX9_bear_127 4 rfl ?_
      refine nd_if_leN dX9_bear_129 140 (by decide) h (fun h => ?_) (fun h => ?_)
      · exact nd_vret dX9_bear_140 (Nat.zero_le _) (Nat.zero_le _) trivial (by cases h; exact ⟨rfl, rfl, rfl⟩)
      · refine nd_aload_n dX9_bear_132 0 rfl ?_
        refine nd_iconst dX9_bear_133 ic_3 ?_
        refine nd_iload_n dX9_bear_134 1 rfl ?_
        refine nd_iload dX9_bear_135 4 rfl ?_
        obtain ⟨r4, σ5, hc6, h⟩ := nd_bind_e h
        refine nd_cvv [.int (3 : Int32), .int x1, .int x4] [] dX9_bear_137 cl_X9_108 hs.1 ⟨Nat.le_of_ble_eq_true rfl, Nat.le_of_ble_eq_true rfl⟩ rfl (Nat.le_of_ble_eq_true rfl) hL (t_X9_note F b a st sa sh hL hs _ _ _ _ hc6) ?_
        exact nd_vret dX9_bear_140 (Nat.zero_le _) (Nat.zero_le _) trivial (by cases h; exact ⟨rfl, rfl, rfl⟩)
    · refine nd_aload_n dX9_bear_24 0 rfl ?_
      refine nd_iconst dX9_bear_25 ic_1 ?_
      refine nd_iload_n dX9_bear_26 1 rfl ?_
      obtain ⟨r7, σ8, hc9, h⟩ := nd_bind_e h
      refine nd_cvi [.int (1 : Int32), .int x1] [] dX9_bear_27 cl_X9_111 hs.1 ⟨Nat.le_of_ble_eq_true rfl, Nat.le_of_ble_eq_true rfl⟩ rfl (Nat.le_of_ble_eq_true rfl) hL (t_X9_ask F b a st sa sh hL hs _ _ _ hc9) ?_
      refine nd_istore (ls' := [(6, .int r7), (0, .ref b), (1, .int x1), (2, .int x2), (3, .int x3), (4, .int x4), (5, .int x5)]) dX9_bear_30 (by decide) rfl ?_
      refine nd_iconst dX9_bear_32 ic_0 ?_
      refine nd_istore (ls' := [(7, .int (0 : Int32)), (6, .int r7), (0, .ref b), (1, .int x1), (2, .int x2), (3, .int x3), (4, .int x4), (5, .int x5)]) dX9_bear_33 (by decide) rfl ?_
      refine nd_sub [2, 3, 4, 5, 6, 7, 1, 0] rfl ?_
      exact b_X9_bear_35 F _ b a st sa sh hL hs hrec18 F _ _ _ _ _ _ _ _ h
set_option maxRecDepth 100000 in
set_option maxHeartbeats 4000000 in
theorem t_X9_bear (F : Nat) (b a st sa : Nat) (sh : List nd_S) (hL : sh.length < nd_ro) (hs : is_Walk sh b a st sa) {z : Int32 × nd_Mem} (x1 : Int32) (σ : nd_Mem) (h : f_X9_bear F b a st sa x1 σ = some z) : nd_Fn M_X9_bear (nd_rm 4) [.ref b, .int x1] sh σ (nd_Pv sh z) := by
  refine nd_Fn.ofV (ls := [(0, .ref b), (1, .int x1)]) pl_X9_bear rfl (fun _ => Nat.le_of_ble_eq_true rfl) (fun _ => rfl) ?_
  unfold f_X9_bear at h
  refine nd_aload_n dX9_bear_0 0 rfl ?_
  refine nd_get dX9_bear_1 gf_X9_9 hs.1 rfl ?_
  refine nd_iload_n dX9_bear_4 1 rfl ?_
  refine nd_iconst dX9_bear_5 ic_3 ?_
  obtain ⟨r1, σ2, hc3, h⟩ := nd_bind_e h
  refine nd_cvi [.int x1, .int (3 : Int32)] [] dX9_bear_6 cl_X9_42 hs.2.2.1.1 ⟨Nat.le_of_ble_eq_true rfl, Nat.le_of_ble_eq_true rfl⟩ rfl (Nat.le_of_ble_eq_true rfl) hL (t_X6_get F st sa sh hL hs.2.2.1 _ _ _ hc3) ?_
  refine nd_istore_n (ls' := [(2, .int r1), (0, .ref b), (1, .int x1)]) dX9_bear_9 (by decide) rfl ?_
  refine nd_iconst dX9_bear_10 ic_0 ?_
  refine nd_istore_n (ls' := [(3, .int (0 : Int32)), (2, .int r1), (0, .ref b), (1, .int x1)]) dX9_bear_11 (by decide) rfl ?_
  refine nd_iconst dX9_bear_12 ic_0 ?_
  refine nd_istore (ls' := [(4, .int (0 : Int32)), (3, .int (0 : Int32)), (2, .int r1), (0, .ref b), (1, .int x1)]) dX9_bear_13 (by decide) rfl ?_
  refine nd_iconst dX9_bear_15 ic_0 ?_
  refine nd_istore (ls' := [(5, .int (0 : Int32)), (4, .int (0 : Int32)), (3, .int (0 : Int32)), (2, .int r1), (0, .ref b), (1, .int x1)]) dX9_bear_16 (by decide) rfl ?_
  refine nd_sub [4, 5, 3, 2, 1, 0] rfl ?_
  exact b_X9_bear_18 F b a st sa sh hL hs F _ _ _ _ _ _ h
def f_X9_wed_154 (F : Nat) (b a st sa : Nat) (x1 : Int32) (x3 : Int32) (σ : nd_Mem) : nd_Res := (nd_bind (f_X9_note F b a st sa (0 : Int32) x1 x3 σ) fun r1 σ2 => (some (0, σ2)))
def f_X9_wed_135 (F : Nat) (b a st sa : Nat) (x1 : Int32) (x2 : Int32) (x3 : Int32) (σ : nd_Mem) : nd_Res := (if (σ st 2) = x1 then (nd_let (nd_up σ st 2 x2) fun σ1 => (f_X9_wed_154 F b a st sa x1 x3 σ1)) else (f_X9_wed_154 F b a st sa x1 x3 σ))
def f_X9_wed (F : Nat) (b a st sa : Nat) (x1 : Int32) (x2 : Int32) (σ : nd_Mem) : nd_Res := (nd_bind (f_X6_add F st sa x1 (0 : Int32) (-1 : Int32) σ) fun r1 σ2 => (nd_bind (f_X9_ask F b a st sa (2 : Int32) x1 σ2) fun r4 σ5 => (nd_bind (f_X6_add F st sa x1 (2 : Int32) (-r4) σ5) fun r7 σ8 => (nd_bind (f_X6_get F st sa x1 (5 : Int32) σ8) fun r10 σ11 => (nd_bind (f_X6_put F st sa x1 (5 : Int32) (-1 : Int32) σ11) fun r13 σ14 => (if x2 = (-1 : Int32) then (nd_let (nd_up σ14 st 3 ((σ14 st 3) + (1 : Int32))) fun σ29 => (nd_bind (f_X9_note F b a st sa (1 : Int32) x1 r4 σ29) fun r30 σ31 => (some (0, σ31)))) else (nd_bind (f_X6_add F st sa x2 (2 : Int32) r4 σ14) fun r16 σ17 => (nd_bind (f_X6_add F st sa x2 (1 : Int32) (-1 : Int32) σ17) fun r19 σ20 => (nd_bind (f_X6_add F st sa x2 (3 : Int32) (1 : Int32) σ20) fun r22 σ23 => (nd_let (nd_up σ23 st 5 ((σ23 st 5) + (1 : Int32))) fun σ25 => (if r10 = (-1 : Int32) then (f_X9_wed_135 F b a st sa x1 x2 r4 σ25) else (nd_bind (f_X6_put F st sa x2 (5 : Int32) r10 σ25) fun r26 σ27 => (f_X9_wed_135 F b a st sa x1 x2 r4 σ27)))))))))))))
set_option maxRecDepth 100000 in
set_option maxHeartbeats 4000000 in
theorem b_X9_wed_154 (F : Nat) (b a st sa : Nat) (sh : List nd_S) (hL : sh.length < nd_ro) (hs : is_Walk sh b a st sa) {z : Int32 × nd_Mem} (x1 : Int32) (x3 : Int32) (σ : nd_Mem) (h : f_X9_wed_154 F b a st sa x1 x3 σ = some z) : nd_V M_X9_wed (nd_rm 4) (nd_Pv sh z) 0 0 154 [(0, .ref b), (1, .int x1), (3, .int x3)] [] sh σ := by
  unfold f_X9_wed_154 at h
  refine nd_aload_n dX9_wed_154 0 rfl ?_
  refine nd_iconst dX9_wed_155 ic_0 ?_
  refine nd_iload_n dX9_wed_156 1 rfl ?_
  refine nd_iload_n dX9_wed_157 2 rfl ?_
  obtain ⟨r1, σ2, hc3, h⟩ := nd_bind_e h
  refine nd_cvv [.int (0 : Int32), .int x1, .int x3] [] dX9_wed_158 cl_X9_108 hs.1 ⟨Nat.le_of_ble_eq_true rfl, Nat.le_of_ble_eq_true rfl⟩ rfl (Nat.le_of_ble_eq_true rfl) hL (t_X9_note F b a st sa sh hL hs _ _ _ _ hc3) ?_
  exact nd_vret dX9_wed_161 (Nat.zero_le _) (Nat.zero_le _) trivial (by cases h; exact ⟨rfl, rfl, rfl⟩)
set_option maxRecDepth 100000 in
set_option maxHeartbeats 4000000 in
theorem b_X9_wed_135 (F : Nat) (b a st sa : Nat) (sh : List nd_S) (hL : sh.length < nd_ro) (hs : is_Walk sh b a st sa) {z : Int32 × nd_Mem} (x1 : Int32) (x2 : Int32) (x3 : Int32) (σ : nd_Mem) (h : f_X9_wed_135 F b a st sa x1 x2 x3 σ = some z) : nd_V M_X9_wed (nd_rm 4) (nd_Pv sh z) 0 0 135 [(0, .ref b), (1, .int x1), (2, .int x2), (3, .int x3)] [] sh σ := by
  unfold f_X9_wed_135 at h
  refine nd_aload_n dX9_wed_135 0 rfl ?_
  refine nd_get dX9_wed_136 gf_X9_9 hs.1 rfl ?_
  refine nd_get dX9_wed_139 gf_X9_71 hs.2.2.1.1 rfl ?_
  refine nd_iload_n dX9_wed_142 1 rfl ?_
  refine nd_icmp_neN dX9_wed_143 154 (by decide) h (fun h => ?_) (fun h => ?_)
  · refine nd_sub [0, 1, 3] rfl ?_
    exact b_X9_wed_154 F b a st sa sh hL hs _ _ _ h
  · refine nd_aload_n dX9_wed_146 0 rfl ?_
    refine nd_get dX9_wed_147 gf_X9_9 hs.1 rfl ?_
    refine nd_iload_n dX9_wed_150 2 rfl ?_
    refine nd_putiN dX9_wed_151 pf_X9_71 hs.2.2.1.1 rfl h (fun σ1 h => ?_)
    refine nd_sub [0, 1, 3] rfl ?_
    exact b_X9_wed_154 F b a st sa sh hL hs _ _ _ h
set_option maxRecDepth 100000 in
set_option maxHeartbeats 4000000 in
theorem t_X9_wed (F : Nat) (b a st sa : Nat) (sh : List nd_S) (hL : sh.length < nd_ro) (hs : is_Walk sh b a st sa) {z : Int32 × nd_Mem} (x1 : Int32) (x2 : Int32) (σ : nd_Mem) (h : f_X9_wed F b a st sa x1 x2 σ = some z) : nd_Fn M_X9_wed (nd_rm 4) [.ref b, .int x1, .int x2] sh σ (nd_Pv sh z) := by
  refine nd_Fn.ofV (ls := [(0, .ref b), (1, .int x1), (2, .int x2)]) pl_X9_wed rfl (fun _ => Nat.le_of_ble_eq_true rfl) (fun _ => rfl) ?_
  unfold f_X9_wed at h
  refine nd_aload_n dX9_wed_0 0 rfl ?_
  refine nd_get dX9_wed_1 gf_X9_9 hs.1 rfl ?_
  refine nd_iload_n dX9_wed_4 1 rfl ?_
  refine nd_iconst dX9_wed_5 ic_0 ?_
  refine nd_iconst dX9_wed_6 ic_m1 ?_
  obtain ⟨r1, σ2, hc3, h⟩ := nd_bind_e h
  refine nd_cvv [.int x1, .int (0 : Int32), .int (-1 : Int32)] [] dX9_wed_7 cl_X9_78 hs.2.2.1.1 ⟨Nat.le_of_ble_eq_true rfl, Nat.le_of_ble_eq_true rfl⟩ rfl (Nat.le_of_ble_eq_true rfl) hL (t_X6_add F st sa sh hL hs.2.2.1 _ _ _ _ hc3) ?_
  refine nd_aload_n dX9_wed_10 0 rfl ?_
  refine nd_iconst dX9_wed_11 ic_2 ?_
  refine nd_iload_n dX9_wed_12 1 rfl ?_
  obtain ⟨r4, σ5, hc6, h⟩ := nd_bind_e h
  refine nd_cvi [.int (2 : Int32), .int x1] [] dX9_wed_13 cl_X9_111 hs.1 ⟨Nat.le_of_ble_eq_true rfl, Nat.le_of_ble_eq_true rfl⟩ rfl (Nat.le_of_ble_eq_true rfl) hL (t_X9_ask F b a st sa sh hL hs _ _ _ hc6) ?_
  refine nd_istore_n (ls' := [(3, .int r4), (0, .ref b), (1, .int x1), (2, .int x2)]) dX9_wed_16 (by decide) rfl ?_
  refine nd_aload_n dX9_wed_17 1 rfl ?_
  refine nd_get dX9_wed_18 gf_X9_9 hs.1 rfl ?_
  refine nd_iload_n dX9_wed_21 2 rfl ?_
  refine nd_iconst dX9_wed_22 ic_2 ?_
  refine nd_iload_n dX9_wed_23 0 rfl ?_
  refine nd_ineg dX9_wed_24 ?_
  obtain ⟨r7, σ8, hc9, h⟩ := nd_bind_e h
  refine nd_cvv [.int x1, .int (2 : Int32), .int (-r4)] [] dX9_wed_25 cl_X9_78 hs.2.2.1.1 ⟨Nat.le_of_ble_eq_true rfl, Nat.le_of_ble_eq_true rfl⟩ rfl (Nat.le_of_ble_eq_true rfl) hL (t_X6_add F st sa sh hL hs.2.2.1 _ _ _ _ hc9) ?_
  refine nd_aload_n dX9_wed_28 1 rfl ?_
  refine nd_get dX9_wed_29 gf_X9_9 hs.1 rfl ?_
  refine nd_iload_n dX9_wed_32 2 rfl ?_
  refine nd_iconst dX9_wed_33 ic_5 ?_
  obtain ⟨r10, σ11, hc12, h⟩ := nd_bind_e h
  refine nd_cvi [.int x1, .int (5 : Int32)] [] dX9_wed_34 cl_X9_42 hs.2.2.1.1 ⟨Nat.le_of_ble_eq_true rfl, Nat.le_of_ble_eq_true rfl⟩ rfl (Nat.le_of_ble_eq_true rfl) hL (t_X6_get F st sa sh hL hs.2.2.1 _ _ _ hc12) ?_
  refine nd_istore (ls' := [(4, .int r10), (3, .int r4), (0, .ref b), (1, .int x1), (2, .int x2)]) dX9_wed_37 (by decide) rfl ?_
  refine nd_aload_n dX9_wed_39 2 rfl ?_
  refine nd_get dX9_wed_40 gf_X9_9 hs.1 rfl ?_
  refine nd_iload_n dX9_wed_43 3 rfl ?_
  refine nd_iconst dX9_wed_44 ic_5 ?_
  refine nd_iconst dX9_wed_45 ic_m1 ?_
  obtain ⟨r13, σ14, hc15, h⟩ := nd_bind_e h
  refine nd_cvv [.int x1, .int (5 : Int32), .int (-1 : Int32)] [] dX9_wed_46 cl_X9_82 hs.2.2.1.1 ⟨Nat.le_of_ble_eq_true rfl, Nat.le_of_ble_eq_true rfl⟩ rfl (Nat.le_of_ble_eq_true rfl) hL (t_X6_put F st sa sh hL hs.2.2.1 _ _ _ _ hc15) ?_
  refine nd_iload_n dX9_wed_49 4 rfl ?_
  refine nd_iconst dX9_wed_50 ic_m1 ?_
  refine nd_icmp_neN dX9_wed_51 75 (by decide) h (fun h => ?_) (fun h => ?_)
  · refine nd_aload_n dX9_wed_75 2 rfl ?_
    refine nd_get dX9_wed_76 gf_X9_9 hs.1 rfl ?_
    refine nd_iload_n dX9_wed_79 4 rfl ?_
    refine nd_iconst dX9_wed_80 ic_2 ?_
    refine nd_iload_n dX9_wed_81 1 rfl ?_
    obtain ⟨r16, σ17, hc18, h⟩ := nd_bind_e h
    refine nd_cvv [.int x2, .int (2 : Int32), .int r4] [] dX9_wed_82 cl_X9_78 hs.2.2.1.1 ⟨Nat.le_of_ble_eq_true rfl, Nat.le_of_ble_eq_true rfl⟩ rfl (Nat.le_of_ble_eq_true rfl) hL (t_X6_add F st sa sh hL hs.2.2.1 _ _ _ _ hc18) ?_
    refine nd_aload_n dX9_wed_85 2 rfl ?_
    refine nd_get dX9_wed_86 gf_X9_9 hs.1 rfl ?_
    refine nd_iload_n dX9_wed_89 4 rfl ?_
    refine nd_iconst dX9_wed_90 ic_1 ?_
    refine nd_iconst dX9_wed_91 ic_m1 ?_
    obtain ⟨r19, σ20, hc21, h⟩ := nd_bind_e h
    refine nd_cvv [.int x2, .int (1 : Int32), .int (-1 : Int32)] [] dX9_wed_92 cl_X9_78 hs.2.2.1.1 ⟨Nat.le_of_ble_eq_true rfl, Nat.le_of_ble_eq_true rfl⟩ rfl (Nat.le_of_ble_eq_true rfl) hL (t_X6_add F st sa sh hL hs.2.2.1 _ _ _ _ hc21) ?_
    refine nd_aload_n dX9_wed_95 2 rfl ?_
    refine nd_get dX9_wed_96 gf_X9_9 hs.1 rfl ?_
    refine nd_iload_n dX9_wed_99 4 rfl ?_
    refine nd_iconst dX9_wed_100 ic_3 ?_
    refine nd_iconst dX9_wed_101 ic_1 ?_
    obtain ⟨r22, σ23, hc24, h⟩ := nd_bind_e h
    refine nd_cvv [.int x2, .int (3 : Int32), .int (1 : Int32)] [] dX9_wed_102 cl_X9_78 hs.2.2.1.1 ⟨Nat.le_of_ble_eq_true rfl, Nat.le_of_ble_eq_true rfl⟩ rfl (Nat.le_of_ble_eq_true rfl) hL (t_X6_add F st sa sh hL hs.2.2.1 _ _ _ _ hc24) ?_
    refine nd_aload_n dX9_wed_105 2 rfl ?_
    refine nd_get dX9_wed_106 gf_X9_9 hs.1 rfl ?_
    refine nd_dup dX9_wed_109 rfl ?_
    refine nd_get dX9_wed_110 gf_X9_126 hs.2.2.1.1 rfl ?_
    refine nd_iconst dX9_wed_113 ic_1 ?_
    refine nd_iadd dX9_wed_114 ?_
    refine nd_putiN dX9_wed_115 pf_X9_126 hs.2.2.1.1 rfl h (fun σ25 h => ?_)
    refine nd_iload dX9_wed_118 0 rfl ?_
    refine nd_iconst dX9_wed_120 ic_m1 ?_
    refine nd_icmp_eqN dX9_wed_121 135 (by decide) h (fun h => ?_) (fun h => ?_)
    · refine nd_sub [2, 3, 4, 1] rfl ?_
      exact b_X9_wed_135 F b a st sa sh hL hs _ _ _ _ h
    · refine nd_aload_n dX9_wed_124 2 rfl ?_
      refine nd_get dX9_wed_125 gf_X9_9 hs.1 rfl ?_
      refine nd_iload_n dX9_wed_128 4 rfl ?_
      refine nd_iconst dX9_wed_129 ic_5 ?_
      refine nd_iload dX9_wed_130 0 rfl ?_
      obtain ⟨r26, σ27, hc28, h⟩ := nd_bind_e h
      refine nd_cvv [.int x2, .int (5 : Int32), .int r10] [] dX9_wed_132 cl_X9_82 hs.2.2.1.1 ⟨Nat.le_of_ble_eq_true rfl, Nat.le_of_ble_eq_true rfl⟩ rfl (Nat.le_of_ble_eq_true rfl) hL (t_X6_put F st sa sh hL hs.2.2.1 _ _ _ _ hc28) ?_
      refine nd_sub [2, 3, 4, 1] rfl ?_
      exact b_X9_wed_135 F b a st sa sh hL hs _ _ _ _ h
  · refine nd_aload_n dX9_wed_54 2 rfl ?_
    refine nd_get dX9_wed_55 gf_X9_9 hs.1 rfl ?_
    refine nd_dup dX9_wed_58 rfl ?_
    refine nd_get dX9_wed_59 gf_X9_123 hs.2.2.1.1 rfl ?_
    refine nd_iconst dX9_wed_62 ic_1 ?_
    refine nd_iadd dX9_wed_63 ?_
    refine nd_putiN dX9_wed_64 pf_X9_123 hs.2.2.1.1 rfl h (fun σ29 h => ?_)
    refine nd_aload_n dX9_wed_67 2 rfl ?_
    refine nd_iconst dX9_wed_68 ic_1 ?_
    refine nd_iload_n dX9_wed_69 3 rfl ?_
    refine nd_iload_n dX9_wed_70 1 rfl ?_
    obtain ⟨r30, σ31, hc32, h⟩ := nd_bind_e h
    refine nd_cvv [.int (1 : Int32), .int x1, .int r4] [] dX9_wed_71 cl_X9_108 hs.1 ⟨Nat.le_of_ble_eq_true rfl, Nat.le_of_ble_eq_true rfl⟩ rfl (Nat.le_of_ble_eq_true rfl) hL (t_X9_note F b a st sa sh hL hs _ _ _ _ hc32) ?_
    exact nd_vret dX9_wed_74 (Nat.zero_le _) (Nat.zero_le _) trivial (by cases h; exact ⟨rfl, rfl, rfl⟩)
def f_X9_doByHand (F : Nat) (b a st sa : Nat) (x1 : Int32) (x2 : Int32) (σ : nd_Mem) : nd_Res := (if x1 = (0 : Int32) then (nd_bind (f_X9_nextOf F b a st sa x2 σ) fun r2 σ3 => (nd_bind (f_X9_wed F b a st sa x2 r2 σ3) fun r5 σ6 => (some (0, σ6)))) else (if x1 = (1 : Int32) then (nd_bind (f_X6_add F st sa x2 (0 : Int32) (1 : Int32) σ) fun r9 σ10 => (some (0, σ10))) else (if x1 = (2 : Int32) then (nd_bind (f_X6_add F st sa x2 (1 : Int32) (1 : Int32) σ) fun r13 σ14 => (some (0, σ14))) else (if x1 = (3 : Int32) then (nd_bind (f_X6_put F st sa x2 (4 : Int32) (0 : Int32) σ) fun r17 σ18 => (some (0, σ18))) else (nd_let (nd_up σ st 2 x2) fun σ20 => (some (0, σ20)))))))
set_option maxRecDepth 100000 in
set_option maxHeartbeats 4000000 in
theorem t_X9_doByHand (F : Nat) (b a st sa : Nat) (sh : List nd_S) (hL : sh.length < nd_ro) (hs : is_Walk sh b a st sa) {z : Int32 × nd_Mem} (x1 : Int32) (x2 : Int32) (σ : nd_Mem) (h : f_X9_doByHand F b a st sa x1 x2 σ = some z) : nd_Fn M_X9_doByHand (nd_rm 5) [.ref b, .int x1, .int x2] sh σ (nd_Pv sh z) := by
  refine nd_Fn.ofV (ls := [(0, .ref b), (1, .int x1), (2, .int x2)]) pl_X9_doByHand rfl (fun _ => Nat.le_of_ble_eq_true rfl) (fun _ => rfl) ?_
  unfold f_X9_doByHand at h
  refine nd_iload_n dX9_doByHand_0 1 rfl ?_
  rcases nd_ite_e h with ⟨c1, h⟩ | ⟨c1, h⟩
  · refine nd_tin dX9_doByHand_1 0 (by rw [c1] <;> decide) (by rw [c1] <;> decide) rfl 32 (by decide) ?_
    refine nd_aload_n dX9_doByHand_32 0 rfl ?_
    refine nd_iload_n dX9_doByHand_33 2 rfl ?_
    refine nd_aload_n dX9_doByHand_34 0 rfl ?_
    refine nd_iload_n dX9_doByHand_35 2 rfl ?_
    obtain ⟨r2, σ3, hc4, h⟩ := nd_bind_e h
    refine nd_cvi [.int x2] [.int x2, .ref b] dX9_doByHand_36 cl_X9_63 hs.1 ⟨Nat.le_of_ble_eq_true rfl, Nat.le_of_ble_eq_true rfl⟩ rfl (Nat.le_of_ble_eq_true rfl) hL (t_X9_nextOf F b a st sa sh hL hs _ _ hc4) ?_
    obtain ⟨r5, σ6, hc7, h⟩ := nd_bind_e h
    refine nd_cvv [.int x2, .int r2] [] dX9_doByHand_39 cl_X9_74 hs.1 ⟨Nat.le_of_ble_eq_true rfl, Nat.le_of_ble_eq_true rfl⟩ rfl (Nat.le_of_ble_eq_true rfl) hL (t_X9_wed F b a st sa sh hL hs _ _ _ hc7) ?_
    refine nd_goto dX9_doByHand_42 92 (by decide) ?_
    exact nd_vret dX9_doByHand_92 (Nat.zero_le _) (Nat.zero_le _) trivial (by cases h; exact ⟨rfl, rfl, rfl⟩)
  rcases nd_ite_e h with ⟨c8, h⟩ | ⟨c8, h⟩
  · refine nd_tin dX9_doByHand_1 1 (by rw [c8] <;> decide) (by rw [c8] <;> decide) rfl 45 (by decide) ?_
    refine nd_aload_n dX9_doByHand_45 0 rfl ?_
    refine nd_get dX9_doByHand_46 gf_X9_9 hs.1 rfl ?_
    refine nd_iload_n dX9_doByHand_49 2 rfl ?_
    refine nd_iconst dX9_doByHand_50 ic_0 ?_
    refine nd_iconst dX9_doByHand_51 ic_1 ?_
    obtain ⟨r9, σ10, hc11, h⟩ := nd_bind_e h
    refine nd_cvv [.int x2, .int (0 : Int32), .int (1 : Int32)] [] dX9_doByHand_52 cl_X9_78 hs.2.2.1.1 ⟨Nat.le_of_ble_eq_true rfl, Nat.le_of_ble_eq_true rfl⟩ rfl (Nat.le_of_ble_eq_true rfl) hL (t_X6_add F st sa sh hL hs.2.2.1 _ _ _ _ hc11) ?_
    refine nd_goto dX9_doByHand_55 92 (by decide) ?_
    exact nd_vret dX9_doByHand_92 (Nat.zero_le _) (Nat.zero_le _) trivial (by cases h; exact ⟨rfl, rfl, rfl⟩)
  rcases nd_ite_e h with ⟨c12, h⟩ | ⟨c12, h⟩
  · refine nd_tin dX9_doByHand_1 2 (by rw [c12] <;> decide) (by rw [c12] <;> decide) rfl 58 (by decide) ?_
    refine nd_aload_n dX9_doByHand_58 0 rfl ?_
    refine nd_get dX9_doByHand_59 gf_X9_9 hs.1 rfl ?_
    refine nd_iload_n dX9_doByHand_62 2 rfl ?_
    refine nd_iconst dX9_doByHand_63 ic_1 ?_
    refine nd_iconst dX9_doByHand_64 ic_1 ?_
    obtain ⟨r13, σ14, hc15, h⟩ := nd_bind_e h
    refine nd_cvv [.int x2, .int (1 : Int32), .int (1 : Int32)] [] dX9_doByHand_65 cl_X9_78 hs.2.2.1.1 ⟨Nat.le_of_ble_eq_true rfl, Nat.le_of_ble_eq_true rfl⟩ rfl (Nat.le_of_ble_eq_true rfl) hL (t_X6_add F st sa sh hL hs.2.2.1 _ _ _ _ hc15) ?_
    refine nd_goto dX9_doByHand_68 92 (by decide) ?_
    exact nd_vret dX9_doByHand_92 (Nat.zero_le _) (Nat.zero_le _) trivial (by cases h; exact ⟨rfl, rfl, rfl⟩)
  rcases nd_ite_e h with ⟨c16, h⟩ | ⟨c16, h⟩
  · refine nd_tin dX9_doByHand_1 3 (by rw [c16] <;> decide) (by rw [c16] <;> decide) rfl 71 (by decide) ?_
    refine nd_aload_n dX9_doByHand_71 0 rfl ?_
    refine nd_get dX9_doByHand_72 gf_X9_9 hs.1 rfl ?_
    refine nd_iload_n dX9_doByHand_75 2 rfl ?_
    refine nd_iconst dX9_doByHand_76 ic_4 ?_
    refine nd_iconst dX9_doByHand_77 ic_0 ?_
    obtain ⟨r17, σ18, hc19, h⟩ := nd_bind_e h
    refine nd_cvv [.int x2, .int (4 : Int32), .int (0 : Int32)] [] dX9_doByHand_78 cl_X9_82 hs.2.2.1.1 ⟨Nat.le_of_ble_eq_true rfl, Nat.le_of_ble_eq_true rfl⟩ rfl (Nat.le_of_ble_eq_true rfl) hL (t_X6_put F st sa sh hL hs.2.2.1 _ _ _ _ hc19) ?_
    refine nd_goto dX9_doByHand_81 92 (by decide) ?_
    exact nd_vret dX9_doByHand_92 (Nat.zero_le _) (Nat.zero_le _) trivial (by cases h; exact ⟨rfl, rfl, rfl⟩)
  refine nd_tout dX9_doByHand_1 (fun j h1 h2 => ?_) 84 (by decide) ?_
  · rcases (show j = 0 ∨ j = 1 ∨ j = 2 ∨ j = 3 by omega) with rfl | rfl | rfl | rfl
    · exact fun e => c1 (e.trans ic_0)
    · exact fun e => c8 (e.trans ic_1)
    · exact fun e => c12 (e.trans ic_2)
    · exact fun e => c16 (e.trans ic_3)
  · refine nd_aload_n dX9_doByHand_84 0 rfl ?_
    refine nd_get dX9_doByHand_85 gf_X9_9 hs.1 rfl ?_
    refine nd_iload_n dX9_doByHand_88 2 rfl ?_
    refine nd_putiN dX9_doByHand_89 pf_X9_71 hs.2.2.1.1 rfl h (fun σ20 h => ?_)
    exact nd_vret dX9_doByHand_92 (Nat.zero_le _) (Nat.zero_le _) trivial (by cases h; exact ⟨rfl, rfl, rfl⟩)
def f_X9_lookForHusband_68 (F : Nat) (b a st sa : Nat) (x1 : Int32) (x2 : Int32) (σ : nd_Mem) : nd_Res := (nd_bind (f_X9_wed F b a st sa x1 x2 σ) fun r1 σ2 => (some (0, σ2)))
def f_X9_lookForHusband (F : Nat) (b a st sa : Nat) (x1 : Int32) (σ : nd_Mem) : nd_Res := (nd_bind (f_X9_nextOf F b a st sa x1 σ) fun r1 σ2 => (nd_bind (f_X9_canGo F b a st sa x1 r1 σ2) fun r4 σ5 => (if r4 = 0 then (nd_let (nd_up σ5 st 4 ((σ5 st 4) + (1 : Int32))) fun σ14 => (nd_bind (f_X9_note F b a st sa (2 : Int32) x1 r1 σ14) fun r15 σ16 => (some (0, σ16)))) else (nd_bind (f_X9_ask F b a st sa (0 : Int32) x1 σ5) fun r7 σ8 => (nd_bind (f_X9_isLucky F b a st sa r7 σ8) fun r10 σ11 => (if r10 = 0 then (some (0, σ11)) else (if r1 = (-1 : Int32) then (f_X9_lookForHusband_68 F b a st sa x1 r1 σ11) else (nd_let (nd_up σ11 b 5 ((σ11 b 5) ||| ((1 : Int32) <<< (r1 &&& 31)))) fun σ13 => (f_X9_lookForHusband_68 F b a st sa x1 r1 σ13)))))))))
set_option maxRecDepth 100000 in
set_option maxHeartbeats 4000000 in
theorem b_X9_lookForHusband_68 (F : Nat) (b a st sa : Nat) (sh : List nd_S) (hL : sh.length < nd_ro) (hs : is_Walk sh b a st sa) {z : Int32 × nd_Mem} (x1 : Int32) (x2 : Int32) (σ : nd_Mem) (h : f_X9_lookForHusband_68 F b a st sa x1 x2 σ = some z) : nd_V M_X9_lookForHusband (nd_rm 5) (nd_Pv sh z) 0 0 68 [(0, .ref b), (1, .int x1), (2, .int x2)] [] sh σ := by
  unfold f_X9_lookForHusband_68 at h
  refine nd_aload_n dX9_lookForHusband_68 0 rfl ?_
  refine nd_iload_n dX9_lookForHusband_69 1 rfl ?_
  refine nd_iload_n dX9_lookForHusband_70 2 rfl ?_
  obtain ⟨r1, σ2, hc3, h⟩ := nd_bind_e h
  refine nd_cvv [.int x1, .int x2] [] dX9_lookForHusband_71 cl_X9_74 hs.1 ⟨Nat.le_of_ble_eq_true rfl, Nat.le_of_ble_eq_true rfl⟩ rfl (Nat.le_of_ble_eq_true rfl) hL (t_X9_wed F b a st sa sh hL hs _ _ _ hc3) ?_
  exact nd_vret dX9_lookForHusband_74 (Nat.zero_le _) (Nat.zero_le _) trivial (by cases h; exact ⟨rfl, rfl, rfl⟩)
set_option maxRecDepth 100000 in
set_option maxHeartbeats 4000000 in
theorem t_X9_lookForHusband (F : Nat) (b a st sa : Nat) (sh : List nd_S) (hL : sh.length < nd_ro) (hs : is_Walk sh b a st sa) {z : Int32 × nd_Mem} (x1 : Int32) (σ : nd_Mem) (h : f_X9_lookForHusband F b a st sa x1 σ = some z) : nd_Fn M_X9_lookForHusband (nd_rm 5) [.ref b, .int x1] sh σ (nd_Pv sh z) := by
  refine nd_Fn.ofV (ls := [(0, .ref b), (1, .int x1)]) pl_X9_lookForHusband rfl (fun _ => Nat.le_of_ble_eq_true rfl) (fun _ => rfl) ?_
  unfold f_X9_lookForHusband at h
  refine nd_aload_n dX9_lookForHusband_0 0 rfl ?_
  refine nd_iload_n dX9_lookForHusband_1 1 rfl ?_
  obtain ⟨r1, σ2, hc3, h⟩ := nd_bind_e h
  refine nd_cvi [.int x1] [] dX9_lookForHusband_2 cl_X9_63 hs.1 ⟨Nat.le_of_ble_eq_true rfl, Nat.le_of_ble_eq_true rfl⟩ rfl (Nat.le_of_ble_eq_true rfl) hL (t_X9_nextOf F b a st sa sh hL hs _ _ hc3) ?_
  refine nd_istore_n (ls' := [(2, .int r1), (0, .ref b), (1, .int x1)]) dX9_lookForHusband_5 (by decide) rfl ?_
  refine nd_aload_n dX9_lookForHusband_6 1 rfl ?_
  refine nd_iload_n dX9_lookForHusband_7 2 rfl ?_
  refine nd_iload_n dX9_lookForHusband_8 0 rfl ?_
  obtain ⟨r4, σ5, hc6, h⟩ := nd_bind_e h
  refine nd_cvi [.int x1, .int r1] [] dX9_lookForHusband_9 cl_X9_67 hs.1 ⟨Nat.le_of_ble_eq_true rfl, Nat.le_of_ble_eq_true rfl⟩ rfl (Nat.le_of_ble_eq_true rfl) hL (t_X9_canGo F b a st sa sh hL hs _ _ _ hc6) ?_
  refine nd_if_neN dX9_lookForHusband_12 38 (by decide) h (fun h => ?_) (fun h => ?_)
  · refine nd_aload_n dX9_lookForHusband_38 1 rfl ?_
    refine nd_aload_n dX9_lookForHusband_39 1 rfl ?_
    refine nd_iconst dX9_lookForHusband_40 ic_0 ?_
    refine nd_iload_n dX9_lookForHusband_41 2 rfl ?_
    obtain ⟨r7, σ8, hc9, h⟩ := nd_bind_e h
    refine nd_cvi [.int (0 : Int32), .int x1] [.ref b] dX9_lookForHusband_42 cl_X9_111 hs.1 ⟨Nat.le_of_ble_eq_true rfl, Nat.le_of_ble_eq_true rfl⟩ rfl (Nat.le_of_ble_eq_true rfl) hL (t_X9_ask F b a st sa sh hL hs _ _ _ hc9) ?_
    obtain ⟨r10, σ11, hc12, h⟩ := nd_bind_e h
    refine nd_cvi [.int r7] [] dX9_lookForHusband_45 cl_X9_114 hs.1 ⟨Nat.le_of_ble_eq_true rfl, Nat.le_of_ble_eq_true rfl⟩ rfl (Nat.le_of_ble_eq_true rfl) hL (t_X9_isLucky F b a st sa sh hL hs _ _ hc12) ?_
    refine nd_if_eqN dX9_lookForHusband_48 74 (by decide) h (fun h => ?_) (fun h => ?_)
    · exact nd_vret dX9_lookForHusband_74 (Nat.zero_le _) (Nat.zero_le _) trivial (by cases h; exact ⟨rfl, rfl, rfl⟩)
    · refine nd_iload_n dX9_lookForHusband_51 0 rfl ?_
      refine nd_iconst dX9_lookForHusband_52 ic_m1 ?_
      refine nd_icmp_eqN dX9_lookForHusband_53 68 (by decide) h (fun h => ?_) (fun h => ?_)
      · refine nd_sub [1, 2, 0] rfl ?_
        exact b_X9_lookForHusband_68 F b a st sa sh hL hs _ _ _ h
      · refine nd_aload_n dX9_lookForHusband_56 1 rfl ?_
        refine nd_dup dX9_lookForHusband_57 rfl ?_
        refine nd_get dX9_lookForHusband_58 gf_X9_33 hs.1 rfl ?_
        refine nd_iconst dX9_lookForHusband_61 ic_1 ?_
        refine nd_iload_n dX9_lookForHusband_62 0 rfl ?_
        refine nd_ishl dX9_lookForHusband_63 ?_
        refine nd_ior dX9_lookForHusband_64 ?_
        refine nd_putiN dX9_lookForHusband_65 pf_X9_33 hs.1 rfl h (fun σ13 h => ?_)
        refine nd_sub [1, 2, 0] rfl ?_
        exact b_X9_lookForHusband_68 F b a st sa sh hL hs _ _ _ h
  · refine nd_aload_n dX9_lookForHusband_15 1 rfl ?_
    refine nd_get dX9_lookForHusband_16 gf_X9_9 hs.1 rfl ?_
    refine nd_dup dX9_lookForHusband_19 rfl ?_
    refine nd_get dX9_lookForHusband_20 gf_X9_105 hs.2.2.1.1 rfl ?_
    refine nd_iconst dX9_lookForHusband_23 ic_1 ?_
    refine nd_iadd dX9_lookForHusband_24 ?_
    refine nd_putiN dX9_lookForHusband_25 pf_X9_105 hs.2.2.1.1 rfl h (fun σ14 h => ?_)
    refine nd_aload_n dX9_lookForHusband_28 1 rfl ?_
    refine nd_iconst dX9_lookForHusband_29 ic_2 ?_
    refine nd_iload_n dX9_lookForHusband_30 2 rfl ?_
    refine nd_iload_n dX9_lookForHusband_31 0 rfl ?_
    obtain ⟨r15, σ16, hc17, h⟩ := nd_bind_e h
    refine nd_cvv [.int (2 : Int32), .int x1, .int r1] [] dX9_lookForHusband_32 cl_X9_108 hs.1 ⟨Nat.le_of_ble_eq_true rfl, Nat.le_of_ble_eq_true rfl⟩ rfl (Nat.le_of_ble_eq_true rfl) hL (t_X9_note F b a st sa sh hL hs _ _ _ _ hc17) ?_
    refine nd_goto dX9_lookForHusband_35 74 (by decide) ?_
    exact nd_vret dX9_lookForHusband_74 (Nat.zero_le _) (Nat.zero_le _) trivial (by cases h; exact ⟨rfl, rfl, rfl⟩)
def f_X9_pass_39 (F : Nat) (rec11 : Int32 → nd_Mem → nd_Res) (b a st sa : Nat) (x1 : Int32) (σ : nd_Mem) : nd_Res := (rec11 (x1 + (1 : Int32)) σ)
def f_X9_pass_71_b (F : Nat) (rec71 : Int32 → nd_Mem → nd_Res) (b a st sa : Nat) (x1 : Int32) (σ : nd_Mem) : nd_Res := (if (σ st 1) ≤ x1 then (nd_let (nd_up σ st 6 ((σ st 6) + (1 : Int32))) fun σ1 => (some (0, σ1))) else (nd_bind (f_X9_beWidowed F b a st sa x1 σ) fun r2 σ3 => (rec71 (x1 + (1 : Int32)) σ3)))
def f_X9_pass_71 (F : Nat) (b a st sa : Nat) : Nat → Int32 → nd_Mem → nd_Res
  | 0, _, _ => none
  | m9 + 1, x1, σ => f_X9_pass_71_b F (f_X9_pass_71 F b a st sa m9) b a st sa x1 σ
def f_X9_pass_47_b (F : Nat) (rec47 : Int32 → nd_Mem → nd_Res) (b a st sa : Nat) (x1 : Int32) (σ : nd_Mem) : nd_Res := (if (σ st 1) ≤ x1 then (f_X9_pass_71 F b a st sa F (0 : Int32) σ) else (nd_bind (f_X9_bear F b a st sa x1 σ) fun r1 σ2 => (rec47 (x1 + (1 : Int32)) σ2)))
def f_X9_pass_47 (F : Nat) (b a st sa : Nat) : Nat → Int32 → nd_Mem → nd_Res
  | 0, _, _ => none
  | m9 + 1, x1, σ => f_X9_pass_47_b F (f_X9_pass_47 F b a st sa m9) b a st sa x1 σ
def f_X9_pass_11_b (F : Nat) (rec11 : Int32 → nd_Mem → nd_Res) (b a st sa : Nat) (x1 : Int32) (σ : nd_Mem) : nd_Res := (if (σ st 1) ≤ x1 then (f_X9_pass_47 F b a st sa F (0 : Int32) σ) else (nd_bind (f_X6_get F st sa x1 (0 : Int32) σ) fun r1 σ2 => (if r1 ≤ 0 then (f_X9_pass_39 F rec11 b a st sa x1 σ2) else (nd_bind (f_X9_lookForHusband F b a st sa x1 σ2) fun r4 σ5 => (f_X9_pass_39 F rec11 b a st sa x1 σ5)))))
def f_X9_pass_11 (F : Nat) (b a st sa : Nat) : Nat → Int32 → nd_Mem → nd_Res
  | 0, _, _ => none
  | m9 + 1, x1, σ => f_X9_pass_11_b F (f_X9_pass_11 F b a st sa m9) b a st sa x1 σ
def f_X9_pass (F : Nat) (b a st sa : Nat) (σ : nd_Mem) : nd_Res := (nd_bind (f_X9_carryOutPlans F b a st sa σ) fun r1 σ2 => (nd_let (nd_up σ2 b 5 (0 : Int32)) fun σ4 => (f_X9_pass_11 F b a st sa F (0 : Int32) σ4)))
set_option maxRecDepth 100000 in
set_option maxHeartbeats 4000000 in
theorem b_X9_pass_39 (F : Nat) (rec11 : Int32 → nd_Mem → nd_Res) (b a st sa : Nat) (sh : List nd_S) (hL : sh.length < nd_ro) (hs : is_Walk sh b a st sa) {z : Int32 × nd_Mem} (hrec11 : ∀ (x1 : Int32) (σ : nd_Mem), rec11 x1 σ = some z → nd_V M_X9_pass (nd_rm 6) (nd_Pv sh z) 0 0 11 [(0, .ref b), (1, .int x1)] [] sh σ) (x1 : Int32) (σ : nd_Mem) (h : f_X9_pass_39 F rec11 b a st sa x1 σ = some z) : nd_V M_X9_pass (nd_rm 6) (nd_Pv sh z) 0 0 39 [(0, .ref b), (1, .int x1)] [] sh σ := by
  unfold f_X9_pass_39 at h
  refine nd_iinc (v := (x1 + (1 : Int32))) (ls' := [(1, .int (x1 + (1 : Int32))), (0, .ref b)]) dX9_pass_39 1 rfl (congrArg (HAdd.hAdd _) ic_1) (by decide) rfl ?_
  refine nd_goto dX9_pass_42 11 (by decide) ?_
  refine nd_sub [1, 0] rfl ?_
  exact hrec11 _ _ h
set_option maxRecDepth 100000 in
set_option maxHeartbeats 4000000 in
theorem b_X9_pass_71 (F : Nat) (b a st sa : Nat) (sh : List nd_S) (hL : sh.length < nd_ro) (hs : is_Walk sh b a st sa) {z : Int32 × nd_Mem} (m9 : Nat) : ∀ (x1 : Int32) (σ : nd_Mem), f_X9_pass_71 F b a st sa m9 x1 σ = some z → nd_V M_X9_pass (nd_rm 6) (nd_Pv sh z) 0 0 71 [(0, .ref b), (1, .int x1)] [] sh σ := by
  induction m9 with
  | zero =>
    intro x1 σ h
    have h : none = some z := h
    cases h
  | succ m9 hrec71 =>
    intro x1 σ h
    have h : f_X9_pass_71_b F (f_X9_pass_71 F b a st sa m9) b a st sa x1 σ = some z := h
    unfold f_X9_pass_71_b at h
    refine nd_iload_n dX9_pass_71 1 rfl ?_
    refine nd_aload_n dX9_pass_72 0 rfl ?_
    refine nd_get dX9_pass_73 gf_X9_9 hs.1 rfl ?_
    refine nd_get dX9_pass_76 gf_X9_37 hs.2.2.1.1 rfl ?_
    refine nd_icmp_geN dX9_pass_79 93 (by decide) h (fun h => ?_) (fun h => ?_)
    · refine nd_aload_n dX9_pass_93 0 rfl ?_
      refine nd_get dX9_pass_94 gf_X9_9 hs.1 rfl ?_
      refine nd_dup dX9_pass_97 rfl ?_
      refine nd_get dX9_pass_98 gf_X9_56 hs.2.2.1.1 rfl ?_
      refine nd_iconst dX9_pass_101 ic_1 ?_
      refine nd_iadd dX9_pass_102 ?_
      refine nd_putiN dX9_pass_103 pf_X9_56 hs.2.2.1.1 rfl h (fun σ1 h => ?_)
      exact nd_vret dX9_pass_106 (Nat.zero_le _) (Nat.zero_le _) trivial (by cases h; exact ⟨rfl, rfl, rfl⟩)
    · refine nd_aload_n dX9_pass_82 0 rfl ?_
      refine nd_iload_n dX9_pass_83 1 rfl ?_
      obtain ⟨r2, σ3, hc4, h⟩ := nd_bind_e h
      refine nd_cvv [.int x1] [] dX9_pass_84 cl_X9_53 hs.1 ⟨Nat.le_of_ble_eq_true rfl, Nat.le_of_ble_eq_true rfl⟩ rfl (Nat.le_of_ble_eq_true rfl) hL (t_X9_beWidowed F b a st sa sh hL hs _ _ hc4) ?_
      refine nd_iinc (v := (x1 + (1 : Int32))) (ls' := [(1, .int (x1 + (1 : Int32))), (0, .ref b)]) dX9_pass_87 1 rfl (congrArg (HAdd.hAdd _) ic_1) (by decide) rfl ?_
      refine nd_goto dX9_pass_90 71 (by decide) ?_
      refine nd_sub [1, 0] rfl ?_
      exact hrec71 _ _ h
set_option maxRecDepth 100000 in
set_option maxHeartbeats 4000000 in
theorem b_X9_pass_47 (F : Nat) (b a st sa : Nat) (sh : List nd_S) (hL : sh.length < nd_ro) (hs : is_Walk sh b a st sa) {z : Int32 × nd_Mem} (m9 : Nat) : ∀ (x1 : Int32) (σ : nd_Mem), f_X9_pass_47 F b a st sa m9 x1 σ = some z → nd_V M_X9_pass (nd_rm 6) (nd_Pv sh z) 0 0 47 [(0, .ref b), (1, .int x1)] [] sh σ := by
  induction m9 with
  | zero =>
    intro x1 σ h
    have h : none = some z := h
    cases h
  | succ m9 hrec47 =>
    intro x1 σ h
    have h : f_X9_pass_47_b F (f_X9_pass_47 F b a st sa m9) b a st sa x1 σ = some z := h
    unfold f_X9_pass_47_b at h
    refine nd_iload_n dX9_pass_47 1 rfl ?_
    refine nd_aload_n dX9_pass_48 0 rfl ?_
    refine nd_get dX9_pass_49 gf_X9_9 hs.1 rfl ?_
    refine nd_get dX9_pass_52 gf_X9_37 hs.2.2.1.1 rfl ?_
    refine nd_icmp_geN dX9_pass_55 69 (by decide) h (fun h => ?_) (fun h => ?_)
    · refine nd_iconst dX9_pass_69 ic_0 ?_
      refine nd_istore_n (ls' := [(1, .int (0 : Int32)), (0, .ref b)]) dX9_pass_70 (by decide) rfl ?_
      refine nd_sub [1, 0] rfl ?_
      exact b_X9_pass_71 F b a st sa sh hL hs F _ _ h
    · refine nd_aload_n dX9_pass_58 0 rfl ?_
      refine nd_iload_n dX9_pass_59 1 rfl ?_
      obtain ⟨r1, σ2, hc3, h⟩ := nd_bind_e h
      refine nd_cvv [.int x1] [] dX9_pass_60 cl_X9_50 hs.1 ⟨Nat.le_of_ble_eq_true rfl, Nat.le_of_ble_eq_true rfl⟩ rfl (Nat.le_of_ble_eq_true rfl) hL (t_X9_bear F b a st sa sh hL hs _ _ hc3) ?_
      refine nd_iinc (v := (x1 + (1 : Int32))) (ls' := [(1, .int (x1 + (1 : Int32))), (0, .ref b)]) dX9_pass_63 1 rfl (congrArg (HAdd.hAdd _) ic_1) (by decide) rfl ?_
      refine nd_goto dX9_pass_66 47 (by decide) ?_
      refine nd_sub [1, 0] rfl ?_
      exact hrec47 _ _ h
set_option maxRecDepth 100000 in
set_option maxHeartbeats 4000000 in
theorem b_X9_pass_11 (F : Nat) (b a st sa : Nat) (sh : List nd_S) (hL : sh.length < nd_ro) (hs : is_Walk sh b a st sa) {z : Int32 × nd_Mem} (m9 : Nat) : ∀ (x1 : Int32) (σ : nd_Mem), f_X9_pass_11 F b a st sa m9 x1 σ = some z → nd_V M_X9_pass (nd_rm 6) (nd_Pv sh z) 0 0 11 [(0, .ref b), (1, .int x1)] [] sh σ := by
  induction m9 with
  | zero =>
    intro x1 σ h
    have h : none = some z := h
    cases h
  | succ m9 hrec11 =>
    intro x1 σ h
    have h : f_X9_pass_11_b F (f_X9_pass_11 F b a st sa m9) b a st sa x1 σ = some z := h
    unfold f_X9_pass_11_b at h
    refine nd_iload_n dX9_pass_11 1 rfl ?_
    refine nd_aload_n dX9_pass_12 0 rfl ?_
    refine nd_get dX9_pass_13 gf_X9_9 hs.1 rfl ?_
    refine nd_get dX9_pass_16 gf_X9_37 hs.2.2.1.1 rfl ?_
    refine nd_icmp_geN dX9_pass_19 45 (by decide) h (fun h => ?_) (fun h => ?_)
    · refine nd_iconst dX9_pass_45 ic_0 ?_
      refine nd_istore_n (ls' := [(1, .int (0 : Int32)), (0, .ref b)]) dX9_pass_46 (by decide) rfl ?_
      refine nd_sub [1, 0] rfl ?_
      exact b_X9_pass_47 F b a st sa sh hL hs F _ _ h
    · refine nd_aload_n dX9_pass_22 0 rfl ?_
      refine nd_get dX9_pass_23 gf_X9_9 hs.1 rfl ?_
      refine nd_iload_n dX9_pass_26 1 rfl ?_
      refine nd_iconst dX9_pass_27 ic_0 ?_
      obtain ⟨r1, σ2, hc3, h⟩ := nd_bind_e h
      refine nd_cvi [.int x1, .int (0 : Int32)] [] dX9_pass_28 cl_X9_42 hs.2.2.1.1 ⟨Nat.le_of_ble_eq_true rfl, Nat.le_of_ble_eq_true rfl⟩ rfl (Nat.le_of_ble_eq_true rfl) hL (t_X6_get F st sa sh hL hs.2.2.1 _ _ _ hc3) ?_
      refine nd_if_leN dX9_pass_31 39 (by decide) h (fun h => ?_) (fun h => ?_)
      · exact b_X9_pass_39 F _ b a st sa sh hL hs hrec11 _ _ h
      · refine nd_aload_n dX9_pass_34 0 rfl ?_
        refine nd_iload_n dX9_pass_35 1 rfl ?_
        obtain ⟨r4, σ5, hc6, h⟩ := nd_bind_e h
        refine nd_cvv [.int x1] [] dX9_pass_36 cl_X9_46 hs.1 ⟨Nat.le_of_ble_eq_true rfl, Nat.le_of_ble_eq_true rfl⟩ rfl (Nat.le_of_ble_eq_true rfl) hL (t_X9_lookForHusband F b a st sa sh hL hs _ _ hc6) ?_
        exact b_X9_pass_39 F _ b a st sa sh hL hs hrec11 _ _ h
set_option maxRecDepth 100000 in
set_option maxHeartbeats 4000000 in
theorem t_X9_pass (F : Nat) (b a st sa : Nat) (sh : List nd_S) (hL : sh.length < nd_ro) (hs : is_Walk sh b a st sa) {z : Int32 × nd_Mem} (σ : nd_Mem) (h : f_X9_pass F b a st sa σ = some z) : nd_Fn M_X9_pass (nd_rm 6) [.ref b] sh σ (nd_Pv sh z) := by
  refine nd_Fn.ofV (ls := [(0, .ref b)]) pl_X9_pass rfl (fun _ => Nat.le_of_ble_eq_true rfl) (fun _ => rfl) ?_
  unfold f_X9_pass at h
  refine nd_aload_n dX9_pass_0 0 rfl ?_
  obtain ⟨r1, σ2, hc3, h⟩ := nd_bind_e h
  refine nd_cvv [] [] dX9_pass_1 cl_X9_30 hs.1 ⟨Nat.le_of_ble_eq_true rfl, Nat.le_of_ble_eq_true rfl⟩ rfl (Nat.le_of_ble_eq_true rfl) hL (t_X9_carryOutPlans F b a st sa sh hL hs _ hc3) ?_
  refine nd_aload_n dX9_pass_4 0 rfl ?_
  refine nd_iconst dX9_pass_5 ic_0 ?_
  refine nd_putiN dX9_pass_6 pf_X9_33 hs.1 rfl h (fun σ4 h => ?_)
  refine nd_iconst dX9_pass_9 ic_0 ?_
  refine nd_istore_n (ls' := [(1, .int (0 : Int32)), (0, .ref b)]) dX9_pass_10 (by decide) rfl ?_
  refine nd_sub [1, 0] rfl ?_
  exact b_X9_pass_11 F b a st sa sh hL hs F _ _ h
