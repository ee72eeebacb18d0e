def f_X11_of (F : Nat) (x1 : Int32) (x2 : Int32) (σ : nd_Mem) : nd_Res := (nd_let (nd_up σ 60 0 (0 : Int32)) fun σ1 => (nd_bind (f_X11_isHouse F x1 σ1) fun r2 σ3 => (if r2 = 0 then (some ((-2 : Int32), σ3)) else (if x2 = 0 then (if ((7 : Int32) + x1) < 0 ∨ 103 ≤ (((7 : Int32) + x1)).toNatClampNeg then none else (some ((σ3 61 (((7 : Int32) + x1)).toNatClampNeg), σ3))) else (if x2 = (1 : Int32) then (if ((23 : Int32) + x1) < 0 ∨ 103 ≤ (((23 : Int32) + x1)).toNatClampNeg then none else (some ((σ3 61 (((23 : Int32) + x1)).toNatClampNeg), σ3))) else (if x2 = (2 : Int32) then (if ((55 : Int32) + x1) < 0 ∨ 103 ≤ (((55 : Int32) + x1)).toNatClampNeg then none else (some ((σ3 61 (((55 : Int32) + x1)).toNatClampNeg), σ3))) else (if x2 = (3 : Int32) then (if ((39 : Int32) + x1) < 0 ∨ 103 ≤ (((39 : Int32) + x1)).toNatClampNeg then none else (some ((σ3 61 (((39 : Int32) + x1)).toNatClampNeg), σ3))) else (if x2 = (4 : Int32) then (if ((87 : Int32) + x1) < 0 ∨ 103 ≤ (((87 : Int32) + x1)).toNatClampNeg then none else (some ((σ3 61 (((87 : Int32) + x1)).toNatClampNeg), σ3))) else (if x2 = (5 : Int32) then (if ((71 : Int32) + x1) < 0 ∨ 103 ≤ (((71 : Int32) + x1)).toNatClampNeg then none else (some (((σ3 61 (((71 : Int32) + x1)).toNatClampNeg) - (1 : Int32)), σ3))) else (if x2 = (6 : Int32) then (if x1 < 0 ∨ 32 ≤ (x1).toNatClampNeg then none else (some ((σ3 77 (x1).toNatClampNeg), σ3))) else (if x2 = (7 : Int32) then (nd_bind (f_X11_nextOf F x1 σ3) fun r14 σ15 => (some (r14, σ15))) else (if x2 = (8 : Int32) then (nd_bind (f_X11_goesOf F x1 σ3) fun r11 σ12 => (some (r11, σ12))) else (if x2 = (9 : Int32) then (nd_bind (f_X11_bearsOf F x1 σ3) fun r8 σ9 => (some (r8, σ9))) else (if x2 = (10 : Int32) then (nd_bind (f_X11_bringsOf F x1 σ3) fun r5 σ6 => (some (r5, σ6))) else (if x2 = (11 : Int32) then (if x1 < 0 ∨ 32 ≤ (x1).toNatClampNeg then none else (some ((σ3 76 (x1).toNatClampNeg), σ3))) else (some ((-2 : Int32), σ3)))))))))))))))))
set_option maxRecDepth 100000 in
set_option maxHeartbeats 4000000 in
theorem t_X11_of (F : Nat) (t : List nd_S) (hL : (nd_SH ++ t).length < nd_ro) {z : Int32 × nd_Mem} (x1 : Int32) (x2 : Int32) (σ : nd_Mem) (h : f_X11_of F x1 x2 σ = some z) : nd_Fn M_X11_of (nd_rm 5) [.ref 60, .int x1, .int x2] (nd_SH ++ t) σ (nd_Pi (nd_SH ++ t) z) := by
  refine nd_Fn.ofV (ls := [(0, .ref 60), (1, .int x1), (2, .int x2)]) pl_X11_of rfl (fun _ => Nat.le_of_ble_eq_true rfl) (fun _ => rfl) ?_
  unfold f_X11_of at h
  refine nd_aload_n dX11_of_0 0 rfl ?_
  refine nd_iconst dX11_of_1 ic_0 ?_
  refine nd_putiN dX11_of_2 pf_X11_132 (sh_60 t) rfl h (fun σ1 h => ?_)
  refine nd_aload_n dX11_of_5 0 rfl ?_
  refine nd_iload_n dX11_of_6 1 rfl ?_
  obtain ⟨r2, σ3, hc4, h⟩ := nd_bind_e h
  refine nd_cvi [.int x1] [] dX11_of_7 cl_X11_151 (sh_60 t) ⟨Nat.le_of_ble_eq_true rfl, Nat.le_of_ble_eq_true rfl⟩ rfl (Nat.le_of_ble_eq_true rfl) hL (t_X11_isHouse F t hL _ _ hc4) ?_
  refine nd_if_neN dX11_of_10 16 (by decide) h (fun h => ?_) (fun h => ?_)
  · refine nd_iload_n dX11_of_16 2 rfl ?_
    refine nd_if_neN dX11_of_17 30 (by decide) h (fun h => ?_) (fun h => ?_)
    · refine nd_iload_n dX11_of_30 2 rfl ?_
      refine nd_iconst dX11_of_31 ic_1 ?_
      refine nd_icmp_neN dX11_of_32 45 (by decide) h (fun h => ?_) (fun h => ?_)
      · refine nd_iload_n dX11_of_45 2 rfl ?_
        refine nd_iconst dX11_of_46 ic_2 ?_
        refine nd_icmp_neN dX11_of_47 60 (by decide) h (fun h => ?_) (fun h => ?_)
        · refine nd_iload_n dX11_of_60 2 rfl ?_
          refine nd_iconst dX11_of_61 ic_3 ?_
          refine nd_icmp_neN dX11_of_62 75 (by decide) h (fun h => ?_) (fun h => ?_)
          · refine nd_iload_n dX11_of_75 2 rfl ?_
            refine nd_iconst dX11_of_76 ic_4 ?_
            refine nd_icmp_neN dX11_of_77 90 (by decide) h (fun h => ?_) (fun h => ?_)
            · refine nd_iload_n dX11_of_90 2 rfl ?_
              refine nd_iconst dX11_of_91 ic_5 ?_
              refine nd_icmp_neN dX11_of_92 107 (by decide) h (fun h => ?_) (fun h => ?_)
              · refine nd_iload_n dX11_of_107 2 rfl ?_
                refine nd_bipush dX11_of_108 ib_6 ?_
                refine nd_icmp_neN dX11_of_110 120 (by decide) h (fun h => ?_) (fun h => ?_)
                · refine nd_iload_n dX11_of_120 2 rfl ?_
                  refine nd_bipush dX11_of_121 ib_7 ?_
                  refine nd_icmp_neN dX11_of_123 132 (by decide) h (fun h => ?_) (fun h => ?_)
                  · refine nd_iload_n dX11_of_132 2 rfl ?_
                    refine nd_bipush dX11_of_133 ib_8 ?_
                    refine nd_icmp_neN dX11_of_135 144 (by decide) h (fun h => ?_) (fun h => ?_)
                    · refine nd_iload_n dX11_of_144 2 rfl ?_
                      refine nd_bipush dX11_of_145 ib_9 ?_
                      refine nd_icmp_neN dX11_of_147 158 (by decide) h (fun h => ?_) (fun h => ?_)
                      · refine nd_iload_n dX11_of_158 2 rfl ?_
                        refine nd_bipush dX11_of_159 ib_10 ?_
                        refine nd_icmp_neN dX11_of_161 172 (by decide) h (fun h => ?_) (fun h => ?_)
                        · refine nd_iload_n dX11_of_172 2 rfl ?_
                          refine nd_bipush dX11_of_173 ib_11 ?_
                          refine nd_icmp_neN dX11_of_175 187 (by decide) h (fun h => ?_) (fun h => ?_)
                          · refine nd_bipush dX11_of_187 ib_m2 ?_
                            exact nd_iret dX11_of_189 (Nat.zero_le _) (Nat.zero_le _) (vp_nar_int _) (by cases h; exact ⟨rfl, rfl, rfl⟩)
                          · refine nd_aload_n dX11_of_178 0 rfl ?_
                            refine nd_get dX11_of_179 gf_X11_59 (sh_60 t) rfl ?_
                            refine nd_iload_n dX11_of_182 1 rfl ?_
                            refine nd_ialoadN dX11_of_183 (sh_76 t) h (fun h => ?_)
                            refine nd_goto dX11_of_184 189 (by decide) ?_
                            exact nd_iret dX11_of_189 (Nat.zero_le _) (Nat.zero_le _) (vp_nar_int _) (by cases h; exact ⟨rfl, rfl, rfl⟩)
                        · refine nd_aload_n dX11_of_164 0 rfl ?_
                          refine nd_iload_n dX11_of_165 1 rfl ?_
                          obtain ⟨r5, σ6, hc7, h⟩ := nd_bind_e h
                          refine nd_cvi [.int x1] [] dX11_of_166 cl_X11_335 (sh_60 t) ⟨Nat.le_of_ble_eq_true rfl, Nat.le_of_ble_eq_true rfl⟩ rfl (Nat.le_of_ble_eq_true rfl) hL (t_X11_bringsOf F t hL _ _ hc7) ?_
                          refine nd_goto dX11_of_169 189 (by decide) ?_
                          exact nd_iret dX11_of_189 (Nat.zero_le _) (Nat.zero_le _) (vp_nar_int _) (by cases h; exact ⟨rfl, rfl, rfl⟩)
                      · refine nd_aload_n dX11_of_150 0 rfl ?_
                        refine nd_iload_n dX11_of_151 1 rfl ?_
                        obtain ⟨r8, σ9, hc10, h⟩ := nd_bind_e h
                        refine nd_cvi [.int x1] [] dX11_of_152 cl_X11_366 (sh_60 t) ⟨Nat.le_of_ble_eq_true rfl, Nat.le_of_ble_eq_true rfl⟩ rfl (Nat.le_of_ble_eq_true rfl) hL (t_X11_bearsOf F t hL _ _ hc10) ?_
                        refine nd_goto dX11_of_155 189 (by decide) ?_
                        exact nd_iret dX11_of_189 (Nat.zero_le _) (Nat.zero_le _) (vp_nar_int _) (by cases h; exact ⟨rfl, rfl, rfl⟩)
                    · refine nd_aload_n dX11_of_138 0 rfl ?_
                      refine nd_iload_n dX11_of_139 1 rfl ?_
                      obtain ⟨r11, σ12, hc13, h⟩ := nd_bind_e h
                      refine nd_cvi [.int x1] [] dX11_of_140 cl_X11_360 (sh_60 t) ⟨Nat.le_of_ble_eq_true rfl, Nat.le_of_ble_eq_true rfl⟩ rfl (Nat.le_of_ble_eq_true rfl) hL (t_X11_goesOf F t hL _ _ hc13) ?_
                      exact nd_iret dX11_of_143 (Nat.zero_le _) (Nat.zero_le _) (vp_nar_int _) (by cases h; exact ⟨rfl, rfl, rfl⟩)
                  · refine nd_aload_n dX11_of_126 0 rfl ?_
                    refine nd_iload_n dX11_of_127 1 rfl ?_
                    obtain ⟨r14, σ15, hc16, h⟩ := nd_bind_e h
                    refine nd_cvi [.int x1] [] dX11_of_128 cl_X11_325 (sh_60 t) ⟨Nat.le_of_ble_eq_true rfl, Nat.le_of_ble_eq_true rfl⟩ rfl (Nat.le_of_ble_eq_true rfl) hL (t_X11_nextOf F t hL _ _ hc16) ?_
                    exact nd_iret dX11_of_131 (Nat.zero_le _) (Nat.zero_le _) (vp_nar_int _) (by cases h; exact ⟨rfl, rfl, rfl⟩)
                · refine nd_aload_n dX11_of_113 0 rfl ?_
                  refine nd_get dX11_of_114 gf_X11_62 (sh_60 t) rfl ?_
                  refine nd_iload_n dX11_of_117 1 rfl ?_
                  refine nd_ialoadN dX11_of_118 (sh_77 t) h (fun h => ?_)
                  exact nd_iret dX11_of_119 (Nat.zero_le _) (Nat.zero_le _) (vp_nar_int _) (by cases h; exact ⟨rfl, rfl, rfl⟩)
              · refine nd_aload_n dX11_of_95 0 rfl ?_
                refine nd_get dX11_of_96 gf_X11_7 (sh_60 t) rfl ?_
                refine nd_bipush dX11_of_99 ib_71 ?_
                refine nd_iload_n dX11_of_101 1 rfl ?_
                refine nd_iadd dX11_of_102 ?_
                refine nd_ialoadN dX11_of_103 (sh_61 t) h (fun h => ?_)
                refine nd_iconst dX11_of_104 ic_1 ?_
                refine nd_isub dX11_of_105 ?_
                exact nd_iret dX11_of_106 (Nat.zero_le _) (Nat.zero_le _) (vp_nar_int _) (by cases h; exact ⟨rfl, rfl, rfl⟩)
            · refine nd_aload_n dX11_of_80 0 rfl ?_
              refine nd_get dX11_of_81 gf_X11_7 (sh_60 t) rfl ?_
              refine nd_bipush dX11_of_84 ib_87 ?_
              refine nd_iload_n dX11_of_86 1 rfl ?_
              refine nd_iadd dX11_of_87 ?_
              refine nd_ialoadN dX11_of_88 (sh_61 t) h (fun h => ?_)
              exact nd_iret dX11_of_89 (Nat.zero_le _) (Nat.zero_le _) (vp_nar_int _) (by cases h; exact ⟨rfl, rfl, rfl⟩)
          · refine nd_aload_n dX11_of_65 0 rfl ?_
            refine nd_get dX11_of_66 gf_X11_7 (sh_60 t) rfl ?_
            refine nd_bipush dX11_of_69 ib_39 ?_
            refine nd_iload_n dX11_of_71 1 rfl ?_
            refine nd_iadd dX11_of_72 ?_
            refine nd_ialoadN dX11_of_73 (sh_61 t) h (fun h => ?_)
            exact nd_iret dX11_of_74 (Nat.zero_le _) (Nat.zero_le _) (vp_nar_int _) (by cases h; exact ⟨rfl, rfl, rfl⟩)
        · refine nd_aload_n dX11_of_50 0 rfl ?_
          refine nd_get dX11_of_51 gf_X11_7 (sh_60 t) rfl ?_
          refine nd_bipush dX11_of_54 ib_55 ?_
          refine nd_iload_n dX11_of_56 1 rfl ?_
          refine nd_iadd dX11_of_57 ?_
          refine nd_ialoadN dX11_of_58 (sh_61 t) h (fun h => ?_)
          exact nd_iret dX11_of_59 (Nat.zero_le _) (Nat.zero_le _) (vp_nar_int _) (by cases h; exact ⟨rfl, rfl, rfl⟩)
      · refine nd_aload_n dX11_of_35 0 rfl ?_
        refine nd_get dX11_of_36 gf_X11_7 (sh_60 t) rfl ?_
        refine nd_bipush dX11_of_39 ib_23 ?_
        refine nd_iload_n dX11_of_41 1 rfl ?_
        refine nd_iadd dX11_of_42 ?_
        refine nd_ialoadN dX11_of_43 (sh_61 t) h (fun h => ?_)
        exact nd_iret dX11_of_44 (Nat.zero_le _) (Nat.zero_le _) (vp_nar_int _) (by cases h; exact ⟨rfl, rfl, rfl⟩)
    · refine nd_aload_n dX11_of_20 0 rfl ?_
      refine nd_get dX11_of_21 gf_X11_7 (sh_60 t) rfl ?_
      refine nd_bipush dX11_of_24 ib_7 ?_
      refine nd_iload_n dX11_of_26 1 rfl ?_
      refine nd_iadd dX11_of_27 ?_
      refine nd_ialoadN dX11_of_28 (sh_61 t) h (fun h => ?_)
      exact nd_iret dX11_of_29 (Nat.zero_le _) (Nat.zero_le _) (vp_nar_int _) (by cases h; exact ⟨rfl, rfl, rfl⟩)
  · refine nd_bipush dX11_of_13 ib_m2 ?_
    exact nd_iret dX11_of_15 (Nat.zero_le _) (Nat.zero_le _) (vp_nar_int _) (by cases h; exact ⟨rfl, rfl, rfl⟩)
def f_X11_readDeed_114 (F : Nat) (x1 : Int32) (s0 : Int32) (s1 : Int32) (σ : nd_Mem) : nd_Res := (if s1 < 0 ∨ 128 ≤ (s1).toNatClampNeg then none else (nd_let (nd_up σ 75 (s1).toNatClampNeg s0) fun σ1 => (if (x1 + (3 : Int32)) < 0 ∨ 128 ≤ ((x1 + (3 : Int32))).toNatClampNeg then none else (if (σ1 75 ((x1 + (3 : Int32))).toNatClampNeg) = (-1 : Int32) then (some ((-1 : Int32), σ1)) else (nd_bind (f_X11_readMark F (59 : Int32) σ1) fun r2 σ3 => (some (r2, σ3)))))))
def f_X11_readDeed (F : Nat) (x1 : Int32) (σ : nd_Mem) : nd_Res := (nd_bind (f_X11_readTold F (17 : Int32) (0 : Int32) (999 : Int32) σ) fun r1 σ2 => (if x1 < 0 ∨ 128 ≤ (x1).toNatClampNeg then none else (nd_let (nd_up σ2 75 (x1).toNatClampNeg r1) fun σ4 => (if x1 < 0 ∨ 128 ≤ (x1).toNatClampNeg then none else (if (σ4 75 (x1).toNatClampNeg) = (-1 : Int32) then (some ((-1 : Int32), σ4)) else (nd_bind (f_X11_kindOfDeed F σ4) fun r5 σ6 => (if r5 = (-1 : Int32) then (nd_bind (f_X11_errs F (1 : Int32) σ6) fun r19 σ20 => (some (r19, σ20))) else (nd_bind (f_X11_reads F σ6) fun r8 σ9 => (if (x1 + (1 : Int32)) < 0 ∨ 128 ≤ ((x1 + (1 : Int32))).toNatClampNeg then none else (nd_let (nd_up σ9 75 ((x1 + (1 : Int32))).toNatClampNeg r5) fun σ11 => (nd_bind (f_X11_readNumber F (0 : Int32) ((σ11 60 6) - (1 : Int32)) σ11) fun r12 σ13 => (if (x1 + (2 : Int32)) < 0 ∨ 128 ≤ ((x1 + (2 : Int32))).toNatClampNeg then none else (nd_let (nd_up σ13 75 ((x1 + (2 : Int32))).toNatClampNeg r12) fun σ15 => (if (x1 + (2 : Int32)) < 0 ∨ 128 ≤ ((x1 + (2 : Int32))).toNatClampNeg then none else (if (σ15 75 ((x1 + (2 : Int32))).toNatClampNeg) = (-1 : Int32) then (some ((-1 : Int32), σ15)) else (if r5 = (4 : Int32) then (nd_bind (f_X11_readNumber F (1 : Int32) (999 : Int32) σ15) fun r16 σ17 => (f_X11_readDeed_114 F x1 r16 (x1 + (3 : Int32)) σ17)) else (f_X11_readDeed_114 F x1 (0 : Int32) (x1 + (3 : Int32)) σ15)))))))))))))))))
set_option maxRecDepth 100000 in
set_option maxHeartbeats 4000000 in
theorem b_X11_readDeed_114 (F : Nat) (t : List nd_S) (hL : (nd_SH ++ t).length < nd_ro) {z : Int32 × nd_Mem} (x1 : Int32) (s0 : Int32) (s1 : Int32) (σ : nd_Mem) (h : f_X11_readDeed_114 F x1 s0 s1 σ = some z) : nd_V M_X11_readDeed (nd_rm 5) (nd_Pi (nd_SH ++ t) z) 0 0 114 [(0, .ref 60), (1, .int x1)] [.int s0, .int s1, .ref 75] (nd_SH ++ t) σ := by
  unfold f_X11_readDeed_114 at h
  refine nd_iastoreN dX11_readDeed_114 (sh_75 t) h (fun σ1 h => ?_)
  refine nd_aload_n dX11_readDeed_115 0 rfl ?_
  refine nd_get dX11_readDeed_116 gf_X11_56 (sh_60 t) rfl ?_
  refine nd_iload_n dX11_readDeed_119 1 rfl ?_
  refine nd_iconst dX11_readDeed_120 ic_3 ?_
  refine nd_iadd dX11_readDeed_121 ?_
  refine nd_ialoadN dX11_readDeed_122 (sh_75 t) h (fun h => ?_)
  refine nd_iconst dX11_readDeed_123 ic_m1 ?_
  refine nd_icmp_neN dX11_readDeed_124 131 (by decide) h (fun h => ?_) (fun h => ?_)
  · refine nd_aload_n dX11_readDeed_131 0 rfl ?_
    refine nd_bipush dX11_readDeed_132 ib_59 ?_
    obtain ⟨r2, σ3, hc4, h⟩ := nd_bind_e h
    refine nd_cvi [.int (59 : Int32)] [] dX11_readDeed_134 cl_X11_264 (sh_60 t) ⟨Nat.le_of_ble_eq_true rfl, Nat.le_of_ble_eq_true rfl⟩ rfl (Nat.le_of_ble_eq_true rfl) hL (t_X11_readMark F t hL _ _ hc4) ?_
    exact nd_iret dX11_readDeed_137 (Nat.zero_le _) (Nat.zero_le _) (vp_nar_int _) (by cases h; exact ⟨rfl, rfl, rfl⟩)
  · refine nd_iconst dX11_readDeed_127 ic_m1 ?_
    refine nd_goto dX11_readDeed_128 137 (by decide) ?_
    exact nd_iret dX11_readDeed_137 (Nat.zero_le _) (Nat.zero_le _) (vp_nar_int _) (by cases h; exact ⟨rfl, rfl, rfl⟩)
set_option maxRecDepth 100000 in
set_option maxHeartbeats 4000000 in
theorem t_X11_readDeed (F : Nat) (t : List nd_S) (hL : (nd_SH ++ t).length < nd_ro) {z : Int32 × nd_Mem} (x1 : Int32) (σ : nd_Mem) (h : f_X11_readDeed F x1 σ = some z) : nd_Fn M_X11_readDeed (nd_rm 5) [.ref 60, .int x1] (nd_SH ++ t) σ (nd_Pi (nd_SH ++ t) z) := by
  refine nd_Fn.ofV (ls := [(0, .ref 60), (1, .int x1)]) pl_X11_readDeed rfl (fun _ => Nat.le_of_ble_eq_true rfl) (fun _ => rfl) ?_
  unfold f_X11_readDeed at h
  refine nd_aload_n dX11_readDeed_0 0 rfl ?_
  refine nd_get dX11_readDeed_1 gf_X11_56 (sh_60 t) rfl ?_
  refine nd_iload_n dX11_readDeed_4 1 rfl ?_
  refine nd_aload_n dX11_readDeed_5 0 rfl ?_
  refine nd_bipush dX11_readDeed_6 ib_17 ?_
  refine nd_iconst dX11_readDeed_8 ic_0 ?_
  refine nd_sipush dX11_readDeed_9 is_999 ?_
  obtain ⟨r1, σ2, hc3, h⟩ := nd_bind_e h
  refine nd_cvi [.int (17 : Int32), .int (0 : Int32), .int (999 : Int32)] [.int x1, .ref 75] dX11_readDeed_12 cl_X11_257 (sh_60 t) ⟨Nat.le_of_ble_eq_true rfl, Nat.le_of_ble_eq_true rfl⟩ rfl (Nat.le_of_ble_eq_true rfl) hL (t_X11_readTold F t hL _ _ _ _ hc3) ?_
  refine nd_iastoreN dX11_readDeed_15 (sh_75 t) h (fun σ4 h => ?_)
  refine nd_aload_n dX11_readDeed_16 0 rfl ?_
  refine nd_get dX11_readDeed_17 gf_X11_56 (sh_60 t) rfl ?_
  refine nd_iload_n dX11_readDeed_20 1 rfl ?_
  refine nd_ialoadN dX11_readDeed_21 (sh_75 t) h (fun h => ?_)
  refine nd_iconst dX11_readDeed_22 ic_m1 ?_
  refine nd_icmp_neN dX11_readDeed_23 28 (by decide) h (fun h => ?_) (fun h => ?_)
  · refine nd_aload_n dX11_readDeed_28 0 rfl ?_
    obtain ⟨r5, σ6, hc7, h⟩ := nd_bind_e h
    refine nd_cvi [] [] dX11_readDeed_29 cl_X11_261 (sh_60 t) ⟨Nat.le_of_ble_eq_true rfl, Nat.le_of_ble_eq_true rfl⟩ rfl (Nat.le_of_ble_eq_true rfl) hL (t_X11_kindOfDeed F t hL _ hc7) ?_
    refine nd_istore_n (ls' := [(2, .int r5), (0, .ref 60), (1, .int x1)]) dX11_readDeed_32 (by decide) rfl ?_
    refine nd_iload_n dX11_readDeed_33 0 rfl ?_
    refine nd_iconst dX11_readDeed_34 ic_m1 ?_
    refine nd_icmp_neN dX11_readDeed_35 44 (by decide) h (fun h => ?_) (fun h => ?_)
    · refine nd_aload_n dX11_readDeed_44 1 rfl ?_
      obtain ⟨r8, σ9, hc10, h⟩ := nd_bind_e h
      refine nd_cvv [] [] dX11_readDeed_45 cl_X11_210 (sh_60 t) ⟨Nat.le_of_ble_eq_true rfl, Nat.le_of_ble_eq_true rfl⟩ rfl (Nat.le_of_ble_eq_true rfl) hL (t_X11_reads F t hL _ hc10) ?_
      refine nd_aload_n dX11_readDeed_48 1 rfl ?_
      refine nd_get dX11_readDeed_49 gf_X11_56 (sh_60 t) rfl ?_
      refine nd_iload_n dX11_readDeed_52 2 rfl ?_
      refine nd_iconst dX11_readDeed_53 ic_1 ?_
      refine nd_iadd dX11_readDeed_54 ?_
      refine nd_iload_n dX11_readDeed_55 0 rfl ?_
      refine nd_iastoreN dX11_readDeed_56 (sh_75 t) h (fun σ11 h => ?_)
      refine nd_aload_n dX11_readDeed_57 1 rfl ?_
      refine nd_get dX11_readDeed_58 gf_X11_56 (sh_60 t) rfl ?_
      refine nd_iload_n dX11_readDeed_61 2 rfl ?_
      refine nd_iconst dX11_readDeed_62 ic_2 ?_
      refine nd_iadd dX11_readDeed_63 ?_
      refine nd_aload_n dX11_readDeed_64 1 rfl ?_
      refine nd_iconst dX11_readDeed_65 ic_0 ?_
      refine nd_aload_n dX11_readDeed_66 1 rfl ?_
      refine nd_get dX11_readDeed_67 gf_X11_144 (sh_60 t) rfl ?_
      refine nd_iconst dX11_readDeed_70 ic_1 ?_
      refine nd_isub dX11_readDeed_71 ?_
      obtain ⟨r12, σ13, hc14, h⟩ := nd_bind_e h
      refine nd_cvi [.int (0 : Int32), .int ((σ11 60 6) - (1 : Int32))] [.int (x1 + (2 : Int32)), .ref 75] dX11_readDeed_72 cl_X11_254 (sh_60 t) ⟨Nat.le_of_ble_eq_true rfl, Nat.le_of_ble_eq_true rfl⟩ rfl (Nat.le_of_ble_eq_true rfl) hL (t_X11_readNumber F t hL _ _ _ hc14) ?_
      refine nd_iastoreN dX11_readDeed_75 (sh_75 t) h (fun σ15 h => ?_)
      refine nd_aload_n dX11_readDeed_76 1 rfl ?_
      refine nd_get dX11_readDeed_77 gf_X11_56 (sh_60 t) rfl ?_
      refine nd_iload_n dX11_readDeed_80 2 rfl ?_
      refine nd_iconst dX11_readDeed_81 ic_2 ?_
      refine nd_iadd dX11_readDeed_82 ?_
      refine nd_ialoadN dX11_readDeed_83 (sh_75 t) h (fun h => ?_)
      refine nd_iconst dX11_readDeed_84 ic_m1 ?_
      refine nd_icmp_neN dX11_readDeed_85 90 (by decide) h (fun h => ?_) (fun h => ?_)
      · refine nd_aload_n dX11_readDeed_90 1 rfl ?_
        refine nd_get dX11_readDeed_91 gf_X11_56 (sh_60 t) rfl ?_
        refine nd_iload_n dX11_readDeed_94 2 rfl ?_
        refine nd_iconst dX11_readDeed_95 ic_3 ?_
        refine nd_iadd dX11_readDeed_96 ?_
        refine nd_iload_n dX11_readDeed_97 0 rfl ?_
        refine nd_iconst dX11_readDeed_98 ic_4 ?_
        refine nd_icmp_neN dX11_readDeed_99 113 (by decide) h (fun h => ?_) (fun h => ?_)
        · refine nd_iconst dX11_readDeed_113 ic_0 ?_
          refine nd_sub [1, 2] rfl ?_
          exact b_X11_readDeed_114 F t hL _ _ _ _ h
        · refine nd_aload_n dX11_readDeed_102 1 rfl ?_
          refine nd_iconst dX11_readDeed_103 ic_1 ?_
          refine nd_sipush dX11_readDeed_104 is_999 ?_
          obtain ⟨r16, σ17, hc18, h⟩ := nd_bind_e h
          refine nd_cvi [.int (1 : Int32), .int (999 : Int32)] [.int (x1 + (3 : Int32)), .ref 75] dX11_readDeed_107 cl_X11_254 (sh_60 t) ⟨Nat.le_of_ble_eq_true rfl, Nat.le_of_ble_eq_true rfl⟩ rfl (Nat.le_of_ble_eq_true rfl) hL (t_X11_readNumber F t hL _ _ _ hc18) ?_
          refine nd_goto dX11_readDeed_110 114 (by decide) ?_
          refine nd_sub [1, 2] rfl ?_
          exact b_X11_readDeed_114 F t hL _ _ _ _ h
      · refine nd_iconst dX11_readDeed_88 ic_m1 ?_
        exact nd_iret dX11_readDeed_89 (Nat.zero_le _) (Nat.zero_le _) (vp_nar_int _) (by cases h; exact ⟨rfl, rfl, rfl⟩)
    · refine nd_aload_n dX11_readDeed_38 1 rfl ?_
      refine nd_iconst dX11_readDeed_39 ic_1 ?_
      obtain ⟨r19, σ20, hc21, h⟩ := nd_bind_e h
      refine nd_cvi [.int (1 : Int32)] [] dX11_readDeed_40 cl_X11_203 (sh_60 t) ⟨Nat.le_of_ble_eq_true rfl, Nat.le_of_ble_eq_true rfl⟩ rfl (Nat.le_of_ble_eq_true rfl) hL (t_X11_errs F t hL _ _ hc21) ?_
      exact nd_iret dX11_readDeed_43 (Nat.zero_le _) (Nat.zero_le _) (vp_nar_int _) (by cases h; exact ⟨rfl, rfl, rfl⟩)
  · refine nd_iconst dX11_readDeed_26 ic_m1 ?_
    exact nd_iret dX11_readDeed_27 (Nat.zero_le _) (Nat.zero_le _) (vp_nar_int _) (by cases h; exact ⟨rfl, rfl, rfl⟩)
def f_X11_readFeud_62 (F : Nat) (x1 : Int32) (σ : nd_Mem) : nd_Res := (nd_bind (f_X11_readNumber F (0 : Int32) ((σ 60 6) - (1 : Int32)) σ) fun r1 σ2 => (if r1 = (-1 : Int32) then (some ((-1 : Int32), σ2)) else (if ((16 : Int32) + x1) < 0 ∨ 32 ≤ (((16 : Int32) + x1)).toNatClampNeg then none else (if ((16 : Int32) + x1) < 0 ∨ 32 ≤ (((16 : Int32) + x1)).toNatClampNeg then none else (nd_let (nd_up σ2 76 (((16 : Int32) + x1)).toNatClampNeg ((σ2 76 (((16 : Int32) + x1)).toNatClampNeg) ||| ((1 : Int32) <<< (r1 &&& 31)))) fun σ4 => (nd_bind (f_X11_readMark F (59 : Int32) σ4) fun r5 σ6 => (some (r5, σ6))))))))
def f_X11_readFeud (F : Nat) (σ : nd_Mem) : nd_Res := (nd_bind (f_X11_readTold F (20 : Int32) (0 : Int32) ((σ 60 6) - (1 : Int32)) σ) fun r1 σ2 => (if r1 = (-1 : Int32) then (some ((-1 : Int32), σ2)) else (nd_bind (f_X11_isWord F (23 : Int32) σ2) fun r4 σ5 => (if r4 = 0 then (nd_bind (f_X11_errs F (1 : Int32) σ5) fun r13 σ14 => (some (r13, σ14))) else (nd_bind (f_X11_reads F σ5) fun r7 σ8 => (if (σ8 60 12) = (3 : Int32) then (if (σ8 60 13) = r1 then (nd_bind (f_X11_errs F (2 : Int32) σ8) fun r10 σ11 => (some (r10, σ11))) else (f_X11_readFeud_62 F r1 σ8)) else (f_X11_readFeud_62 F r1 σ8)))))))
set_option maxRecDepth 100000 in
set_option maxHeartbeats 4000000 in
theorem b_X11_readFeud_62 (F : Nat) (t : List nd_S) (hL : (nd_SH ++ t).length < nd_ro) {z : Int32 × nd_Mem} (x1 : Int32) (σ : nd_Mem) (h : f_X11_readFeud_62 F x1 σ = some z) : nd_V M_X11_readFeud (nd_rm 5) (nd_Pi (nd_SH ++ t) z) 0 0 62 [(0, .ref 60), (1, .int x1)] [] (nd_SH ++ t) σ := by
  unfold f_X11_readFeud_62 at h
  refine nd_aload_n dX11_readFeud_62 0 rfl ?_
  refine nd_iconst dX11_readFeud_63 ic_0 ?_
  refine nd_aload_n dX11_readFeud_64 0 rfl ?_
  refine nd_get dX11_readFeud_65 gf_X11_144 (sh_60 t) rfl ?_
  refine nd_iconst dX11_readFeud_68 ic_1 ?_
  refine nd_isub dX11_readFeud_69 ?_
  obtain ⟨r1, σ2, hc3, h⟩ := nd_bind_e h
  refine nd_cvi [.int (0 : Int32), .int ((σ 60 6) - (1 : Int32))] [] dX11_readFeud_70 cl_X11_254 (sh_60 t) ⟨Nat.le_of_ble_eq_true rfl, Nat.le_of_ble_eq_true rfl⟩ rfl (Nat.le_of_ble_eq_true rfl) hL (t_X11_readNumber F t hL _ _ _ hc3) ?_
  refine nd_istore_n (ls' := [(2, .int r1), (0, .ref 60), (1, .int x1)]) dX11_readFeud_73 (by decide) rfl ?_
  refine nd_iload_n dX11_readFeud_74 0 rfl ?_
  refine nd_iconst dX11_readFeud_75 ic_m1 ?_
  refine nd_icmp_neN dX11_readFeud_76 81 (by decide) h (fun h => ?_) (fun h => ?_)
  · refine nd_aload_n dX11_readFeud_81 1 rfl ?_
    refine nd_get dX11_readFeud_82 gf_X11_59 (sh_60 t) rfl ?_
    refine nd_bipush dX11_readFeud_85 ib_16 ?_
    refine nd_iload_n dX11_readFeud_87 2 rfl ?_
    refine nd_iadd dX11_readFeud_88 ?_
    refine nd_aload_n dX11_readFeud_89 1 rfl ?_
    refine nd_get dX11_readFeud_90 gf_X11_59 (sh_60 t) rfl ?_
    refine nd_bipush dX11_readFeud_93 ib_16 ?_
    refine nd_iload_n dX11_readFeud_95 2 rfl ?_
    refine nd_iadd dX11_readFeud_96 ?_
    refine nd_ialoadN dX11_readFeud_97 (sh_76 t) h (fun h => ?_)
    refine nd_iconst dX11_readFeud_98 ic_1 ?_
    refine nd_iload_n dX11_readFeud_99 0 rfl ?_
    refine nd_ishl dX11_readFeud_100 ?_
    refine nd_ior dX11_readFeud_101 ?_
    refine nd_iastoreN dX11_readFeud_102 (sh_76 t) h (fun σ4 h => ?_)
    refine nd_aload_n dX11_readFeud_103 1 rfl ?_
    refine nd_bipush dX11_readFeud_104 ib_59 ?_
    obtain ⟨r5, σ6, hc7, h⟩ := nd_bind_e h
    refine nd_cvi [.int (59 : Int32)] [] dX11_readFeud_106 cl_X11_264 (sh_60 t) ⟨Nat.le_of_ble_eq_true rfl, Nat.le_of_ble_eq_true rfl⟩ rfl (Nat.le_of_ble_eq_true rfl) hL (t_X11_readMark F t hL _ _ hc7) ?_
    exact nd_iret dX11_readFeud_109 (Nat.zero_le _) (Nat.zero_le _) (vp_nar_int _) (by cases h; exact ⟨rfl, rfl, rfl⟩)
  · refine nd_iconst dX11_readFeud_79 ic_m1 ?_
    exact nd_iret dX11_readFeud_80 (Nat.zero_le _) (Nat.zero_le _) (vp_nar_int _) (by cases h; exact ⟨rfl, rfl, rfl⟩)
set_option maxRecDepth 100000 in
set_option maxHeartbeats 4000000 in
theorem t_X11_readFeud (F : Nat) (t : List nd_S) (hL : (nd_SH ++ t).length < nd_ro) {z : Int32 × nd_Mem} (σ : nd_Mem) (h : f_X11_readFeud F σ = some z) : nd_Fn M_X11_readFeud (nd_rm 5) [.ref 60] (nd_SH ++ t) σ (nd_Pi (nd_SH ++ t) z) := by
  refine nd_Fn.ofV (ls := [(0, .ref 60)]) pl_X11_readFeud rfl (fun _ => Nat.le_of_ble_eq_true rfl) (fun _ => rfl) ?_
  unfold f_X11_readFeud at h
  refine nd_aload_n dX11_readFeud_0 0 rfl ?_
  refine nd_bipush dX11_readFeud_1 ib_20 ?_
  refine nd_iconst dX11_readFeud_3 ic_0 ?_
  refine nd_aload_n dX11_readFeud_4 0 rfl ?_
  refine nd_get dX11_readFeud_5 gf_X11_144 (sh_60 t) rfl ?_
  refine nd_iconst dX11_readFeud_8 ic_1 ?_
  refine nd_isub dX11_readFeud_9 ?_
  obtain ⟨r1, σ2, hc3, h⟩ := nd_bind_e h
  refine nd_cvi [.int (20 : Int32), .int (0 : Int32), .int ((σ 60 6) - (1 : Int32))] [] dX11_readFeud_10 cl_X11_257 (sh_60 t) ⟨Nat.le_of_ble_eq_true rfl, Nat.le_of_ble_eq_true rfl⟩ rfl (Nat.le_of_ble_eq_true rfl) hL (t_X11_readTold F t hL _ _ _ _ hc3) ?_
  refine nd_istore_n (ls' := [(1, .int r1), (0, .ref 60)]) dX11_readFeud_13 (by decide) rfl ?_
  refine nd_iload_n dX11_readFeud_14 0 rfl ?_
  refine nd_iconst dX11_readFeud_15 ic_m1 ?_
  refine nd_icmp_neN dX11_readFeud_16 21 (by decide) h (fun h => ?_) (fun h => ?_)
  · refine nd_aload_n dX11_readFeud_21 1 rfl ?_
    refine nd_bipush dX11_readFeud_22 ib_23 ?_
    obtain ⟨r4, σ5, hc6, h⟩ := nd_bind_e h
    refine nd_cvi [.int (23 : Int32)] [] dX11_readFeud_24 cl_X11_232 (sh_60 t) ⟨Nat.le_of_ble_eq_true rfl, Nat.le_of_ble_eq_true rfl⟩ rfl (Nat.le_of_ble_eq_true rfl) hL (t_X11_isWord F t hL _ _ hc6) ?_
    refine nd_if_neN dX11_readFeud_27 36 (by decide) h (fun h => ?_) (fun h => ?_)
    · refine nd_aload_n dX11_readFeud_36 1 rfl ?_
      obtain ⟨r7, σ8, hc9, h⟩ := nd_bind_e h
      refine nd_cvv [] [] dX11_readFeud_37 cl_X11_210 (sh_60 t) ⟨Nat.le_of_ble_eq_true rfl, Nat.le_of_ble_eq_true rfl⟩ rfl (Nat.le_of_ble_eq_true rfl) hL (t_X11_reads F t hL _ hc9) ?_
      refine nd_aload_n dX11_readFeud_40 1 rfl ?_
      refine nd_get dX11_readFeud_41 gf_X11_172 (sh_60 t) rfl ?_
      refine nd_iconst dX11_readFeud_44 ic_3 ?_
      refine nd_icmp_neN dX11_readFeud_45 62 (by decide) h (fun h => ?_) (fun h => ?_)
      · refine nd_sub [1, 0] rfl ?_
        exact b_X11_readFeud_62 F t hL _ _ h
      · refine nd_aload_n dX11_readFeud_48 1 rfl ?_
        refine nd_get dX11_readFeud_49 gf_X11_175 (sh_60 t) rfl ?_
        refine nd_iload_n dX11_readFeud_52 0 rfl ?_
        refine nd_icmp_neN dX11_readFeud_53 62 (by decide) h (fun h => ?_) (fun h => ?_)
        · refine nd_sub [1, 0] rfl ?_
          exact b_X11_readFeud_62 F t hL _ _ h
        · refine nd_aload_n dX11_readFeud_56 1 rfl ?_
          refine nd_iconst dX11_readFeud_57 ic_2 ?_
          obtain ⟨r10, σ11, hc12, h⟩ := nd_bind_e h
          refine nd_cvi [.int (2 : Int32)] [] dX11_readFeud_58 cl_X11_203 (sh_60 t) ⟨Nat.le_of_ble_eq_true rfl, Nat.le_of_ble_eq_true rfl⟩ rfl (Nat.le_of_ble_eq_true rfl) hL (t_X11_errs F t hL _ _ hc12) ?_
          exact nd_iret dX11_readFeud_61 (Nat.zero_le _) (Nat.zero_le _) (vp_nar_int _) (by cases h; exact ⟨rfl, rfl, rfl⟩)
    · refine nd_aload_n dX11_readFeud_30 1 rfl ?_
      refine nd_iconst dX11_readFeud_31 ic_1 ?_
      obtain ⟨r13, σ14, hc15, h⟩ := nd_bind_e h
      refine nd_cvi [.int (1 : Int32)] [] dX11_readFeud_32 cl_X11_203 (sh_60 t) ⟨Nat.le_of_ble_eq_true rfl, Nat.le_of_ble_eq_true rfl⟩ rfl (Nat.le_of_ble_eq_true rfl) hL (t_X11_errs F t hL _ _ hc15) ?_
      exact nd_iret dX11_readFeud_35 (Nat.zero_le _) (Nat.zero_le _) (vp_nar_int _) (by cases h; exact ⟨rfl, rfl, rfl⟩)
  · refine nd_iconst dX11_readFeud_19 ic_m1 ?_
    exact nd_iret dX11_readFeud_20 (Nat.zero_le _) (Nat.zero_le _) (vp_nar_int _) (by cases h; exact ⟨rfl, rfl, rfl⟩)
def f_X11_readSide (F : Nat) (σ : nd_Mem) : nd_Res := (nd_bind (f_X11_readTold F (20 : Int32) (0 : Int32) ((σ 60 6) - (1 : Int32)) σ) fun r1 σ2 => (if r1 = (-1 : Int32) then (some ((-1 : Int32), σ2)) else (nd_bind (f_X11_readTold F (13 : Int32) (0 : Int32) (1 : Int32) σ2) fun r4 σ5 => (if r4 = (-1 : Int32) then (some ((-1 : Int32), σ5)) else (if ((16 : Int32) + r1) < 0 ∨ 32 ≤ (((16 : Int32) + r1)).toNatClampNeg then none else (nd_let (nd_up σ5 77 (((16 : Int32) + r1)).toNatClampNeg r4) fun σ7 => (nd_bind (f_X11_readMark F (59 : Int32) σ7) fun r8 σ9 => (some (r8, σ9)))))))))
set_option maxRecDepth 100000 in
set_option maxHeartbeats 4000000 in
theorem t_X11_readSide (F : Nat) (t : List nd_S) (hL : (nd_SH ++ t).length < nd_ro) {z : Int32 × nd_Mem} (σ : nd_Mem) (h : f_X11_readSide F σ = some z) : nd_Fn M_X11_readSide (nd_rm 5) [.ref 60] (nd_SH ++ t) σ (nd_Pi (nd_SH ++ t) z) := by
  refine nd_Fn.ofV (ls := [(0, .ref 60)]) pl_X11_readSide rfl (fun _ => Nat.le_of_ble_eq_true rfl) (fun _ => rfl) ?_
  unfold f_X11_readSide at h
  refine nd_aload_n dX11_readSide_0 0 rfl ?_
  refine nd_bipush dX11_readSide_1 ib_20 ?_
  refine nd_iconst dX11_readSide_3 ic_0 ?_
  refine nd_aload_n dX11_readSide_4 0 rfl ?_
  refine nd_get dX11_readSide_5 gf_X11_144 (sh_60 t) rfl ?_
  refine nd_iconst dX11_readSide_8 ic_1 ?_
  refine nd_isub dX11_readSide_9 ?_
  obtain ⟨r1, σ2, hc3, h⟩ := nd_bind_e h
  refine nd_cvi [.int (20 : Int32), .int (0 : Int32), .int ((σ 60 6) - (1 : Int32))] [] dX11_readSide_10 cl_X11_257 (sh_60 t) ⟨Nat.le_of_ble_eq_true rfl, Nat.le_of_ble_eq_true rfl⟩ rfl (Nat.le_of_ble_eq_true rfl) hL (t_X11_readTold F t hL _ _ _ _ hc3) ?_
  refine nd_istore_n (ls' := [(1, .int r1), (0, .ref 60)]) dX11_readSide_13 (by decide) rfl ?_
  refine nd_iload_n dX11_readSide_14 0 rfl ?_
  refine nd_iconst dX11_readSide_15 ic_m1 ?_
  refine nd_icmp_neN dX11_readSide_16 21 (by decide) h (fun h => ?_) (fun h => ?_)
  · refine nd_aload_n dX11_readSide_21 1 rfl ?_
    refine nd_bipush dX11_readSide_22 ib_13 ?_
    refine nd_iconst dX11_readSide_24 ic_0 ?_
    refine nd_iconst dX11_readSide_25 ic_1 ?_
    obtain ⟨r4, σ5, hc6, h⟩ := nd_bind_e h
    refine nd_cvi [.int (13 : Int32), .int (0 : Int32), .int (1 : Int32)] [] dX11_readSide_26 cl_X11_257 (sh_60 t) ⟨Nat.le_of_ble_eq_true rfl, Nat.le_of_ble_eq_true rfl⟩ rfl (Nat.le_of_ble_eq_true rfl) hL (t_X11_readTold F t hL _ _ _ _ hc6) ?_
    refine nd_istore_n (ls' := [(2, .int r4), (1, .int r1), (0, .ref 60)]) dX11_readSide_29 (by decide) rfl ?_
    refine nd_iload_n dX11_readSide_30 0 rfl ?_
    refine nd_iconst dX11_readSide_31 ic_m1 ?_
    refine nd_icmp_neN dX11_readSide_32 37 (by decide) h (fun h => ?_) (fun h => ?_)
    · refine nd_aload_n dX11_readSide_37 2 rfl ?_
      refine nd_get dX11_readSide_38 gf_X11_62 (sh_60 t) rfl ?_
      refine nd_bipush dX11_readSide_41 ib_16 ?_
      refine nd_iload_n dX11_readSide_43 1 rfl ?_
      refine nd_iadd dX11_readSide_44 ?_
      refine nd_iload_n dX11_readSide_45 0 rfl ?_
      refine nd_iastoreN dX11_readSide_46 (sh_77 t) h (fun σ7 h => ?_)
      refine nd_aload_n dX11_readSide_47 2 rfl ?_
      refine nd_bipush dX11_readSide_48 ib_59 ?_
      obtain ⟨r8, σ9, hc10, h⟩ := nd_bind_e h
      refine nd_cvi [.int (59 : Int32)] [] dX11_readSide_50 cl_X11_264 (sh_60 t) ⟨Nat.le_of_ble_eq_true rfl, Nat.le_of_ble_eq_true rfl⟩ rfl (Nat.le_of_ble_eq_true rfl) hL (t_X11_readMark F t hL _ _ hc10) ?_
      exact nd_iret dX11_readSide_53 (Nat.zero_le _) (Nat.zero_le _) (vp_nar_int _) (by cases h; exact ⟨rfl, rfl, rfl⟩)
    · refine nd_iconst dX11_readSide_35 ic_m1 ?_
      exact nd_iret dX11_readSide_36 (Nat.zero_le _) (Nat.zero_le _) (vp_nar_int _) (by cases h; exact ⟨rfl, rfl, rfl⟩)
  · refine nd_iconst dX11_readSide_19 ic_m1 ?_
    exact nd_iret dX11_readSide_20 (Nat.zero_le _) (Nat.zero_le _) (vp_nar_int _) (by cases h; exact ⟨rfl, rfl, rfl⟩)
def f_X11_readSum_42 (F : Nat) (rec10 : nd_Mem → nd_Res) (s0 : Int32) (σ : nd_Mem) : nd_Res := (nd_bind (f_X11_reads F σ) fun r1 σ2 => (nd_bind (f_X11_readProduct F σ2) fun r4 σ5 => (if r4 = (-1 : Int32) then (some ((-1 : Int32), σ5)) else (nd_bind (f_X11_emits F s0 (0 : Int32) σ5) fun r7 σ8 => (rec10 σ8)))))
def f_X11_readSum_28 (F : Nat) (rec10 : nd_Mem → nd_Res) (σ : nd_Mem) : nd_Res := (if (σ 60 13) = (43 : Int32) then (f_X11_readSum_42 F rec10 (2 : Int32) σ) else (f_X11_readSum_42 F rec10 (3 : Int32) σ))
def f_X11_readSum_10_b (F : Nat) (rec10 : nd_Mem → nd_Res) (σ : nd_Mem) : nd_Res := (nd_bind (f_X11_isSign F (43 : Int32) σ) fun r1 σ2 => (if r1 = 0 then (nd_bind (f_X11_isSign F (45 : Int32) σ2) fun r4 σ5 => (if r4 = 0 then (some ((0 : Int32), σ5)) else (f_X11_readSum_28 F rec10 σ5))) else (f_X11_readSum_28 F rec10 σ2)))
def f_X11_readSum_10 (F : Nat) : Nat → nd_Mem → nd_Res
  | 0, _ => none
  | m9 + 1, σ => f_X11_readSum_10_b F (f_X11_readSum_10 F m9) σ
def f_X11_readSum (F : Nat) (σ : nd_Mem) : nd_Res := (nd_bind (f_X11_readProduct F σ) fun r1 σ2 => (if r1 = (-1 : Int32) then (some ((-1 : Int32), σ2)) else (f_X11_readSum_10 F F σ2)))
set_option maxRecDepth 100000 in
set_option maxHeartbeats 4000000 in
theorem b_X11_readSum_42 (F : Nat) (rec10 : nd_Mem → nd_Res) (t : List nd_S) (hL : (nd_SH ++ t).length < nd_ro) {z : Int32 × nd_Mem} (hrec10 : ∀ (σ : nd_Mem), rec10 σ = some z → nd_V M_X11_readSum (nd_rm 5) (nd_Pi (nd_SH ++ t) z) 0 0 10 [(0, .ref 60)] [] (nd_SH ++ t) σ) (s0 : Int32) (σ : nd_Mem) (h : f_X11_readSum_42 F rec10 s0 σ = some z) : nd_V M_X11_readSum (nd_rm 5) (nd_Pi (nd_SH ++ t) z) 0 0 42 [(0, .ref 60)] [.int s0] (nd_SH ++ t) σ := by
  unfold f_X11_readSum_42 at h
  refine nd_istore_n (ls' := [(1, .int s0), (0, .ref 60)]) dX11_readSum_42 (by decide) rfl ?_
  refine nd_aload_n dX11_readSum_43 1 rfl ?_
  obtain ⟨r1, σ2, hc3, h⟩ := nd_bind_e h
  refine nd_cvv [] [] dX11_readSum_44 cl_X11_210 (sh_60 t) ⟨Nat.le_of_ble_eq_true rfl, Nat.le_of_ble_eq_true rfl⟩ rfl (Nat.le_of_ble_eq_true rfl) hL (t_X11_reads F t hL _ hc3) ?_
  refine nd_aload_n dX11_readSum_47 1 rfl ?_
  obtain ⟨r4, σ5, hc6, h⟩ := nd_bind_e h
  refine nd_cvi [] [] dX11_readSum_48 cl_X11_220 (sh_60 t) ⟨Nat.le_of_ble_eq_true rfl, Nat.le_of_ble_eq_true rfl⟩ rfl (Nat.le_of_ble_eq_true rfl) hL (t_X11_readProduct F t hL _ hc6) ?_
  refine nd_iconst dX11_readSum_51 ic_m1 ?_
  refine nd_icmp_neN dX11_readSum_52 57 (by decide) h (fun h => ?_) (fun h => ?_)
  · refine nd_aload_n dX11_readSum_57 1 rfl ?_
    refine nd_iload_n dX11_readSum_58 0 rfl ?_
    refine nd_iconst dX11_readSum_59 ic_0 ?_
    obtain ⟨r7, σ8, hc9, h⟩ := nd_bind_e h
    refine nd_cvv [.int s0, .int (0 : Int32)] [] dX11_readSum_60 cl_X11_206 (sh_60 t) ⟨Nat.le_of_ble_eq_true rfl, Nat.le_of_ble_eq_true rfl⟩ rfl (Nat.le_of_ble_eq_true rfl) hL (t_X11_emits F t hL _ _ _ hc9) ?_
    refine nd_goto dX11_readSum_63 10 (by decide) ?_
    refine nd_sub [1] rfl ?_
    exact hrec10 _ h
  · refine nd_iconst dX11_readSum_55 ic_m1 ?_
    exact nd_iret dX11_readSum_56 (Nat.zero_le _) (Nat.zero_le _) (vp_nar_int _) (by cases h; exact ⟨rfl, rfl, rfl⟩)
set_option maxRecDepth 100000 in
set_option maxHeartbeats 4000000 in
theorem b_X11_readSum_28 (F : Nat) (rec10 : nd_Mem → nd_Res) (t : List nd_S) (hL : (nd_SH ++ t).length < nd_ro) {z : Int32 × nd_Mem} (hrec10 : ∀ (σ : nd_Mem), rec10 σ = some z → nd_V M_X11_readSum (nd_rm 5) (nd_Pi (nd_SH ++ t) z) 0 0 10 [(0, .ref 60)] [] (nd_SH ++ t) σ) (σ : nd_Mem) (h : f_X11_readSum_28 F rec10 σ = some z) : nd_V M_X11_readSum (nd_rm 5) (nd_Pi (nd_SH ++ t) z) 0 0 28 [(0, .ref 60)] [] (nd_SH ++ t) σ := by
  unfold f_X11_readSum_28 at h
  refine nd_aload_n dX11_readSum_28 0 rfl ?_
  refine nd_get dX11_readSum_29 gf_X11_175 (sh_60 t) rfl ?_
  refine nd_bipush dX11_readSum_32 ib_43 ?_
  refine nd_icmp_neN dX11_readSum_34 41 (by decide) h (fun h => ?_) (fun h => ?_)
  · refine nd_iconst dX11_readSum_41 ic_3 ?_
    exact b_X11_readSum_42 F _ t hL hrec10 _ _ h
  · refine nd_iconst dX11_readSum_37 ic_2 ?_
    refine nd_goto dX11_readSum_38 42 (by decide) ?_
    exact b_X11_readSum_42 F _ t hL hrec10 _ _ h
set_option maxRecDepth 100000 in
set_option maxHeartbeats 4000000 in
theorem b_X11_readSum_10 (F : Nat) (t : List nd_S) (hL : (nd_SH ++ t).length < nd_ro) {z : Int32 × nd_Mem} (m9 : Nat) : ∀ (σ : nd_Mem), f_X11_readSum_10 F m9 σ = some z → nd_V M_X11_readSum (nd_rm 5) (nd_Pi (nd_SH ++ t) z) 0 0 10 [(0, .ref 60)] [] (nd_SH ++ t) σ := by
  induction m9 with
  | zero =>
    intro σ h
    have h : none = some z := h
    cases h
  | succ m9 hrec10 =>
    intro σ h
    have h : f_X11_readSum_10_b F (f_X11_readSum_10 F m9) σ = some z := h
    unfold f_X11_readSum_10_b at h
    refine nd_aload_n dX11_readSum_10 0 rfl ?_
    refine nd_bipush dX11_readSum_11 ib_43 ?_
    obtain ⟨r1, σ2, hc3, h⟩ := nd_bind_e h
    refine nd_cvi [.int (43 : Int32)] [] dX11_readSum_13 cl_X11_217 (sh_60 t) ⟨Nat.le_of_ble_eq_true rfl, Nat.le_of_ble_eq_true rfl⟩ rfl (Nat.le_of_ble_eq_true rfl) hL (t_X11_isSign F t hL _ _ hc3) ?_
    refine nd_if_neN dX11_readSum_16 28 (by decide) h (fun h => ?_) (fun h => ?_)
    · exact b_X11_readSum_28 F _ t hL hrec10 _ h
    · refine nd_aload_n dX11_readSum_19 0 rfl ?_
      refine nd_bipush dX11_readSum_20 ib_45 ?_
      obtain ⟨r4, σ5, hc6, h⟩ := nd_bind_e h
      refine nd_cvi [.int (45 : Int32)] [] dX11_readSum_22 cl_X11_217 (sh_60 t) ⟨Nat.le_of_ble_eq_true rfl, Nat.le_of_ble_eq_true rfl⟩ rfl (Nat.le_of_ble_eq_true rfl) hL (t_X11_isSign F t hL _ _ hc6) ?_
      refine nd_if_eqN dX11_readSum_25 66 (by decide) h (fun h => ?_) (fun h => ?_)
      · refine nd_iconst dX11_readSum_66 ic_0 ?_
        exact nd_iret dX11_readSum_67 (Nat.zero_le _) (Nat.zero_le _) (vp_nar_int _) (by cases h; exact ⟨rfl, rfl, rfl⟩)
      · exact b_X11_readSum_28 F _ t hL hrec10 _ h
set_option maxRecDepth 100000 in
set_option maxHeartbeats 4000000 in
theorem t_X11_readSum (F : Nat) (t : List nd_S) (hL : (nd_SH ++ t).length < nd_ro) {z : Int32 × nd_Mem} (σ : nd_Mem) (h : f_X11_readSum F σ = some z) : nd_Fn M_X11_readSum (nd_rm 5) [.ref 60] (nd_SH ++ t) σ (nd_Pi (nd_SH ++ t) z) := by
  refine nd_Fn.ofV (ls := [(0, .ref 60)]) pl_X11_readSum rfl (fun _ => Nat.le_of_ble_eq_true rfl) (fun _ => rfl) ?_
  unfold f_X11_readSum at h
  refine nd_aload_n dX11_readSum_0 0 rfl ?_
  obtain ⟨r1, σ2, hc3, h⟩ := nd_bind_e h
  refine nd_cvi [] [] dX11_readSum_1 cl_X11_220 (sh_60 t) ⟨Nat.le_of_ble_eq_true rfl, Nat.le_of_ble_eq_true rfl⟩ rfl (Nat.le_of_ble_eq_true rfl) hL (t_X11_readProduct F t hL _ hc3) ?_
  refine nd_iconst dX11_readSum_4 ic_m1 ?_
  refine nd_icmp_neN dX11_readSum_5 10 (by decide) h (fun h => ?_) (fun h => ?_)
  · exact b_X11_readSum_10 F t hL F _ h
  · refine nd_iconst dX11_readSum_8 ic_m1 ?_
    exact nd_iret dX11_readSum_9 (Nat.zero_le _) (Nat.zero_le _) (vp_nar_int _) (by cases h; exact ⟨rfl, rfl, rfl⟩)
def f_X11_act_107 (F : Nat) (σ : nd_Mem) : nd_Res := (some ((1 : Int32), σ))
def f_X11_act_94 (F : Nat) (x1 : Int32) (x2 : Int32) (σ : nd_Mem) : nd_Res := (if x1 = (4 : Int32) then (if (6 : Int32) < 0 ∨ 103 ≤ ((6 : Int32)).toNatClampNeg then none else (nd_let (nd_up σ 61 ((6 : Int32)).toNatClampNeg x2) fun σ1 => (f_X11_act_107 F σ1))) else (f_X11_act_107 F σ))
def f_X11_act_79 (F : Nat) (x1 : Int32) (x2 : Int32) (σ : nd_Mem) : nd_Res := (if x1 = (3 : Int32) then (if ((87 : Int32) + x2) < 0 ∨ 103 ≤ (((87 : Int32) + x2)).toNatClampNeg then none else (nd_let (nd_up σ 61 (((87 : Int32) + x2)).toNatClampNeg (0 : Int32)) fun σ1 => (f_X11_act_94 F x1 x2 σ1))) else (f_X11_act_94 F x1 x2 σ))
def f_X11_act_54 (F : Nat) (x1 : Int32) (x2 : Int32) (σ : nd_Mem) : nd_Res := (if x1 = (2 : Int32) then (if ((23 : Int32) + x2) < 0 ∨ 103 ≤ (((23 : Int32) + x2)).toNatClampNeg then none else (if ((23 : Int32) + x2) < 0 ∨ 103 ≤ (((23 : Int32) + x2)).toNatClampNeg then none else (nd_let (nd_up σ 61 (((23 : Int32) + x2)).toNatClampNeg ((σ 61 (((23 : Int32) + x2)).toNatClampNeg) + (1 : Int32))) fun σ1 => (f_X11_act_79 F x1 x2 σ1)))) else (f_X11_act_79 F x1 x2 σ))
def f_X11_act_29 (F : Nat) (x1 : Int32) (x2 : Int32) (σ : nd_Mem) : nd_Res := (if x1 = (1 : Int32) then (if ((7 : Int32) + x2) < 0 ∨ 103 ≤ (((7 : Int32) + x2)).toNatClampNeg then none else (if ((7 : Int32) + x2) < 0 ∨ 103 ≤ (((7 : Int32) + x2)).toNatClampNeg then none else (nd_let (nd_up σ 61 (((7 : Int32) + x2)).toNatClampNeg ((σ 61 (((7 : Int32) + x2)).toNatClampNeg) + (1 : Int32))) fun σ1 => (f_X11_act_54 F x1 x2 σ1)))) else (f_X11_act_54 F x1 x2 σ))
def f_X11_act (F : Nat) (x1 : Int32) (x2 : Int32) (σ : nd_Mem) : nd_Res := (nd_let (nd_up σ 60 0 (0 : Int32)) fun σ1 => (nd_bind (f_X11_canAct F x1 x2 σ1) fun r2 σ3 => (if r2 = 0 then (some ((0 : Int32), σ3)) else (nd_bind (f_X11_keepsAhead F σ3) fun r5 σ6 => (if x1 = 0 then (nd_bind (f_X11_girlGoes F x2 σ6) fun r8 σ9 => (f_X11_act_29 F x1 x2 σ9)) else (f_X11_act_29 F x1 x2 σ6))))))
set_option maxRecDepth 100000 in
set_option maxHeartbeats 4000000 in
theorem b_X11_act_107 (F : Nat) (t : List nd_S) (hL : (nd_SH ++ t).length < nd_ro) {z : Int32 × nd_Mem} (σ : nd_Mem) (h : f_X11_act_107 F σ = some z) : nd_V M_X11_act (nd_rm 6) (nd_Pi (nd_SH ++ t) z) 0 0 107 [(0, .ref 60)] [] (nd_SH ++ t) σ := by
  unfold f_X11_act_107 at h
  refine nd_iconst dX11_act_107 ic_1 ?_
  exact nd_iret dX11_act_108 (Nat.zero_le _) (Nat.zero_le _) rfl (by cases h; exact ⟨rfl, rfl, rfl⟩)
set_option maxRecDepth 100000 in
set_option maxHeartbeats 4000000 in
theorem b_X11_act_94 (F : Nat) (t : List nd_S) (hL : (nd_SH ++ t).length < nd_ro) {z : Int32 × nd_Mem} (x1 : Int32) (x2 : Int32) (σ : nd_Mem) (h : f_X11_act_94 F x1 x2 σ = some z) : nd_V M_X11_act (nd_rm 6) (nd_Pi (nd_SH ++ t) z) 0 0 94 [(0, .ref 60), (1, .int x1), (2, .int x2)] [] (nd_SH ++ t) σ := by
  unfold f_X11_act_94 at h
  refine nd_iload_n dX11_act_94 1 rfl ?_
  refine nd_iconst dX11_act_95 ic_4 ?_
  refine nd_icmp_neN dX11_act_96 107 (by decide) h (fun h => ?_) (fun h => ?_)
  · refine nd_sub [0] rfl ?_
    exact b_X11_act_107 F t hL _ h
  · refine nd_aload_n dX11_act_99 0 rfl ?_
    refine nd_get dX11_act_100 gf_X11_7 (sh_60 t) rfl ?_
    refine nd_bipush dX11_act_103 ib_6 ?_
    refine nd_iload_n dX11_act_105 2 rfl ?_
    refine nd_iastoreN dX11_act_106 (sh_61 t) h (fun σ1 h => ?_)
    refine nd_sub [0] rfl ?_
    exact b_X11_act_107 F t hL _ h
set_option maxRecDepth 100000 in
set_option maxHeartbeats 4000000 in
theorem b_X11_act_79 (F : Nat) (t : List nd_S) (hL : (nd_SH ++ t).length < nd_ro) {z : Int32 × nd_Mem} (x1 : Int32) (x2 : Int32) (σ : nd_Mem) (h : f_X11_act_79 F x1 x2 σ = some z) : nd_V M_X11_act (nd_rm 6) (nd_Pi (nd_SH ++ t) z) 0 0 79 [(0, .ref 60), (1, .int x1), (2, .int x2)] [] (nd_SH ++ t) σ := by
  unfold f_X11_act_79 at h
  refine nd_iload_n dX11_act_79 1 rfl ?_
  refine nd_iconst dX11_act_80 ic_3 ?_
  refine nd_icmp_neN dX11_act_81 94 (by decide) h (fun h => ?_) (fun h => ?_)
  · exact b_X11_act_94 F t hL _ _ _ h
  · refine nd_aload_n dX11_act_84 0 rfl ?_
    refine nd_get dX11_act_85 gf_X11_7 (sh_60 t) rfl ?_
    refine nd_bipush dX11_act_88 ib_87 ?_
    refine nd_iload_n dX11_act_90 2 rfl ?_
    refine nd_iadd dX11_act_91 ?_
    refine nd_iconst dX11_act_92 ic_0 ?_
    refine nd_iastoreN dX11_act_93 (sh_61 t) h (fun σ1 h => ?_)
    exact b_X11_act_94 F t hL _ _ _ h
set_option maxRecDepth 100000 in
set_option maxHeartbeats 4000000 in
theorem b_X11_act_54 (F : Nat) (t : List nd_S) (hL : (nd_SH ++ t).length < nd_ro) {z : Int32 × nd_Mem} (x1 : Int32) (x2 : Int32) (σ : nd_Mem) (h : f_X11_act_54 F x1 x2 σ = some z) : nd_V M_X11_act (nd_rm 6) (nd_Pi (nd_SH ++ t) z) 0 0 54 [(0, .ref 60), (1, .int x1), (2, .int x2)] [] (nd_SH ++ t) σ := by
  unfold f_X11_act_54 at h
  refine nd_iload_n dX11_act_54 1 rfl ?_
  refine nd_iconst dX11_act_55 ic_2 ?_
  refine nd_icmp_neN dX11_act_56 79 (by decide) h (fun h => ?_) (fun h => ?_)
  · exact b_X11_act_79 F t hL _ _ _ h
  · refine nd_aload_n dX11_act_59 0 rfl ?_
    refine nd_get dX11_act_60 gf_X11_7 (sh_60 t) rfl ?_
    refine nd_bipush dX11_act_63 ib_23 ?_
    refine nd_iload_n dX11_act_65 2 rfl ?_
    refine nd_iadd dX11_act_66 ?_
    refine nd_aload_n dX11_act_67 0 rfl ?_
    refine nd_get dX11_act_68 gf_X11_7 (sh_60 t) rfl ?_
    refine nd_bipush dX11_act_71 ib_23 ?_
    refine nd_iload_n dX11_act_73 2 rfl ?_
    refine nd_iadd dX11_act_74 ?_
    refine nd_ialoadN dX11_act_75 (sh_61 t) h (fun h => ?_)
    refine nd_iconst dX11_act_76 ic_1 ?_
    refine nd_iadd dX11_act_77 ?_
    refine nd_iastoreN dX11_act_78 (sh_61 t) h (fun σ1 h => ?_)
    exact b_X11_act_79 F t hL _ _ _ h
set_option maxRecDepth 100000 in
set_option maxHeartbeats 4000000 in
theorem b_X11_act_29 (F : Nat) (t : List nd_S) (hL : (nd_SH ++ t).length < nd_ro) {z : Int32 × nd_Mem} (x1 : Int32) (x2 : Int32) (σ : nd_Mem) (h : f_X11_act_29 F x1 x2 σ = some z) : nd_V M_X11_act (nd_rm 6) (nd_Pi (nd_SH ++ t) z) 0 0 29 [(0, .ref 60), (1, .int x1), (2, .int x2)] [] (nd_SH ++ t) σ := by
  unfold f_X11_act_29 at h
  refine nd_iload_n dX11_act_29 1 rfl ?_
  refine nd_iconst dX11_act_30 ic_1 ?_
  refine nd_icmp_neN dX11_act_31 54 (by decide) h (fun h => ?_) (fun h => ?_)
  · exact b_X11_act_54 F t hL _ _ _ h
  · refine nd_aload_n dX11_act_34 0 rfl ?_
    refine nd_get dX11_act_35 gf_X11_7 (sh_60 t) rfl ?_
    refine nd_bipush dX11_act_38 ib_7 ?_
    refine nd_iload_n dX11_act_40 2 rfl ?_
    refine nd_iadd dX11_act_41 ?_
    refine nd_aload_n dX11_act_42 0 rfl ?_
    refine nd_get dX11_act_43 gf_X11_7 (sh_60 t) rfl ?_
    refine nd_bipush dX11_act_46 ib_7 ?_
    refine nd_iload_n dX11_act_48 2 rfl ?_
    refine nd_iadd dX11_act_49 ?_
    refine nd_ialoadN dX11_act_50 (sh_61 t) h (fun h => ?_)
    refine nd_iconst dX11_act_51 ic_1 ?_
    refine nd_iadd dX11_act_52 ?_
    refine nd_iastoreN dX11_act_53 (sh_61 t) h (fun σ1 h => ?_)
    exact b_X11_act_54 F t hL _ _ _ h
set_option maxRecDepth 100000 in
set_option maxHeartbeats 4000000 in
theorem t_X11_act (F : Nat) (t : List nd_S) (hL : (nd_SH ++ t).length < nd_ro) {z : Int32 × nd_Mem} (x1 : Int32) (x2 : Int32) (σ : nd_Mem) (h : f_X11_act F x1 x2 σ = some z) : nd_Fn M_X11_act (nd_rm 6) [.ref 60, .int x1, .int x2] (nd_SH ++ t) σ (nd_Pi (nd_SH ++ t) z) := by
  refine nd_Fn.ofV (ls := [(0, .ref 60), (1, .int x1), (2, .int x2)]) pl_X11_act rfl (fun _ => Nat.le_of_ble_eq_true rfl) (fun _ => rfl) ?_
  unfold f_X11_act at h
  refine nd_aload_n dX11_act_0 0 rfl ?_
  refine nd_iconst dX11_act_1 ic_0 ?_
  refine nd_putiN dX11_act_2 pf_X11_132 (sh_60 t) rfl h (fun σ1 h => ?_)
  refine nd_aload_n dX11_act_5 0 rfl ?_
  refine nd_iload_n dX11_act_6 1 rfl ?_
  refine nd_iload_n dX11_act_7 2 rfl ?_
  obtain ⟨r2, σ3, hc4, h⟩ := nd_bind_e h
  refine nd_cvi [.int x1, .int x2] [] dX11_act_8 cl_X11_348 (sh_60 t) ⟨Nat.le_of_ble_eq_true rfl, Nat.le_of_ble_eq_true rfl⟩ rfl (Nat.le_of_ble_eq_true rfl) hL (t_X11_canAct F t hL _ _ _ hc4) ?_
  refine nd_if_neN dX11_act_11 16 (by decide) h (fun h => ?_) (fun h => ?_)
  · refine nd_aload_n dX11_act_16 0 rfl ?_
    obtain ⟨r5, σ6, hc7, h⟩ := nd_bind_e h
    refine nd_cvv [] [] dX11_act_17 cl_X11_351 (sh_60 t) ⟨Nat.le_of_ble_eq_true rfl, Nat.le_of_ble_eq_true rfl⟩ rfl (Nat.le_of_ble_eq_true rfl) hL (t_X11_keepsAhead F t hL _ hc7) ?_
    refine nd_iload_n dX11_act_20 1 rfl ?_
    refine nd_if_neN dX11_act_21 29 (by decide) h (fun h => ?_) (fun h => ?_)
    · exact b_X11_act_29 F t hL _ _ _ h
    · refine nd_aload_n dX11_act_24 0 rfl ?_
      refine nd_iload_n dX11_act_25 2 rfl ?_
      obtain ⟨r8, σ9, hc10, h⟩ := nd_bind_e h
      refine nd_cvv [.int x2] [] dX11_act_26 cl_X11_354 (sh_60 t) ⟨Nat.le_of_ble_eq_true rfl, Nat.le_of_ble_eq_true rfl⟩ rfl (Nat.le_of_ble_eq_true rfl) hL (t_X11_girlGoes F t hL _ _ hc10) ?_
      exact b_X11_act_29 F t hL _ _ _ h
  · refine nd_iconst dX11_act_14 ic_0 ?_
    exact nd_iret dX11_act_15 (Nat.zero_le _) (Nat.zero_le _) rfl (by cases h; exact ⟨rfl, rfl, rfl⟩)
def f_X11_girlsGo_116 (F : Nat) (rec23 : Int32 → nd_Mem → nd_Res) (x1 : Int32) (σ : nd_Mem) : nd_Res := (rec23 (x1 + (1 : Int32)) σ)
def f_X11_girlsGo_23_b (F : Nat) (rec23 : Int32 → nd_Mem → nd_Res) (x1 : Int32) (σ : nd_Mem) : nd_Res := (if (σ 60 6) ≤ x1 then (some (0, σ)) else (if ((7 : Int32) + x1) < 0 ∨ 103 ≤ (((7 : Int32) + x1)).toNatClampNeg then none else (if (σ 61 (((7 : Int32) + x1)).toNatClampNeg) = 0 then (f_X11_girlsGo_116 F rec23 x1 σ) else (nd_bind (f_X11_nextOf F x1 σ) fun r1 σ2 => (nd_bind (f_X11_canGo F x1 σ2) fun r4 σ5 => (if r4 = 0 then (if (4 : Int32) < 0 ∨ 103 ≤ ((4 : Int32)).toNatClampNeg then none else (if (4 : Int32) < 0 ∨ 103 ≤ ((4 : Int32)).toNatClampNeg then none else (nd_let (nd_up σ5 61 ((4 : Int32)).toNatClampNeg ((σ5 61 ((4 : Int32)).toNatClampNeg) + (1 : Int32))) fun σ17 => (nd_bind (f_X11_notes F (2 : Int32) x1 r1 σ17) fun r18 σ19 => (f_X11_girlsGo_116 F rec23 x1 σ19))))) else (nd_bind (f_X11_goesOf F x1 σ5) fun r7 σ8 => (nd_bind (f_X11_happens F r7 σ8) fun r10 σ11 => (if r10 = 0 then (f_X11_girlsGo_116 F rec23 x1 σ11) else (nd_bind (f_X11_girlGoes F x1 σ11) fun r13 σ14 => (if r1 = (-1 : Int32) then (f_X11_girlsGo_116 F rec23 x1 σ14) else (if r1 < 0 ∨ 16 ≤ (r1).toNatClampNeg then none else (nd_let (nd_up σ14 80 (r1).toNatClampNeg (1 : Int32)) fun σ16 => (f_X11_girlsGo_116 F rec23 x1 σ16))))))))))))))
def f_X11_girlsGo_23 (F : Nat) : Nat → Int32 → nd_Mem → nd_Res
  | 0, _, _ => none
  | m9 + 1, x1, σ => f_X11_girlsGo_23_b F (f_X11_girlsGo_23 F m9) x1 σ
def f_X11_girlsGo_2_b (F : Nat) (rec2 : Int32 → nd_Mem → nd_Res) (x1 : Int32) (σ : nd_Mem) : nd_Res := (if (16 : Int32) ≤ x1 then (f_X11_girlsGo_23 F F (0 : Int32) σ) else (if x1 < 0 ∨ 16 ≤ (x1).toNatClampNeg then none else (nd_let (nd_up σ 80 (x1).toNatClampNeg (0 : Int32)) fun σ1 => (rec2 (x1 + (1 : Int32)) σ1))))
def f_X11_girlsGo_2 (F : Nat) : Nat → Int32 → nd_Mem → nd_Res
  | 0, _, _ => none
  | m9 + 1, x1, σ => f_X11_girlsGo_2_b F (f_X11_girlsGo_2 F m9) x1 σ
def f_X11_girlsGo (F : Nat) (σ : nd_Mem) : nd_Res := (f_X11_girlsGo_2 F F (0 : Int32) σ)
set_option maxRecDepth 100000 in
set_option maxHeartbeats 4000000 in
theorem b_X11_girlsGo_116 (F : Nat) (rec23 : Int32 → nd_Mem → nd_Res) (t : List nd_S) (hL : (nd_SH ++ t).length < nd_ro) {z : Int32 × nd_Mem} (hrec23 : ∀ (x1 : Int32) (σ : nd_Mem), rec23 x1 σ = some z → nd_V M_X11_girlsGo (nd_rm 6) (nd_Pv (nd_SH ++ t) z) 0 0 23 [(0, .ref 60), (1, .int x1)] [] (nd_SH ++ t) σ) (x1 : Int32) (σ : nd_Mem) (h : f_X11_girlsGo_116 F rec23 x1 σ = some z) : nd_V M_X11_girlsGo (nd_rm 6) (nd_Pv (nd_SH ++ t) z) 0 0 116 [(0, .ref 60), (1, .int x1)] [] (nd_SH ++ t) σ := by
  unfold f_X11_girlsGo_116 at h
  refine nd_iinc (v := (x1 + (1 : Int32))) (ls' := [(1, .int (x1 + (1 : Int32))), (0, .ref 60)]) dX11_girlsGo_116 1 rfl (congrArg (HAdd.hAdd _) ic_1) (by decide) rfl ?_
  refine nd_goto dX11_girlsGo_119 23 (by decide) ?_
  refine nd_sub [1, 0] rfl ?_
  exact hrec23 _ _ h
set_option maxRecDepth 100000 in
set_option maxHeartbeats 4000000 in
theorem b_X11_girlsGo_23 (F : Nat) (t : List nd_S) (hL : (nd_SH ++ t).length < nd_ro) {z : Int32 × nd_Mem} (m9 : Nat) : ∀ (x1 : Int32) (σ : nd_Mem), f_X11_girlsGo_23 F m9 x1 σ = some z → nd_V M_X11_girlsGo (nd_rm 6) (nd_Pv (nd_SH ++ t) z) 0 0 23 [(0, .ref 60), (1, .int x1)] [] (nd_SH ++ t) σ := by
  induction m9 with
  | zero =>
    intro x1 σ h
    have h : none = some z := h
    cases h
  | succ m9 hrec23 =>
    intro x1 σ h
    have h : f_X11_girlsGo_23_b F (f_X11_girlsGo_23 F m9) x1 σ = some z := h
    unfold f_X11_girlsGo_23_b at h
    refine nd_iload_n dX11_girlsGo_23 1 rfl ?_
    refine nd_aload_n dX11_girlsGo_24 0 rfl ?_
    refine nd_get dX11_girlsGo_25 gf_X11_144 (sh_60 t) rfl ?_
    refine nd_icmp_geN dX11_girlsGo_28 122 (by decide) h (fun h => ?_) (fun h => ?_)
    · exact nd_vret dX11_girlsGo_122 (Nat.zero_le _) (Nat.zero_le _) trivial (by cases h; exact ⟨rfl, rfl, rfl⟩)
    · refine nd_aload_n dX11_girlsGo_31 0 rfl ?_
      refine nd_get dX11_girlsGo_32 gf_X11_7 (sh_60 t) rfl ?_
      refine nd_bipush dX11_girlsGo_35 ib_7 ?_
      refine nd_iload_n dX11_girlsGo_37 1 rfl ?_
      refine nd_iadd dX11_girlsGo_38 ?_
      refine nd_ialoadN dX11_girlsGo_39 (sh_61 t) h (fun h => ?_)
      refine nd_if_neN dX11_girlsGo_40 46 (by decide) h (fun h => ?_) (fun h => ?_)
      · refine nd_aload_n dX11_girlsGo_46 0 rfl ?_
        refine nd_iload_n dX11_girlsGo_47 1 rfl ?_
        obtain ⟨r1, σ2, hc3, h⟩ := nd_bind_e h
        refine nd_cvi [.int x1] [] dX11_girlsGo_48 cl_X11_325 (sh_60 t) ⟨Nat.le_of_ble_eq_true rfl, Nat.le_of_ble_eq_true rfl⟩ rfl (Nat.le_of_ble_eq_true rfl) hL (t_X11_nextOf F t hL _ _ hc3) ?_
        refine nd_istore_n (ls' := [(2, .int r1), (0, .ref 60), (1, .int x1)]) dX11_girlsGo_51 (by decide) rfl ?_
        refine nd_aload_n dX11_girlsGo_52 1 rfl ?_
        refine nd_iload_n dX11_girlsGo_53 2 rfl ?_
        obtain ⟨r4, σ5, hc6, h⟩ := nd_bind_e h
        refine nd_cvi [.int x1] [] dX11_girlsGo_54 cl_X11_345 (sh_60 t) ⟨Nat.le_of_ble_eq_true rfl, Nat.le_of_ble_eq_true rfl⟩ rfl (Nat.le_of_ble_eq_true rfl) hL (t_X11_canGo F t hL _ _ hc6) ?_
        refine nd_if_neN dX11_girlsGo_57 84 (by decide) h (fun h => ?_) (fun h => ?_)
        · refine nd_aload_n dX11_girlsGo_84 1 rfl ?_
          refine nd_aload_n dX11_girlsGo_85 1 rfl ?_
          refine nd_iload_n dX11_girlsGo_86 2 rfl ?_
          obtain ⟨r7, σ8, hc9, h⟩ := nd_bind_e h
          refine nd_cvi [.int x1] [.ref 60] dX11_girlsGo_87 cl_X11_360 (sh_60 t) ⟨Nat.le_of_ble_eq_true rfl, Nat.le_of_ble_eq_true rfl⟩ rfl (Nat.le_of_ble_eq_true rfl) hL (t_X11_goesOf F t hL _ _ hc9) ?_
          obtain ⟨r10, σ11, hc12, h⟩ := nd_bind_e h
          refine nd_cvi [.int r7] [] dX11_girlsGo_90 cl_X11_363 (sh_60 t) ⟨Nat.le_of_ble_eq_true rfl, Nat.le_of_ble_eq_true rfl⟩ rfl (Nat.le_of_ble_eq_true rfl) hL (t_X11_happens F t hL _ _ hc12) ?_
          refine nd_if_neN dX11_girlsGo_93 99 (by decide) h (fun h => ?_) (fun h => ?_)
          · refine nd_aload_n dX11_girlsGo_99 1 rfl ?_
            refine nd_iload_n dX11_girlsGo_100 2 rfl ?_
            obtain ⟨r13, σ14, hc15, h⟩ := nd_bind_e h
            refine nd_cvv [.int x1] [] dX11_girlsGo_101 cl_X11_354 (sh_60 t) ⟨Nat.le_of_ble_eq_true rfl, Nat.le_of_ble_eq_true rfl⟩ rfl (Nat.le_of_ble_eq_true rfl) hL (t_X11_girlGoes F t hL _ _ hc15) ?_
            refine nd_iload_n dX11_girlsGo_104 0 rfl ?_
            refine nd_iconst dX11_girlsGo_105 ic_m1 ?_
            refine nd_icmp_eqN dX11_girlsGo_106 116 (by decide) h (fun h => ?_) (fun h => ?_)
            · refine nd_sub [1, 2] rfl ?_
              exact b_X11_girlsGo_116 F _ t hL hrec23 _ _ h
            · refine nd_aload_n dX11_girlsGo_109 1 rfl ?_
              refine nd_get dX11_girlsGo_110 gf_X11_71 (sh_60 t) rfl ?_
              refine nd_iload_n dX11_girlsGo_113 0 rfl ?_
              refine nd_iconst dX11_girlsGo_114 ic_1 ?_
              refine nd_iastoreN dX11_girlsGo_115 (sh_80 t) h (fun σ16 h => ?_)
              refine nd_sub [1, 2] rfl ?_
              exact b_X11_girlsGo_116 F _ t hL hrec23 _ _ h
          · refine nd_goto dX11_girlsGo_96 116 (by decide) ?_
            refine nd_sub [1, 2] rfl ?_
            exact b_X11_girlsGo_116 F _ t hL hrec23 _ _ h
        · refine nd_aload_n dX11_girlsGo_60 1 rfl ?_
          refine nd_get dX11_girlsGo_61 gf_X11_7 (sh_60 t) rfl ?_
          refine nd_iconst dX11_girlsGo_64 ic_4 ?_
          refine nd_aload_n dX11_girlsGo_65 1 rfl ?_
          refine nd_get dX11_girlsGo_66 gf_X11_7 (sh_60 t) rfl ?_
          refine nd_iconst dX11_girlsGo_69 ic_4 ?_
          refine nd_ialoadN dX11_girlsGo_70 (sh_61 t) h (fun h => ?_)
          refine nd_iconst dX11_girlsGo_71 ic_1 ?_
          refine nd_iadd dX11_girlsGo_72 ?_
          refine nd_iastoreN dX11_girlsGo_73 (sh_61 t) h (fun σ17 h => ?_)
          refine nd_aload_n dX11_girlsGo_74 1 rfl ?_
          refine nd_iconst dX11_girlsGo_75 ic_2 ?_
          refine nd_iload_n dX11_girlsGo_76 2 rfl ?_
          refine nd_iload_n dX11_girlsGo_77 0 rfl ?_
          obtain ⟨r18, σ19, hc20, h⟩ := nd_bind_e h
          refine nd_cvv [.int (2 : Int32), .int x1, .int r1] [] dX11_girlsGo_78 cl_X11_338 (sh_60 t) ⟨Nat.le_of_ble_eq_true rfl, Nat.le_of_ble_eq_true rfl⟩ rfl (Nat.le_of_ble_eq_true rfl) hL (t_X11_notes F t hL _ _ _ _ hc20) ?_
          refine nd_goto dX11_girlsGo_81 116 (by decide) ?_
          refine nd_sub [1, 2] rfl ?_
          exact b_X11_girlsGo_116 F _ t hL hrec23 _ _ h
      · refine nd_goto dX11_girlsGo_43 116 (by decide) ?_
        exact b_X11_girlsGo_116 F _ t hL hrec23 _ _ h
set_option maxRecDepth 100000 in
set_option maxHeartbeats 4000000 in
theorem b_X11_girlsGo_2 (F : Nat) (t : List nd_S) (hL : (nd_SH ++ t).length < nd_ro) {z : Int32 × nd_Mem} (m9 : Nat) : ∀ (x1 : Int32) (σ : nd_Mem), f_X11_girlsGo_2 F m9 x1 σ = some z → nd_V M_X11_girlsGo (nd_rm 6) (nd_Pv (nd_SH ++ t) z) 0 0 2 [(0, .ref 60), (1, .int x1)] [] (nd_SH ++ t) σ := by
  induction m9 with
  | zero =>
    intro x1 σ h
    have h : none = some z := h
    cases h
  | succ m9 hrec2 =>
    intro x1 σ h
    have h : f_X11_girlsGo_2_b F (f_X11_girlsGo_2 F m9) x1 σ = some z := h
    unfold f_X11_girlsGo_2_b at h
    refine nd_iload_n dX11_girlsGo_2 1 rfl ?_
    refine nd_bipush dX11_girlsGo_3 ib_16 ?_
    refine nd_icmp_geN dX11_girlsGo_5 21 (by decide) h (fun h => ?_) (fun h => ?_)
    · refine nd_iconst dX11_girlsGo_21 ic_0 ?_
      refine nd_istore_n (ls' := [(1, .int (0 : Int32)), (0, .ref 60)]) dX11_girlsGo_22 (by decide) rfl ?_
      refine nd_sub [1, 0] rfl ?_
      exact b_X11_girlsGo_23 F t hL F _ _ h
    · refine nd_aload_n dX11_girlsGo_8 0 rfl ?_
      refine nd_get dX11_girlsGo_9 gf_X11_71 (sh_60 t) rfl ?_
      refine nd_iload_n dX11_girlsGo_12 1 rfl ?_
      refine nd_iconst dX11_girlsGo_13 ic_0 ?_
      refine nd_iastoreN dX11_girlsGo_14 (sh_80 t) h (fun σ1 h => ?_)
      refine nd_iinc (v := (x1 + (1 : Int32))) (ls' := [(1, .int (x1 + (1 : Int32))), (0, .ref 60)]) dX11_girlsGo_15 1 rfl (congrArg (HAdd.hAdd _) ic_1) (by decide) rfl ?_
      refine nd_goto dX11_girlsGo_18 2 (by decide) ?_
      refine nd_sub [1, 0] rfl ?_
      exact hrec2 _ _ h
set_option maxRecDepth 100000 in
set_option maxHeartbeats 4000000 in
theorem t_X11_girlsGo (F : Nat) (t : List nd_S) (hL : (nd_SH ++ t).length < nd_ro) {z : Int32 × nd_Mem} (σ : nd_Mem) (h : f_X11_girlsGo F σ = some z) : nd_Fn M_X11_girlsGo (nd_rm 6) [.ref 60] (nd_SH ++ t) σ (nd_Pv (nd_SH ++ t) z) := by
  refine nd_Fn.ofV (ls := [(0, .ref 60)]) pl_X11_girlsGo rfl (fun _ => Nat.le_of_ble_eq_true rfl) (fun _ => rfl) ?_
  unfold f_X11_girlsGo at h
  refine nd_iconst dX11_girlsGo_0 ic_0 ?_
  refine nd_istore_n (ls' := [(1, .int (0 : Int32)), (0, .ref 60)]) dX11_girlsGo_1 (by decide) rfl ?_
  refine nd_sub [1, 0] rfl ?_
  exact b_X11_girlsGo_2 F t hL F _ _ h
def f_X11_readCompared_73 (F : Nat) (s0 : Int32) (σ : nd_Mem) : nd_Res := (nd_bind (f_X11_reads F σ) fun r1 σ2 => (nd_bind (f_X11_readSum F σ2) fun r4 σ5 => (if r4 = (-1 : Int32) then (some ((-1 : Int32), σ5)) else (nd_bind (f_X11_emits F s0 (0 : Int32) σ5) fun r7 σ8 => (some ((0 : Int32), σ8))))))
def f_X11_readCompared_43 (F : Nat) (σ : nd_Mem) : nd_Res := (if (σ 60 13) = (60 : Int32) then (f_X11_readCompared_73 F (6 : Int32) σ) else (if (σ 60 13) = (61 : Int32) then (f_X11_readCompared_73 F (7 : Int32) σ) else (f_X11_readCompared_73 F (8 : Int32) σ)))
def f_X11_readCompared (F : Nat) (σ : nd_Mem) : nd_Res := (nd_bind (f_X11_readSum F σ) fun r1 σ2 => (if r1 = (-1 : Int32) then (some ((-1 : Int32), σ2)) else (nd_bind (f_X11_isSign F (60 : Int32) σ2) fun r4 σ5 => (if r4 = 0 then (nd_bind (f_X11_isSign F (61 : Int32) σ5) fun r7 σ8 => (if r7 = 0 then (nd_bind (f_X11_isSign F (62 : Int32) σ8) fun r10 σ11 => (if r10 = 0 then (nd_bind (f_X11_errs F (1 : Int32) σ11) fun r13 σ14 => (some (r13, σ14))) else (f_X11_readCompared_43 F σ11))) else (f_X11_readCompared_43 F σ8))) else (f_X11_readCompared_43 F σ5)))))
set_option maxRecDepth 100000 in
set_option maxHeartbeats 4000000 in
theorem b_X11_readCompared_73 (F : Nat) (t : List nd_S) (hL : (nd_SH ++ t).length < nd_ro) {z : Int32 × nd_Mem} (s0 : Int32) (σ : nd_Mem) (h : f_X11_readCompared_73 F s0 σ = some z) : nd_V M_X11_readCompared (nd_rm 6) (nd_Pi (nd_SH ++ t) z) 0 0 73 [(0, .ref 60)] [.int s0] (nd_SH ++ t) σ := by
  unfold f_X11_readCompared_73 at h
  refine nd_istore_n (ls' := [(1, .int s0), (0, .ref 60)]) dX11_readCompared_73 (by decide) rfl ?_
  refine nd_aload_n dX11_readCompared_74 1 rfl ?_
  obtain ⟨r1, σ2, hc3, h⟩ := nd_bind_e h
  refine nd_cvv [] [] dX11_readCompared_75 cl_X11_210 (sh_60 t) ⟨Nat.le_of_ble_eq_true rfl, Nat.le_of_ble_eq_true rfl⟩ rfl (Nat.le_of_ble_eq_true rfl) hL (t_X11_reads F t hL _ hc3) ?_
  refine nd_aload_n dX11_readCompared_78 1 rfl ?_
  obtain ⟨r4, σ5, hc6, h⟩ := nd_bind_e h
  refine nd_cvi [] [] dX11_readCompared_79 cl_X11_223 (sh_60 t) ⟨Nat.le_of_ble_eq_true rfl, Nat.le_of_ble_eq_true rfl⟩ rfl (Nat.le_of_ble_eq_true rfl) hL (t_X11_readSum F t hL _ hc6) ?_
  refine nd_iconst dX11_readCompared_82 ic_m1 ?_
  refine nd_icmp_neN dX11_readCompared_83 88 (by decide) h (fun h => ?_) (fun h => ?_)
  · refine nd_aload_n dX11_readCompared_88 1 rfl ?_
    refine nd_iload_n dX11_readCompared_89 0 rfl ?_
    refine nd_iconst dX11_readCompared_90 ic_0 ?_
    obtain ⟨r7, σ8, hc9, h⟩ := nd_bind_e h
    refine nd_cvv [.int s0, .int (0 : Int32)] [] dX11_readCompared_91 cl_X11_206 (sh_60 t) ⟨Nat.le_of_ble_eq_true rfl, Nat.le_of_ble_eq_true rfl⟩ rfl (Nat.le_of_ble_eq_true rfl) hL (t_X11_emits F t hL _ _ _ hc9) ?_
    refine nd_iconst dX11_readCompared_94 ic_0 ?_
    exact nd_iret dX11_readCompared_95 (Nat.zero_le _) (Nat.zero_le _) (vp_nar_int _) (by cases h; exact ⟨rfl, rfl, rfl⟩)
  · refine nd_iconst dX11_readCompared_86 ic_m1 ?_
    exact nd_iret dX11_readCompared_87 (Nat.zero_le _) (Nat.zero_le _) (vp_nar_int _) (by cases h; exact ⟨rfl, rfl, rfl⟩)
set_option maxRecDepth 100000 in
set_option maxHeartbeats 4000000 in
theorem b_X11_readCompared_43 (F : Nat) (t : List nd_S) (hL : (nd_SH ++ t).length < nd_ro) {z : Int32 × nd_Mem} (σ : nd_Mem) (h : f_X11_readCompared_43 F σ = some z) : nd_V M_X11_readCompared (nd_rm 6) (nd_Pi (nd_SH ++ t) z) 0 0 43 [(0, .ref 60)] [] (nd_SH ++ t) σ := by
  unfold f_X11_readCompared_43 at h
  refine nd_aload_n dX11_readCompared_43 0 rfl ?_
  refine nd_get dX11_readCompared_44 gf_X11_175 (sh_60 t) rfl ?_
  refine nd_bipush dX11_readCompared_47 ib_60 ?_
  refine nd_icmp_neN dX11_readCompared_49 57 (by decide) h (fun h => ?_) (fun h => ?_)
  · refine nd_aload_n dX11_readCompared_57 0 rfl ?_
    refine nd_get dX11_readCompared_58 gf_X11_175 (sh_60 t) rfl ?_
    refine nd_bipush dX11_readCompared_61 ib_61 ?_
    refine nd_icmp_neN dX11_readCompared_63 71 (by decide) h (fun h => ?_) (fun h => ?_)
    · refine nd_bipush dX11_readCompared_71 ib_8 ?_
      exact b_X11_readCompared_73 F t hL _ _ h
    · refine nd_bipush dX11_readCompared_66 ib_7 ?_
      refine nd_goto dX11_readCompared_68 73 (by decide) ?_
      exact b_X11_readCompared_73 F t hL _ _ h
  · refine nd_bipush dX11_readCompared_52 ib_6 ?_
    refine nd_goto dX11_readCompared_54 73 (by decide) ?_
    exact b_X11_readCompared_73 F t hL _ _ h
set_option maxRecDepth 100000 in
set_option maxHeartbeats 4000000 in
theorem t_X11_readCompared (F : Nat) (t : List nd_S) (hL : (nd_SH ++ t).length < nd_ro) {z : Int32 × nd_Mem} (σ : nd_Mem) (h : f_X11_readCompared F σ = some z) : nd_Fn M_X11_readCompared (nd_rm 6) [.ref 60] (nd_SH ++ t) σ (nd_Pi (nd_SH ++ t) z) := by
  refine nd_Fn.ofV (ls := [(0, .ref 60)]) pl_X11_readCompared rfl (fun _ => Nat.le_of_ble_eq_true rfl) (fun _ => rfl) ?_
  unfold f_X11_readCompared at h
  refine nd_aload_n dX11_readCompared_0 0 rfl ?_
  obtain ⟨r1, σ2, hc3, h⟩ := nd_bind_e h
  refine nd_cvi [] [] dX11_readCompared_1 cl_X11_223 (sh_60 t) ⟨Nat.le_of_ble_eq_true rfl, Nat.le_of_ble_eq_true rfl⟩ rfl (Nat.le_of_ble_eq_true rfl) hL (t_X11_readSum F t hL _ hc3) ?_
  refine nd_iconst dX11_readCompared_4 ic_m1 ?_
  refine nd_icmp_neN dX11_readCompared_5 10 (by decide) h (fun h => ?_) (fun h => ?_)
  · refine nd_aload_n dX11_readCompared_10 0 rfl ?_
    refine nd_bipush dX11_readCompared_11 ib_60 ?_
    obtain ⟨r4, σ5, hc6, h⟩ := nd_bind_e h
    refine nd_cvi [.int (60 : Int32)] [] dX11_readCompared_13 cl_X11_217 (sh_60 t) ⟨Nat.le_of_ble_eq_true rfl, Nat.le_of_ble_eq_true rfl⟩ rfl (Nat.le_of_ble_eq_true rfl) hL (t_X11_isSign F t hL _ _ hc6) ?_
    refine nd_if_neN dX11_readCompared_16 43 (by decide) h (fun h => ?_) (fun h => ?_)
    · exact b_X11_readCompared_43 F t hL _ h
    · refine nd_aload_n dX11_readCompared_19 0 rfl ?_
      refine nd_bipush dX11_readCompared_20 ib_61 ?_
      obtain ⟨r7, σ8, hc9, h⟩ := nd_bind_e h
      refine nd_cvi [.int (61 : Int32)] [] dX11_readCompared_22 cl_X11_217 (sh_60 t) ⟨Nat.le_of_ble_eq_true rfl, Nat.le_of_ble_eq_true rfl⟩ rfl (Nat.le_of_ble_eq_true rfl) hL (t_X11_isSign F t hL _ _ hc9) ?_
      refine nd_if_neN dX11_readCompared_25 43 (by decide) h (fun h => ?_) (fun h => ?_)
      · exact b_X11_readCompared_43 F t hL _ h
      · refine nd_aload_n dX11_readCompared_28 0 rfl ?_
        refine nd_bipush dX11_readCompared_29 ib_62 ?_
        obtain ⟨r10, σ11, hc12, h⟩ := nd_bind_e h
        refine nd_cvi [.int (62 : Int32)] [] dX11_readCompared_31 cl_X11_217 (sh_60 t) ⟨Nat.le_of_ble_eq_true rfl, Nat.le_of_ble_eq_true rfl⟩ rfl (Nat.le_of_ble_eq_true rfl) hL (t_X11_isSign F t hL _ _ hc12) ?_
        refine nd_if_neN dX11_readCompared_34 43 (by decide) h (fun h => ?_) (fun h => ?_)
        · exact b_X11_readCompared_43 F t hL _ h
        · refine nd_aload_n dX11_readCompared_37 0 rfl ?_
          refine nd_iconst dX11_readCompared_38 ic_1 ?_
          obtain ⟨r13, σ14, hc15, h⟩ := nd_bind_e h
          refine nd_cvi [.int (1 : Int32)] [] dX11_readCompared_39 cl_X11_203 (sh_60 t) ⟨Nat.le_of_ble_eq_true rfl, Nat.le_of_ble_eq_true rfl⟩ rfl (Nat.le_of_ble_eq_true rfl) hL (t_X11_errs F t hL _ _ hc15) ?_
          exact nd_iret dX11_readCompared_42 (Nat.zero_le _) (Nat.zero_le _) (vp_nar_int _) (by cases h; exact ⟨rfl, rfl, rfl⟩)
  · refine nd_iconst dX11_readCompared_8 ic_m1 ?_
    exact nd_iret dX11_readCompared_9 (Nat.zero_le _) (Nat.zero_le _) (vp_nar_int _) (by cases h; exact ⟨rfl, rfl, rfl⟩)
def f_X11_readHouses_72 (F : Nat) (rec36 : Int32 → Int32 → nd_Mem → nd_Res) (x1 : Int32) (x2 : Int32) (s0 : Int32) (σ : nd_Mem) : nd_Res := (if s0 = (-1 : Int32) then (some ((-1 : Int32), σ)) else (rec36 x1 (x2 + (1 : Int32)) σ))
def f_X11_readHouses_36_b (F : Nat) (rec36 : Int32 → Int32 → nd_Mem → nd_Res) (x1 : Int32) (x2 : Int32) (σ : nd_Mem) : nd_Res := (nd_bind (f_X11_isWord F (20 : Int32) σ) fun r1 σ2 => (if r1 = 0 then (if (σ2 60 12) = 0 then (some (x2, σ2)) else (nd_bind (f_X11_errs F (1 : Int32) σ2) fun r4 σ5 => (some (r4, σ5)))) else (if x2 = (16 : Int32) then (nd_bind (f_X11_errs F (3 : Int32) σ2) fun r13 σ14 => (some (r13, σ14))) else (if x1 = 0 then (nd_bind (f_X11_readFeud F σ2) fun r7 σ8 => (f_X11_readHouses_72 F rec36 x1 x2 r7 σ8)) else (nd_bind (f_X11_readSide F σ2) fun r10 σ11 => (f_X11_readHouses_72 F rec36 x1 x2 r10 σ11))))))
def f_X11_readHouses_36 (F : Nat) : Nat → Int32 → Int32 → nd_Mem → nd_Res
  | 0, _, _, _ => none
  | m9 + 1, x1, x2, σ => f_X11_readHouses_36_b F (f_X11_readHouses_36 F m9) x1 x2 σ
def f_X11_readHouses_2_b (F : Nat) (rec2 : Int32 → Int32 → nd_Mem → nd_Res) (x1 : Int32) (x2 : Int32) (σ : nd_Mem) : nd_Res := (if (16 : Int32) ≤ x2 then (f_X11_readHouses_36 F F x1 (0 : Int32) σ) else (if ((16 : Int32) + x2) < 0 ∨ 32 ≤ (((16 : Int32) + x2)).toNatClampNeg then none else (nd_let (nd_up σ 76 (((16 : Int32) + x2)).toNatClampNeg (0 : Int32)) fun σ1 => (if ((16 : Int32) + x2) < 0 ∨ 32 ≤ (((16 : Int32) + x2)).toNatClampNeg then none else (nd_let (nd_up σ1 77 (((16 : Int32) + x2)).toNatClampNeg (0 : Int32)) fun σ2 => (rec2 x1 (x2 + (1 : Int32)) σ2))))))
def f_X11_readHouses_2 (F : Nat) : Nat → Int32 → Int32 → nd_Mem → nd_Res
  | 0, _, _, _ => none
  | m9 + 1, x1, x2, σ => f_X11_readHouses_2_b F (f_X11_readHouses_2 F m9) x1 x2 σ
def f_X11_readHouses (F : Nat) (x1 : Int32) (σ : nd_Mem) : nd_Res := (f_X11_readHouses_2 F F x1 (0 : Int32) σ)
set_option maxRecDepth 100000 in
set_option maxHeartbeats 4000000 in
theorem b_X11_readHouses_72 (F : Nat) (rec36 : Int32 → Int32 → nd_Mem → nd_Res) (t : List nd_S) (hL : (nd_SH ++ t).length < nd_ro) {z : Int32 × nd_Mem} (hrec36 : ∀ (x1 : Int32) (x2 : Int32) (σ : nd_Mem), rec36 x1 x2 σ = some z → nd_V M_X11_readHouses (nd_rm 6) (nd_Pi (nd_SH ++ t) z) 0 0 36 [(0, .ref 60), (1, .int x1), (2, .int x2)] [] (nd_SH ++ t) σ) (x1 : Int32) (x2 : Int32) (s0 : Int32) (σ : nd_Mem) (h : f_X11_readHouses_72 F rec36 x1 x2 s0 σ = some z) : nd_V M_X11_readHouses (nd_rm 6) (nd_Pi (nd_SH ++ t) z) 0 0 72 [(0, .ref 60), (1, .int x1), (2, .int x2)] [.int s0] (nd_SH ++ t) σ := by
  unfold f_X11_readHouses_72 at h
  refine nd_istore_n (ls' := [(3, .int s0), (0, .ref 60), (1, .int x1), (2, .int x2)]) dX11_readHouses_72 (by decide) rfl ?_
  refine nd_iload_n dX11_readHouses_73 0 rfl ?_
  refine nd_iconst dX11_readHouses_74 ic_m1 ?_
  refine nd_icmp_neN dX11_readHouses_75 80 (by decide) h (fun h => ?_) (fun h => ?_)
  · refine nd_iload_n dX11_readHouses_80 3 rfl ?_
    refine nd_iconst dX11_readHouses_81 ic_1 ?_
    refine nd_iadd dX11_readHouses_82 ?_
    refine nd_istore_n (ls' := [(2, .int (x2 + (1 : Int32))), (3, .int s0), (0, .ref 60), (1, .int x1)]) dX11_readHouses_83 (by decide) rfl ?_
    refine nd_goto dX11_readHouses_84 36 (by decide) ?_
    refine nd_sub [2, 3, 0] rfl ?_
    exact hrec36 _ _ _ h
  · refine nd_iconst dX11_readHouses_78 ic_m1 ?_
    exact nd_iret dX11_readHouses_79 (Nat.zero_le _) (Nat.zero_le _) (vp_nar_int _) (by cases h; exact ⟨rfl, rfl, rfl⟩)
set_option maxRecDepth 100000 in
set_option maxHeartbeats 4000000 in
theorem b_X11_readHouses_36 (F : Nat) (t : List nd_S) (hL : (nd_SH ++ t).length < nd_ro) {z : Int32 × nd_Mem} (m9 : Nat) : ∀ (x1 : Int32) (x2 : Int32) (σ : nd_Mem), f_X11_readHouses_36 F m9 x1 x2 σ = some z → nd_V M_X11_readHouses (nd_rm 6) (nd_Pi (nd_SH ++ t) z) 0 0 36 [(0, .ref 60), (1, .int x1), (2, .int x2)] [] (nd_SH ++ t) σ := by
  induction m9 with
  | zero =>
    intro x1 x2 σ h
    have h : none = some z := h
    cases h
  | succ m9 hrec36 =>
    intro x1 x2 σ h
    have h : f_X11_readHouses_36_b F (f_X11_readHouses_36 F m9) x1 x2 σ = some z := h
    unfold f_X11_readHouses_36_b at h
    refine nd_aload_n dX11_readHouses_36 0 rfl ?_
    refine nd_bipush dX11_readHouses_37 ib_20 ?_
    obtain ⟨r1, σ2, hc3, h⟩ := nd_bind_e h
    refine nd_cvi [.int (20 : Int32)] [] dX11_readHouses_39 cl_X11_232 (sh_60 t) ⟨Nat.le_of_ble_eq_true rfl, Nat.le_of_ble_eq_true rfl⟩ rfl (Nat.le_of_ble_eq_true rfl) hL (t_X11_isWord F t hL _ _ hc3) ?_
    refine nd_if_eqN dX11_readHouses_42 87 (by decide) h (fun h => ?_) (fun h => ?_)
    · refine nd_aload_n dX11_readHouses_87 0 rfl ?_
      refine nd_get dX11_readHouses_88 gf_X11_172 (sh_60 t) rfl ?_
      refine nd_if_neN dX11_readHouses_91 98 (by decide) h (fun h => ?_) (fun h => ?_)
      · refine nd_aload_n dX11_readHouses_98 0 rfl ?_
        refine nd_iconst dX11_readHouses_99 ic_1 ?_
        obtain ⟨r4, σ5, hc6, h⟩ := nd_bind_e h
        refine nd_cvi [.int (1 : Int32)] [] dX11_readHouses_100 cl_X11_203 (sh_60 t) ⟨Nat.le_of_ble_eq_true rfl, Nat.le_of_ble_eq_true rfl⟩ rfl (Nat.le_of_ble_eq_true rfl) hL (t_X11_errs F t hL _ _ hc6) ?_
        exact nd_iret dX11_readHouses_103 (Nat.zero_le _) (Nat.zero_le _) (vp_nar_int _) (by cases h; exact ⟨rfl, rfl, rfl⟩)
      · refine nd_iload_n dX11_readHouses_94 2 rfl ?_
        refine nd_goto dX11_readHouses_95 103 (by decide) ?_
        exact nd_iret dX11_readHouses_103 (Nat.zero_le _) (Nat.zero_le _) (vp_nar_int _) (by cases h; exact ⟨rfl, rfl, rfl⟩)
    · refine nd_iload_n dX11_readHouses_45 2 rfl ?_
      refine nd_bipush dX11_readHouses_46 ib_16 ?_
      refine nd_icmp_neN dX11_readHouses_48 57 (by decide) h (fun h => ?_) (fun h => ?_)
      · refine nd_iload_n dX11_readHouses_57 1 rfl ?_
        refine nd_if_eqN dX11_readHouses_58 68 (by decide) h (fun h => ?_) (fun h => ?_)
        · refine nd_aload_n dX11_readHouses_68 0 rfl ?_
          obtain ⟨r7, σ8, hc9, h⟩ := nd_bind_e h
          refine nd_cvi [] [] dX11_readHouses_69 cl_X11_273 (sh_60 t) ⟨Nat.le_of_ble_eq_true rfl, Nat.le_of_ble_eq_true rfl⟩ rfl (Nat.le_of_ble_eq_true rfl) hL (t_X11_readFeud F t hL _ hc9) ?_
          exact b_X11_readHouses_72 F _ t hL hrec36 _ _ _ _ h
        · refine nd_aload_n dX11_readHouses_61 0 rfl ?_
          obtain ⟨r10, σ11, hc12, h⟩ := nd_bind_e h
          refine nd_cvi [] [] dX11_readHouses_62 cl_X11_270 (sh_60 t) ⟨Nat.le_of_ble_eq_true rfl, Nat.le_of_ble_eq_true rfl⟩ rfl (Nat.le_of_ble_eq_true rfl) hL (t_X11_readSide F t hL _ hc12) ?_
          refine nd_goto dX11_readHouses_65 72 (by decide) ?_
          exact b_X11_readHouses_72 F _ t hL hrec36 _ _ _ _ h
      · refine nd_aload_n dX11_readHouses_51 0 rfl ?_
        refine nd_iconst dX11_readHouses_52 ic_3 ?_
        obtain ⟨r13, σ14, hc15, h⟩ := nd_bind_e h
        refine nd_cvi [.int (3 : Int32)] [] dX11_readHouses_53 cl_X11_203 (sh_60 t) ⟨Nat.le_of_ble_eq_true rfl, Nat.le_of_ble_eq_true rfl⟩ rfl (Nat.le_of_ble_eq_true rfl) hL (t_X11_errs F t hL _ _ hc15) ?_
        exact nd_iret dX11_readHouses_56 (Nat.zero_le _) (Nat.zero_le _) (vp_nar_int _) (by cases h; exact ⟨rfl, rfl, rfl⟩)
set_option maxRecDepth 100000 in
set_option maxHeartbeats 4000000 in
theorem b_X11_readHouses_2 (F : Nat) (t : List nd_S) (hL : (nd_SH ++ t).length < nd_ro) {z : Int32 × nd_Mem} (m9 : Nat) : ∀ (x1 : Int32) (x2 : Int32) (σ : nd_Mem), f_X11_readHouses_2 F m9 x1 x2 σ = some z → nd_V M_X11_readHouses (nd_rm 6) (nd_Pi (nd_SH ++ t) z) 0 0 2 [(0, .ref 60), (1, .int x1), (2, .int x2)] [] (nd_SH ++ t) σ := by
  induction m9 with
  | zero =>
    intro x1 x2 σ h
    have h : none = some z := h
    cases h
  | succ m9 hrec2 =>
    intro x1 x2 σ h
    have h : f_X11_readHouses_2_b F (f_X11_readHouses_2 F m9) x1 x2 σ = some z := h
    unfold f_X11_readHouses_2_b at h
    refine nd_iload_n dX11_readHouses_2 2 rfl ?_
    refine nd_bipush dX11_readHouses_3 ib_16 ?_
    refine nd_icmp_geN dX11_readHouses_5 34 (by decide) h (fun h => ?_) (fun h => ?_)
    · refine nd_iconst dX11_readHouses_34 ic_0 ?_
      refine nd_istore_n (ls' := [(2, .int (0 : Int32)), (0, .ref 60), (1, .int x1)]) dX11_readHouses_35 (by decide) rfl ?_
      refine nd_sub [1, 2, 0] rfl ?_
      exact b_X11_readHouses_36 F t hL F _ _ _ h
    · refine nd_aload_n dX11_readHouses_8 0 rfl ?_
      refine nd_get dX11_readHouses_9 gf_X11_59 (sh_60 t) rfl ?_
      refine nd_bipush dX11_readHouses_12 ib_16 ?_
      refine nd_iload_n dX11_readHouses_14 2 rfl ?_
      refine nd_iadd dX11_readHouses_15 ?_
      refine nd_iconst dX11_readHouses_16 ic_0 ?_
      refine nd_iastoreN dX11_readHouses_17 (sh_76 t) h (fun σ1 h => ?_)
      refine nd_aload_n dX11_readHouses_18 0 rfl ?_
      refine nd_get dX11_readHouses_19 gf_X11_62 (sh_60 t) rfl ?_
      refine nd_bipush dX11_readHouses_22 ib_16 ?_
      refine nd_iload_n dX11_readHouses_24 2 rfl ?_
      refine nd_iadd dX11_readHouses_25 ?_
      refine nd_iconst dX11_readHouses_26 ic_0 ?_
      refine nd_iastoreN dX11_readHouses_27 (sh_77 t) h (fun σ2 h => ?_)
      refine nd_iinc (v := (x2 + (1 : Int32))) (ls' := [(2, .int (x2 + (1 : Int32))), (0, .ref 60), (1, .int x1)]) dX11_readHouses_28 2 rfl (congrArg (HAdd.hAdd _) ic_1) (by decide) rfl ?_
      refine nd_goto dX11_readHouses_31 2 (by decide) ?_
      refine nd_sub [1, 2, 0] rfl ?_
      exact hrec2 _ _ _ h
set_option maxRecDepth 100000 in
set_option maxHeartbeats 4000000 in
theorem t_X11_readHouses (F : Nat) (t : List nd_S) (hL : (nd_SH ++ t).length < nd_ro) {z : Int32 × nd_Mem} (x1 : Int32) (σ : nd_Mem) (h : f_X11_readHouses F x1 σ = some z) : nd_Fn M_X11_readHouses (nd_rm 6) [.ref 60, .int x1] (nd_SH ++ t) σ (nd_Pi (nd_SH ++ t) z) := by
  refine nd_Fn.ofV (ls := [(0, .ref 60), (1, .int x1)]) pl_X11_readHouses rfl (fun _ => Nat.le_of_ble_eq_true rfl) (fun _ => rfl) ?_
  unfold f_X11_readHouses at h
  refine nd_iconst dX11_readHouses_0 ic_0 ?_
  refine nd_istore_n (ls' := [(2, .int (0 : Int32)), (0, .ref 60), (1, .int x1)]) dX11_readHouses_1 (by decide) rfl ?_
  refine nd_sub [1, 2, 0] rfl ?_
  exact b_X11_readHouses_2 F t hL F _ _ _ h
def f_X11_readPlans_2_b (F : Nat) (rec2 : Int32 → nd_Mem → nd_Res) (x1 : Int32) (σ : nd_Mem) : nd_Res := (nd_bind (f_X11_isWord F (17 : Int32) σ) fun r1 σ2 => (if r1 = 0 then (if (σ2 60 12) = 0 then (some (x1, σ2)) else (nd_bind (f_X11_errs F (1 : Int32) σ2) fun r4 σ5 => (some (r4, σ5)))) else (if x1 = (16 : Int32) then (nd_bind (f_X11_errs F (3 : Int32) σ2) fun r10 σ11 => (some (r10, σ11))) else (nd_bind (f_X11_readDeed F ((64 : Int32) + ((4 : Int32) * x1)) σ2) fun r7 σ8 => (if r7 = (-1 : Int32) then (some ((-1 : Int32), σ8)) else (rec2 (x1 + (1 : Int32)) σ8))))))
def f_X11_readPlans_2 (F : Nat) : Nat → Int32 → nd_Mem → nd_Res
  | 0, _, _ => none
  | m9 + 1, x1, σ => f_X11_readPlans_2_b F (f_X11_readPlans_2 F m9) x1 σ
def f_X11_readPlans (F : Nat) (σ : nd_Mem) : nd_Res := (f_X11_readPlans_2 F F (0 : Int32) σ)
set_option maxRecDepth 100000 in
set_option maxHeartbeats 4000000 in
theorem b_X11_readPlans_2 (F : Nat) (t : List nd_S) (hL : (nd_SH ++ t).length < nd_ro) {z : Int32 × nd_Mem} (m9 : Nat) : ∀ (x1 : Int32) (σ : nd_Mem), f_X11_readPlans_2 F m9 x1 σ = some z → nd_V M_X11_readPlans (nd_rm 6) (nd_Pi (nd_SH ++ t) z) 0 0 2 [(0, .ref 60), (1, .int x1)] [] (nd_SH ++ t) σ := by
  induction m9 with
  | zero =>
    intro x1 σ h
    have h : none = some z := h
    cases h
  | succ m9 hrec2 =>
    intro x1 σ h
    have h : f_X11_readPlans_2_b F (f_X11_readPlans_2 F m9) x1 σ = some z := h
    unfold f_X11_readPlans_2_b at h
    refine nd_aload_n dX11_readPlans_2 0 rfl ?_
    refine nd_bipush dX11_readPlans_3 ib_17 ?_
    obtain ⟨r1, σ2, hc3, h⟩ := nd_bind_e h
    refine nd_cvi [.int (17 : Int32)] [] dX11_readPlans_5 cl_X11_232 (sh_60 t) ⟨Nat.le_of_ble_eq_true rfl, Nat.le_of_ble_eq_true rfl⟩ rfl (Nat.le_of_ble_eq_true rfl) hL (t_X11_isWord F t hL _ _ hc3) ?_
    refine nd_if_eqN dX11_readPlans_8 46 (by decide) h (fun h => ?_) (fun h => ?_)
    · refine nd_aload_n dX11_readPlans_46 0 rfl ?_
      refine nd_get dX11_readPlans_47 gf_X11_172 (sh_60 t) rfl ?_
      refine nd_if_neN dX11_readPlans_50 57 (by decide) h (fun h => ?_) (fun h => ?_)
      · refine nd_aload_n dX11_readPlans_57 0 rfl ?_
        refine nd_iconst dX11_readPlans_58 ic_1 ?_
        obtain ⟨r4, σ5, hc6, h⟩ := nd_bind_e h
        refine nd_cvi [.int (1 : Int32)] [] dX11_readPlans_59 cl_X11_203 (sh_60 t) ⟨Nat.le_of_ble_eq_true rfl, Nat.le_of_ble_eq_true rfl⟩ rfl (Nat.le_of_ble_eq_true rfl) hL (t_X11_errs F t hL _ _ hc6) ?_
        exact nd_iret dX11_readPlans_62 (Nat.zero_le _) (Nat.zero_le _) (vp_nar_int _) (by cases h; exact ⟨rfl, rfl, rfl⟩)
      · refine nd_iload_n dX11_readPlans_53 1 rfl ?_
        refine nd_goto dX11_readPlans_54 62 (by decide) ?_
        exact nd_iret dX11_readPlans_62 (Nat.zero_le _) (Nat.zero_le _) (vp_nar_int _) (by cases h; exact ⟨rfl, rfl, rfl⟩)
    · refine nd_iload_n dX11_readPlans_11 1 rfl ?_
      refine nd_bipush dX11_readPlans_12 ib_16 ?_
      refine nd_icmp_neN dX11_readPlans_14 23 (by decide) h (fun h => ?_) (fun h => ?_)
      · refine nd_aload_n dX11_readPlans_23 0 rfl ?_
        refine nd_bipush dX11_readPlans_24 ib_64 ?_
        refine nd_iconst dX11_readPlans_26 ic_4 ?_
        refine nd_iload_n dX11_readPlans_27 1 rfl ?_
        refine nd_imul dX11_readPlans_28 ?_
        refine nd_iadd dX11_readPlans_29 ?_
        obtain ⟨r7, σ8, hc9, h⟩ := nd_bind_e h
        refine nd_cvi [.int ((64 : Int32) + ((4 : Int32) * x1))] [] dX11_readPlans_30 cl_X11_267 (sh_60 t) ⟨Nat.le_of_ble_eq_true rfl, Nat.le_of_ble_eq_true rfl⟩ rfl (Nat.le_of_ble_eq_true rfl) hL (t_X11_readDeed F t hL _ _ hc9) ?_
        refine nd_iconst dX11_readPlans_33 ic_m1 ?_
        refine nd_icmp_neN dX11_readPlans_34 39 (by decide) h (fun h => ?_) (fun h => ?_)
        · refine nd_iload_n dX11_readPlans_39 1 rfl ?_
          refine nd_iconst dX11_readPlans_40 ic_1 ?_
          refine nd_iadd dX11_readPlans_41 ?_
          refine nd_istore_n (ls' := [(1, .int (x1 + (1 : Int32))), (0, .ref 60)]) dX11_readPlans_42 (by decide) rfl ?_
          refine nd_goto dX11_readPlans_43 2 (by decide) ?_
          refine nd_sub [1, 0] rfl ?_
          exact hrec2 _ _ h
        · refine nd_iconst dX11_readPlans_37 ic_m1 ?_
          exact nd_iret dX11_readPlans_38 (Nat.zero_le _) (Nat.zero_le _) (vp_nar_int _) (by cases h; exact ⟨rfl, rfl, rfl⟩)
      · refine nd_aload_n dX11_readPlans_17 0 rfl ?_
        refine nd_iconst dX11_readPlans_18 ic_3 ?_
        obtain ⟨r10, σ11, hc12, h⟩ := nd_bind_e h
        refine nd_cvi [.int (3 : Int32)] [] dX11_readPlans_19 cl_X11_203 (sh_60 t) ⟨Nat.le_of_ble_eq_true rfl, Nat.le_of_ble_eq_true rfl⟩ rfl (Nat.le_of_ble_eq_true rfl) hL (t_X11_errs F t hL _ _ hc12) ?_
        exact nd_iret dX11_readPlans_22 (Nat.zero_le _) (Nat.zero_le _) (vp_nar_int _) (by cases h; exact ⟨rfl, rfl, rfl⟩)
set_option maxRecDepth 100000 in
set_option maxHeartbeats 4000000 in
theorem t_X11_readPlans (F : Nat) (t : List nd_S) (hL : (nd_SH ++ t).length < nd_ro) {z : Int32 × nd_Mem} (σ : nd_Mem) (h : f_X11_readPlans F σ = some z) : nd_Fn M_X11_readPlans (nd_rm 6) [.ref 60] (nd_SH ++ t) σ (nd_Pi (nd_SH ++ t) z) := by
  refine nd_Fn.ofV (ls := [(0, .ref 60)]) pl_X11_readPlans rfl (fun _ => Nat.le_of_ble_eq_true rfl) (fun _ => rfl) ?_
  unfold f_X11_readPlans at h
  refine nd_iconst dX11_readPlans_0 ic_0 ?_
  refine nd_istore_n (ls' := [(1, .int (0 : Int32)), (0, .ref 60)]) dX11_readPlans_1 (by decide) rfl ?_
  refine nd_sub [1, 0] rfl ?_
  exact b_X11_readPlans_2 F t hL F _ _ h
def f_X11_goesBy_39 (F : Nat) (rec9 : Int32 → Int32 → nd_Mem → nd_Res) (x1 : Int32) (x2 : Int32) (σ : nd_Mem) : nd_Res := (rec9 x1 (x2 + (4 : Int32)) σ)
def f_X11_goesBy_148 (F : Nat) (rec73 : Int32 → Int32 → nd_Mem → nd_Res) (x1 : Int32) (x2 : Int32) (σ : nd_Mem) : nd_Res := (rec73 x1 (x2 + (1 : Int32)) σ)
def f_X11_goesBy_73_b (F : Nat) (rec73 : Int32 → Int32 → nd_Mem → nd_Res) (x1 : Int32) (x2 : Int32) (σ : nd_Mem) : nd_Res := (if (σ 60 6) ≤ x2 then (if (0 : Int32) < 0 ∨ 103 ≤ ((0 : Int32)).toNatClampNeg then none else (if (0 : Int32) < 0 ∨ 103 ≤ ((0 : Int32)).toNatClampNeg then none else (nd_let (nd_up σ 61 ((0 : Int32)).toNatClampNeg ((σ 61 ((0 : Int32)).toNatClampNeg) + (1 : Int32))) fun σ1 => (if (5 : Int32) < 0 ∨ 103 ≤ ((5 : Int32)).toNatClampNeg then none else (some (((σ1 61 ((5 : Int32)).toNatClampNeg) - x1), σ1)))))) else (if x2 < 0 ∨ 16 ≤ (x2).toNatClampNeg then none else (if (σ 80 (x2).toNatClampNeg) = (1 : Int32) then (f_X11_goesBy_148 F rec73 x1 x2 σ) else (if ((23 : Int32) + x2) < 0 ∨ 103 ≤ (((23 : Int32) + x2)).toNatClampNeg then none else (if (σ 61 (((23 : Int32) + x2)).toNatClampNeg) = 0 then (f_X11_goesBy_148 F rec73 x1 x2 σ) else (if ((7 : Int32) + x2) < 0 ∨ 103 ≤ (((7 : Int32) + x2)).toNatClampNeg then none else (if 0 < (σ 61 (((7 : Int32) + x2)).toNatClampNeg) then (f_X11_goesBy_148 F rec73 x1 x2 σ) else (if ((87 : Int32) + x2) < 0 ∨ 103 ≤ (((87 : Int32) + x2)).toNatClampNeg then none else (if (σ 61 (((87 : Int32) + x2)).toNatClampNeg) = (1 : Int32) then (f_X11_goesBy_148 F rec73 x1 x2 σ) else (if ((87 : Int32) + x2) < 0 ∨ 103 ≤ (((87 : Int32) + x2)).toNatClampNeg then none else (nd_let (nd_up σ 61 (((87 : Int32) + x2)).toNatClampNeg (1 : Int32)) fun σ2 => (nd_bind (f_X11_notes F (4 : Int32) x2 (0 : Int32) σ2) fun r3 σ4 => (f_X11_goesBy_148 F rec73 x1 x2 σ4)))))))))))))
def f_X11_goesBy_73 (F : Nat) : Nat → Int32 → Int32 → nd_Mem → nd_Res
  | 0, _, _, _ => none
  | m9 + 1, x1, x2, σ => f_X11_goesBy_73_b F (f_X11_goesBy_73 F m9) x1 x2 σ
def f_X11_goesBy_52_b (F : Nat) (rec52 : Int32 → Int32 → nd_Mem → nd_Res) (x1 : Int32) (x2 : Int32) (σ : nd_Mem) : nd_Res := (if (σ 60 6) ≤ x2 then (f_X11_goesBy_73 F F x1 (0 : Int32) σ) else (nd_bind (f_X11_childrenOf F x2 σ) fun r1 σ2 => (rec52 x1 (x2 + (1 : Int32)) σ2)))
def f_X11_goesBy_52 (F : Nat) : Nat → Int32 → Int32 → nd_Mem → nd_Res
  | 0, _, _, _ => none
  | m9 + 1, x1, x2, σ => f_X11_goesBy_52_b F (f_X11_goesBy_52 F m9) x1 x2 σ
def f_X11_goesBy_9_b (F : Nat) (rec9 : Int32 → Int32 → nd_Mem → nd_Res) (x1 : Int32) (x2 : Int32) (σ : nd_Mem) : nd_Res := (if ((4 : Int32) * (σ 60 31)) ≤ x2 then (nd_bind (f_X11_girlsGo F σ) fun r1 σ2 => (f_X11_goesBy_52 F F x1 (0 : Int32) σ2)) else (if x2 < 0 ∨ 128 ≤ (x2).toNatClampNeg then none else (if (0 : Int32) < 0 ∨ 103 ≤ ((0 : Int32)).toNatClampNeg then none else (if (σ 75 (x2).toNatClampNeg) = (σ 61 ((0 : Int32)).toNatClampNeg) then (nd_bind (f_X11_does F x2 σ) fun r4 σ5 => (f_X11_goesBy_39 F rec9 x1 x2 σ5)) else (f_X11_goesBy_39 F rec9 x1 x2 σ)))))
def f_X11_goesBy_9 (F : Nat) : Nat → Int32 → Int32 → nd_Mem → nd_Res
  | 0, _, _, _ => none
  | m9 + 1, x1, x2, σ => f_X11_goesBy_9_b F (f_X11_goesBy_9 F m9) x1 x2 σ
def f_X11_goesBy (F : Nat) (σ : nd_Mem) : nd_Res := (if (5 : Int32) < 0 ∨ 103 ≤ ((5 : Int32)).toNatClampNeg then none else (f_X11_goesBy_9 F F (σ 61 ((5 : Int32)).toNatClampNeg) (0 : Int32) σ))
set_option maxRecDepth 100000 in
set_option maxHeartbeats 4000000 in
theorem b_X11_goesBy_39 (F : Nat) (rec9 : Int32 → Int32 → nd_Mem → nd_Res) (t : List nd_S) (hL : (nd_SH ++ t).length < nd_ro) {z : Int32 × nd_Mem} (hrec9 : ∀ (x1 : Int32) (x2 : Int32) (σ : nd_Mem), rec9 x1 x2 σ = some z → nd_V M_X11_goesBy (nd_rm 7) (nd_Pi (nd_SH ++ t) z) 0 0 9 [(0, .ref 60), (1, .int x1), (2, .int x2)] [] (nd_SH ++ t) σ) (x1 : Int32) (x2 : Int32) (σ : nd_Mem) (h : f_X11_goesBy_39 F rec9 x1 x2 σ = some z) : nd_V M_X11_goesBy (nd_rm 7) (nd_Pi (nd_SH ++ t) z) 0 0 39 [(0, .ref 60), (1, .int x1), (2, .int x2)] [] (nd_SH ++ t) σ := by
  unfold f_X11_goesBy_39 at h
  refine nd_iload_n dX11_goesBy_39 2 rfl ?_
  refine nd_iconst dX11_goesBy_40 ic_4 ?_
  refine nd_iadd dX11_goesBy_41 ?_
  refine nd_istore_n (ls' := [(2, .int (x2 + (4 : Int32))), (0, .ref 60), (1, .int x1)]) dX11_goesBy_42 (by decide) rfl ?_
  refine nd_goto dX11_goesBy_43 9 (by decide) ?_
  refine nd_sub [1, 2, 0] rfl ?_
  exact hrec9 _ _ _ h
set_option maxRecDepth 100000 in
set_option maxHeartbeats 4000000 in
theorem b_X11_goesBy_148 (F : Nat) (rec73 : Int32 → Int32 → nd_Mem → nd_Res) (t : List nd_S) (hL : (nd_SH ++ t).length < nd_ro) {z : Int32 × nd_Mem} (hrec73 : ∀ (x1 : Int32) (x2 : Int32) (σ : nd_Mem), rec73 x1 x2 σ = some z → nd_V M_X11_goesBy (nd_rm 7) (nd_Pi (nd_SH ++ t) z) 0 0 73 [(0, .ref 60), (1, .int x1), (2, .int x2)] [] (nd_SH ++ t) σ) (x1 : Int32) (x2 : Int32) (σ : nd_Mem) (h : f_X11_goesBy_148 F rec73 x1 x2 σ = some z) : nd_V M_X11_goesBy (nd_rm 7) (nd_Pi (nd_SH ++ t) z) 0 0 148 [(0, .ref 60), (1, .int x1), (2, .int x2)] [] (nd_SH ++ t) σ := by
  unfold f_X11_goesBy_148 at h
  refine nd_iinc (v := (x2 + (1 : Int32))) (ls' := [(2, .int (x2 + (1 : Int32))), (0, .ref 60), (1, .int x1)]) dX11_goesBy_148 2 rfl (congrArg (HAdd.hAdd _) ic_1) (by decide) rfl ?_
  refine nd_goto dX11_goesBy_151 73 (by decide) ?_
  refine nd_sub [1, 2, 0] rfl ?_
  exact hrec73 _ _ _ h
set_option maxRecDepth 100000 in
set_option maxHeartbeats 4000000 in
theorem b_X11_goesBy_73 (F : Nat) (t : List nd_S) (hL : (nd_SH ++ t).length < nd_ro) {z : Int32 × nd_Mem} (m9 : Nat) : ∀ (x1 : Int32) (x2 : Int32) (σ : nd_Mem), f_X11_goesBy_73 F m9 x1 x2 σ = some z → nd_V M_X11_goesBy (nd_rm 7) (nd_Pi (nd_SH ++ t) z) 0 0 73 [(0, .ref 60), (1, .int x1), (2, .int x2)] [] (nd_SH ++ t) σ := by
  induction m9 with
  | zero =>
    intro x1 x2 σ h
    have h : none = some z := h
    cases h
  | succ m9 hrec73 =>
    intro x1 x2 σ h
    have h : f_X11_goesBy_73_b F (f_X11_goesBy_73 F m9) x1 x2 σ = some z := h
    unfold f_X11_goesBy_73_b at h
    refine nd_iload_n dX11_goesBy_73 2 rfl ?_
    refine nd_aload_n dX11_goesBy_74 0 rfl ?_
    refine nd_get dX11_goesBy_75 gf_X11_144 (sh_60 t) rfl ?_
    refine nd_icmp_geN dX11_goesBy_78 154 (by decide) h (fun h => ?_) (fun h => ?_)
    · refine nd_aload_n dX11_goesBy_154 0 rfl ?_
      refine nd_get dX11_goesBy_155 gf_X11_7 (sh_60 t) rfl ?_
      refine nd_iconst dX11_goesBy_158 ic_0 ?_
      refine nd_aload_n dX11_goesBy_159 0 rfl ?_
      refine nd_get dX11_goesBy_160 gf_X11_7 (sh_60 t) rfl ?_
      refine nd_iconst dX11_goesBy_163 ic_0 ?_
      refine nd_ialoadN dX11_goesBy_164 (sh_61 t) h (fun h => ?_)
      refine nd_iconst dX11_goesBy_165 ic_1 ?_
      refine nd_iadd dX11_goesBy_166 ?_
      refine nd_iastoreN dX11_goesBy_167 (sh_61 t) h (fun σ1 h => ?_)
      refine nd_aload_n dX11_goesBy_168 0 rfl ?_
      refine nd_get dX11_goesBy_169 gf_X11_7 (sh_60 t) rfl ?_
      refine nd_iconst dX11_goesBy_172 ic_5 ?_
      refine nd_ialoadN dX11_goesBy_173 (sh_61 t) h (fun h => ?_)
      refine nd_iload_n dX11_goesBy_174 1 rfl ?_
      refine nd_isub dX11_goesBy_175 ?_
      exact nd_iret dX11_goesBy_176 (Nat.zero_le _) (Nat.zero_le _) (vp_nar_int _) (by cases h; exact ⟨rfl, rfl, rfl⟩)
    · refine nd_aload_n dX11_goesBy_81 0 rfl ?_
      refine nd_get dX11_goesBy_82 gf_X11_71 (sh_60 t) rfl ?_
      refine nd_iload_n dX11_goesBy_85 2 rfl ?_
      refine nd_ialoadN dX11_goesBy_86 (sh_80 t) h (fun h => ?_)
      refine nd_iconst dX11_goesBy_87 ic_1 ?_
      refine nd_icmp_eqN dX11_goesBy_88 148 (by decide) h (fun h => ?_) (fun h => ?_)
      · exact b_X11_goesBy_148 F _ t hL hrec73 _ _ _ h
      · refine nd_aload_n dX11_goesBy_91 0 rfl ?_
        refine nd_get dX11_goesBy_92 gf_X11_7 (sh_60 t) rfl ?_
        refine nd_bipush dX11_goesBy_95 ib_23 ?_
        refine nd_iload_n dX11_goesBy_97 2 rfl ?_
        refine nd_iadd dX11_goesBy_98 ?_
        refine nd_ialoadN dX11_goesBy_99 (sh_61 t) h (fun h => ?_)
        refine nd_if_eqN dX11_goesBy_100 148 (by decide) h (fun h => ?_) (fun h => ?_)
        · exact b_X11_goesBy_148 F _ t hL hrec73 _ _ _ h
        · refine nd_aload_n dX11_goesBy_103 0 rfl ?_
          refine nd_get dX11_goesBy_104 gf_X11_7 (sh_60 t) rfl ?_
          refine nd_bipush dX11_goesBy_107 ib_7 ?_
          refine nd_iload_n dX11_goesBy_109 2 rfl ?_
          refine nd_iadd dX11_goesBy_110 ?_
          refine nd_ialoadN dX11_goesBy_111 (sh_61 t) h (fun h => ?_)
          refine nd_if_gtN dX11_goesBy_112 148 (by decide) h (fun h => ?_) (fun h => ?_)
          · exact b_X11_goesBy_148 F _ t hL hrec73 _ _ _ h
          · refine nd_aload_n dX11_goesBy_115 0 rfl ?_
            refine nd_get dX11_goesBy_116 gf_X11_7 (sh_60 t) rfl ?_
            refine nd_bipush dX11_goesBy_119 ib_87 ?_
            refine nd_iload_n dX11_goesBy_121 2 rfl ?_
            refine nd_iadd dX11_goesBy_122 ?_
            refine nd_ialoadN dX11_goesBy_123 (sh_61 t) h (fun h => ?_)
            refine nd_iconst dX11_goesBy_124 ic_1 ?_
            refine nd_icmp_neN dX11_goesBy_125 131 (by decide) h (fun h => ?_) (fun h => ?_)
            · refine nd_aload_n dX11_goesBy_131 0 rfl ?_
              refine nd_get dX11_goesBy_132 gf_X11_7 (sh_60 t) rfl ?_
              refine nd_bipush dX11_goesBy_135 ib_87 ?_
              refine nd_iload_n dX11_goesBy_137 2 rfl ?_
              refine nd_iadd dX11_goesBy_138 ?_
              refine nd_iconst dX11_goesBy_139 ic_1 ?_
              refine nd_iastoreN dX11_goesBy_140 (sh_61 t) h (fun σ2 h => ?_)
              refine nd_aload_n dX11_goesBy_141 0 rfl ?_
              refine nd_iconst dX11_goesBy_142 ic_4 ?_
              refine nd_iload_n dX11_goesBy_143 2 rfl ?_
              refine nd_iconst dX11_goesBy_144 ic_0 ?_
              obtain ⟨r3, σ4, hc5, h⟩ := nd_bind_e h
              refine nd_cvv [.int (4 : Int32), .int x2, .int (0 : Int32)] [] dX11_goesBy_145 cl_X11_338 (sh_60 t) ⟨Nat.le_of_ble_eq_true rfl, Nat.le_of_ble_eq_true rfl⟩ rfl (Nat.le_of_ble_eq_true rfl) hL (t_X11_notes F t hL _ _ _ _ hc5) ?_
              exact b_X11_goesBy_148 F _ t hL hrec73 _ _ _ h
            · refine nd_goto dX11_goesBy_128 148 (by decide) ?_
              exact b_X11_goesBy_148 F _ t hL hrec73 _ _ _ h
set_option maxRecDepth 100000 in
set_option maxHeartbeats 4000000 in
theorem b_X11_goesBy_52 (F : Nat) (t : List nd_S) (hL : (nd_SH ++ t).length < nd_ro) {z : Int32 × nd_Mem} (m9 : Nat) : ∀ (x1 : Int32) (x2 : Int32) (σ : nd_Mem), f_X11_goesBy_52 F m9 x1 x2 σ = some z → nd_V M_X11_goesBy (nd_rm 7) (nd_Pi (nd_SH ++ t) z) 0 0 52 [(0, .ref 60), (1, .int x1), (2, .int x2)] [] (nd_SH ++ t) σ := by
  induction m9 with
  | zero =>
    intro x1 x2 σ h
    have h : none = some z := h
    cases h
  | succ m9 hrec52 =>
    intro x1 x2 σ h
    have h : f_X11_goesBy_52_b F (f_X11_goesBy_52 F m9) x1 x2 σ = some z := h
    unfold f_X11_goesBy_52_b at h
    refine nd_iload_n dX11_goesBy_52 2 rfl ?_
    refine nd_aload_n dX11_goesBy_53 0 rfl ?_
    refine nd_get dX11_goesBy_54 gf_X11_144 (sh_60 t) rfl ?_
    refine nd_icmp_geN dX11_goesBy_57 71 (by decide) h (fun h => ?_) (fun h => ?_)
    · refine nd_iconst dX11_goesBy_71 ic_0 ?_
      refine nd_istore_n (ls' := [(2, .int (0 : Int32)), (0, .ref 60), (1, .int x1)]) dX11_goesBy_72 (by decide) rfl ?_
      refine nd_sub [1, 2, 0] rfl ?_
      exact b_X11_goesBy_73 F t hL F _ _ _ h
    · refine nd_aload_n dX11_goesBy_60 0 rfl ?_
      refine nd_iload_n dX11_goesBy_61 2 rfl ?_
      obtain ⟨r1, σ2, hc3, h⟩ := nd_bind_e h
      refine nd_cvv [.int x2] [] dX11_goesBy_62 cl_X11_375 (sh_60 t) ⟨Nat.le_of_ble_eq_true rfl, Nat.le_of_ble_eq_true rfl⟩ rfl (Nat.le_of_ble_eq_true rfl) hL (t_X11_childrenOf F t hL _ _ hc3) ?_
      refine nd_iinc (v := (x2 + (1 : Int32))) (ls' := [(2, .int (x2 + (1 : Int32))), (0, .ref 60), (1, .int x1)]) dX11_goesBy_65 2 rfl (congrArg (HAdd.hAdd _) ic_1) (by decide) rfl ?_
      refine nd_goto dX11_goesBy_68 52 (by decide) ?_
      refine nd_sub [1, 2, 0] rfl ?_
      exact hrec52 _ _ _ h
set_option maxRecDepth 100000 in
set_option maxHeartbeats 4000000 in
theorem b_X11_goesBy_9 (F : Nat) (t : List nd_S) (hL : (nd_SH ++ t).length < nd_ro) {z : Int32 × nd_Mem} (m9 : Nat) : ∀ (x1 : Int32) (x2 : Int32) (σ : nd_Mem), f_X11_goesBy_9 F m9 x1 x2 σ = some z → nd_V M_X11_goesBy (nd_rm 7) (nd_Pi (nd_SH ++ t) z) 0 0 9 [(0, .ref 60), (1, .int x1), (2, .int x2)] [] (nd_SH ++ t) σ := by
  induction m9 with
  | zero =>
    intro x1 x2 σ h
    have h : none = some z := h
    cases h
  | succ m9 hrec9 =>
    intro x1 x2 σ h
    have h : f_X11_goesBy_9_b F (f_X11_goesBy_9 F m9) x1 x2 σ = some z := h
    unfold f_X11_goesBy_9_b at h
    refine nd_iload_n dX11_goesBy_9 2 rfl ?_
    refine nd_iconst dX11_goesBy_10 ic_4 ?_
    refine nd_aload_n dX11_goesBy_11 0 rfl ?_
    refine nd_get dX11_goesBy_12 gf_X11_286 (sh_60 t) rfl ?_
    refine nd_imul dX11_goesBy_15 ?_
    refine nd_icmp_geN dX11_goesBy_16 46 (by decide) h (fun h => ?_) (fun h => ?_)
    · refine nd_aload_n dX11_goesBy_46 0 rfl ?_
      obtain ⟨r1, σ2, hc3, h⟩ := nd_bind_e h
      refine nd_cvv [] [] dX11_goesBy_47 cl_X11_372 (sh_60 t) ⟨Nat.le_of_ble_eq_true rfl, Nat.le_of_ble_eq_true rfl⟩ rfl (Nat.le_of_ble_eq_true rfl) hL (t_X11_girlsGo F t hL _ hc3) ?_
      refine nd_iconst dX11_goesBy_50 ic_0 ?_
      refine nd_istore_n (ls' := [(2, .int (0 : Int32)), (0, .ref 60), (1, .int x1)]) dX11_goesBy_51 (by decide) rfl ?_
      refine nd_sub [1, 2, 0] rfl ?_
      exact b_X11_goesBy_52 F t hL F _ _ _ h
    · refine nd_aload_n dX11_goesBy_19 0 rfl ?_
      refine nd_get dX11_goesBy_20 gf_X11_56 (sh_60 t) rfl ?_
      refine nd_iload_n dX11_goesBy_23 2 rfl ?_
      refine nd_ialoadN dX11_goesBy_24 (sh_75 t) h (fun h => ?_)
      refine nd_aload_n dX11_goesBy_25 0 rfl ?_
      refine nd_get dX11_goesBy_26 gf_X11_7 (sh_60 t) rfl ?_
      refine nd_iconst dX11_goesBy_29 ic_0 ?_
      refine nd_ialoadN dX11_goesBy_30 (sh_61 t) h (fun h => ?_)
      refine nd_icmp_neN dX11_goesBy_31 39 (by decide) h (fun h => ?_) (fun h => ?_)
      · exact b_X11_goesBy_39 F _ t hL hrec9 _ _ _ h
      · refine nd_aload_n dX11_goesBy_34 0 rfl ?_
        refine nd_iload_n dX11_goesBy_35 2 rfl ?_
        obtain ⟨r4, σ5, hc6, h⟩ := nd_bind_e h
        refine nd_cvv [.int x2] [] dX11_goesBy_36 cl_X11_369 (sh_60 t) ⟨Nat.le_of_ble_eq_true rfl, Nat.le_of_ble_eq_true rfl⟩ rfl (Nat.le_of_ble_eq_true rfl) hL (t_X11_does F t hL _ _ hc6) ?_
        exact b_X11_goesBy_39 F _ t hL hrec9 _ _ _ h
set_option maxRecDepth 100000 in
set_option maxHeartbeats 4000000 in
theorem t_X11_goesBy (F : Nat) (t : List nd_S) (hL : (nd_SH ++ t).length < nd_ro) {z : Int32 × nd_Mem} (σ : nd_Mem) (h : f_X11_goesBy F σ = some z) : nd_Fn M_X11_goesBy (nd_rm 7) [.ref 60] (nd_SH ++ t) σ (nd_Pi (nd_SH ++ t) z) := by
  refine nd_Fn.ofV (ls := [(0, .ref 60)]) pl_X11_goesBy rfl (fun _ => Nat.le_of_ble_eq_true rfl) (fun _ => rfl) ?_
  unfold f_X11_goesBy at h
  refine nd_aload_n dX11_goesBy_0 0 rfl ?_
  refine nd_get dX11_goesBy_1 gf_X11_7 (sh_60 t) rfl ?_
  refine nd_iconst dX11_goesBy_4 ic_5 ?_
  refine nd_ialoadN dX11_goesBy_5 (sh_61 t) h (fun h => ?_)
  refine nd_istore_n (ls' := [(1, .int (σ 61 ((5 : Int32)).toNatClampNeg)), (0, .ref 60)]) dX11_goesBy_6 (by decide) rfl ?_
  refine nd_iconst dX11_goesBy_7 ic_0 ?_
  refine nd_istore_n (ls' := [(2, .int (0 : Int32)), (1, .int (σ 61 ((5 : Int32)).toNatClampNeg)), (0, .ref 60)]) dX11_goesBy_8 (by decide) rfl ?_
  refine nd_sub [2, 1, 0] rfl ?_
  exact b_X11_goesBy_9 F t hL F _ _ _ h
def f_X11_readAny_78 (F : Nat) (rec9 : Int32 → Int32 → nd_Mem → nd_Res) (x1 : Int32) (x2 : Int32) (s0 : Int32) (σ : nd_Mem) : nd_Res := (nd_bind (f_X11_waits F s0 σ) fun r1 σ2 => (nd_bind (f_X11_reads F σ2) fun r4 σ5 => (rec9 x1 x2 σ5)))
def f_X11_readAny_66 (F : Nat) (rec9 : Int32 → Int32 → nd_Mem → nd_Res) (x1 : Int32) (x2 : Int32) (x3 : Int32) (σ : nd_Mem) : nd_Res := (if x3 = 0 then (f_X11_readAny_78 F rec9 x1 x2 (12 : Int32) σ) else (f_X11_readAny_78 F rec9 x1 x2 (9 : Int32) σ))
def f_X11_readAny_33 (F : Nat) (rec9 : Int32 → Int32 → nd_Mem → nd_Res) (x1 : Int32) (x2 : Int32) (x3 : Int32) (σ : nd_Mem) : nd_Res := (if (σ 60 24) = (8 : Int32) then (nd_bind (f_X11_errs F (3 : Int32) σ) fun r2 σ3 => (some (r2, σ3))) else (nd_let (nd_up σ 60 24 ((σ 60 24) + (1 : Int32))) fun σ1 => (if x3 = 0 then (f_X11_readAny_66 F rec9 (x1 + (1 : Int32)) x2 x3 σ1) else (f_X11_readAny_66 F rec9 x1 x2 x3 σ1))))
def f_X11_readAny_9_b (F : Nat) (rec9 : Int32 → Int32 → nd_Mem → nd_Res) (x1 : Int32) (x2 : Int32) (σ : nd_Mem) : nd_Res := (if x2 = 0 then (nd_bind (f_X11_isWord F (5 : Int32) σ) fun r1 σ2 => (if r1 = 0 then (nd_bind (f_X11_isWord F (4 : Int32) σ2) fun r4 σ5 => (if r4 = 0 then (nd_bind (f_X11_settles F (10 : Int32) σ5) fun r7 σ8 => (nd_bind (f_X11_settles F (11 : Int32) σ8) fun r10 σ11 => (if x1 = 0 then (some ((0 : Int32), σ11)) else (nd_bind (f_X11_isSign F (41 : Int32) σ11) fun r13 σ14 => (if r13 = 0 then (nd_bind (f_X11_errs F (1 : Int32) σ14) fun r24 σ25 => (some (r24, σ25))) else (nd_let (nd_up σ14 60 26 ((σ14 60 26) - (1 : Int32))) fun σ16 => (nd_let (nd_up σ16 60 24 ((σ16 60 24) - (1 : Int32))) fun σ17 => (nd_bind (f_X11_settles F (9 : Int32) σ17) fun r18 σ19 => (nd_bind (f_X11_reads F σ19) fun r21 σ22 => (rec9 (x1 - (1 : Int32)) x2 σ22)))))))))) else (nd_bind (f_X11_settles F (10 : Int32) σ5) fun r27 σ28 => (nd_bind (f_X11_settles F (11 : Int32) σ28) fun r30 σ31 => (nd_bind (f_X11_waits F (11 : Int32) σ31) fun r33 σ34 => (nd_bind (f_X11_reads F σ34) fun r36 σ37 => (rec9 x1 (1 : Int32) σ37))))))) else (nd_bind (f_X11_settles F (10 : Int32) σ2) fun r39 σ40 => (nd_bind (f_X11_waits F (10 : Int32) σ40) fun r42 σ43 => (nd_bind (f_X11_reads F σ43) fun r45 σ46 => (rec9 x1 (1 : Int32) σ46)))))) else (nd_bind (f_X11_isWord F (6 : Int32) σ) fun r48 σ49 => (if r48 = 0 then (nd_bind (f_X11_isSign F (40 : Int32) σ49) fun r51 σ52 => (if r51 = 0 then (nd_bind (f_X11_readCompared F σ52) fun r54 σ55 => (if r54 = (-1 : Int32) then (some ((-1 : Int32), σ55)) else (nd_bind (f_X11_settles F (9 : Int32) σ55) fun r57 σ58 => (rec9 x1 (0 : Int32) σ58)))) else (f_X11_readAny_33 F rec9 x1 x2 r48 σ52))) else (f_X11_readAny_33 F rec9 x1 x2 r48 σ49))))
def f_X11_readAny_9 (F : Nat) : Nat → Int32 → Int32 → nd_Mem → nd_Res
  | 0, _, _, _ => none
  | m9 + 1, x1, x2, σ => f_X11_readAny_9_b F (f_X11_readAny_9 F m9) x1 x2 σ
def f_X11_readAny (F : Nat) (σ : nd_Mem) : nd_Res := (nd_let (nd_up σ 60 26 (0 : Int32)) fun σ1 => (f_X11_readAny_9 F F (0 : Int32) (1 : Int32) σ1))
set_option maxRecDepth 100000 in
set_option maxHeartbeats 4000000 in
theorem b_X11_readAny_78 (F : Nat) (rec9 : Int32 → Int32 → nd_Mem → nd_Res) (t : List nd_S) (hL : (nd_SH ++ t).length < nd_ro) {z : Int32 × nd_Mem} (hrec9 : ∀ (x1 : Int32) (x2 : Int32) (σ : nd_Mem), rec9 x1 x2 σ = some z → nd_V M_X11_readAny (nd_rm 7) (nd_Pi (nd_SH ++ t) z) 0 0 9 [(0, .ref 60), (1, .int x1), (2, .int x2)] [] (nd_SH ++ t) σ) (x1 : Int32) (x2 : Int32) (s0 : Int32) (σ : nd_Mem) (h : f_X11_readAny_78 F rec9 x1 x2 s0 σ = some z) : nd_V M_X11_readAny (nd_rm 7) (nd_Pi (nd_SH ++ t) z) 0 0 78 [(0, .ref 60), (1, .int x1), (2, .int x2)] [.int s0, .ref 60] (nd_SH ++ t) σ := by
  unfold f_X11_readAny_78 at h
  obtain ⟨r1, σ2, hc3, h⟩ := nd_bind_e h
  refine nd_cvv [.int s0] [] dX11_readAny_78 cl_X11_235 (sh_60 t) ⟨Nat.le_of_ble_eq_true rfl, Nat.le_of_ble_eq_true rfl⟩ rfl (Nat.le_of_ble_eq_true rfl) hL (t_X11_waits F t hL _ _ hc3) ?_
  refine nd_aload_n dX11_readAny_81 0 rfl ?_
  obtain ⟨r4, σ5, hc6, h⟩ := nd_bind_e h
  refine nd_cvv [] [] dX11_readAny_82 cl_X11_210 (sh_60 t) ⟨Nat.le_of_ble_eq_true rfl, Nat.le_of_ble_eq_true rfl⟩ rfl (Nat.le_of_ble_eq_true rfl) hL (t_X11_reads F t hL _ hc6) ?_
  refine nd_goto dX11_readAny_85 9 (by decide) ?_
  exact hrec9 _ _ _ h
set_option maxRecDepth 100000 in
set_option maxHeartbeats 4000000 in
theorem b_X11_readAny_66 (F : Nat) (rec9 : Int32 → Int32 → nd_Mem → nd_Res) (t : List nd_S) (hL : (nd_SH ++ t).length < nd_ro) {z : Int32 × nd_Mem} (hrec9 : ∀ (x1 : Int32) (x2 : Int32) (σ : nd_Mem), rec9 x1 x2 σ = some z → nd_V M_X11_readAny (nd_rm 7) (nd_Pi (nd_SH ++ t) z) 0 0 9 [(0, .ref 60), (1, .int x1), (2, .int x2)] [] (nd_SH ++ t) σ) (x1 : Int32) (x2 : Int32) (x3 : Int32) (σ : nd_Mem) (h : f_X11_readAny_66 F rec9 x1 x2 x3 σ = some z) : nd_V M_X11_readAny (nd_rm 7) (nd_Pi (nd_SH ++ t) z) 0 0 66 [(0, .ref 60), (1, .int x1), (2, .int x2), (3, .int x3)] [] (nd_SH ++ t) σ := by
  unfold f_X11_readAny_66 at h
  refine nd_aload_n dX11_readAny_66 0 rfl ?_
  refine nd_iload_n dX11_readAny_67 3 rfl ?_
  refine nd_if_eqN dX11_readAny_68 76 (by decide) h (fun h => ?_) (fun h => ?_)
  · refine nd_bipush dX11_readAny_76 ib_12 ?_
    refine nd_sub [0, 1, 2] rfl ?_
    exact b_X11_readAny_78 F _ t hL hrec9 _ _ _ _ h
  · refine nd_bipush dX11_readAny_71 ib_9 ?_
    refine nd_goto dX11_readAny_73 78 (by decide) ?_
    refine nd_sub [0, 1, 2] rfl ?_
    exact b_X11_readAny_78 F _ t hL hrec9 _ _ _ _ h
set_option maxRecDepth 100000 in
set_option maxHeartbeats 4000000 in
theorem b_X11_readAny_33 (F : Nat) (rec9 : Int32 → Int32 → nd_Mem → nd_Res) (t : List nd_S) (hL : (nd_SH ++ t).length < nd_ro) {z : Int32 × nd_Mem} (hrec9 : ∀ (x1 : Int32) (x2 : Int32) (σ : nd_Mem), rec9 x1 x2 σ = some z → nd_V M_X11_readAny (nd_rm 7) (nd_Pi (nd_SH ++ t) z) 0 0 9 [(0, .ref 60), (1, .int x1), (2, .int x2)] [] (nd_SH ++ t) σ) (x1 : Int32) (x2 : Int32) (x3 : Int32) (σ : nd_Mem) (h : f_X11_readAny_33 F rec9 x1 x2 x3 σ = some z) : nd_V M_X11_readAny (nd_rm 7) (nd_Pi (nd_SH ++ t) z) 0 0 33 [(0, .ref 60), (1, .int x1), (2, .int x2), (3, .int x3)] [] (nd_SH ++ t) σ := by
  unfold f_X11_readAny_33 at h
  refine nd_aload_n dX11_readAny_33 0 rfl ?_
  refine nd_get dX11_readAny_34 gf_X11_229 (sh_60 t) rfl ?_
  refine nd_bipush dX11_readAny_37 ib_8 ?_
  refine nd_icmp_neN dX11_readAny_39 48 (by decide) h (fun h => ?_) (fun h => ?_)
  · refine nd_aload_n dX11_readAny_48 0 rfl ?_
    refine nd_aload_n dX11_readAny_49 0 rfl ?_
    refine nd_get dX11_readAny_50 gf_X11_229 (sh_60 t) rfl ?_
    refine nd_iconst dX11_readAny_53 ic_1 ?_
    refine nd_iadd dX11_readAny_54 ?_
    refine nd_putiN dX11_readAny_55 pf_X11_229 (sh_60 t) rfl h (fun σ1 h => ?_)
    refine nd_iload_n dX11_readAny_58 3 rfl ?_
    refine nd_if_neN dX11_readAny_59 66 (by decide) h (fun h => ?_) (fun h => ?_)
    · exact b_X11_readAny_66 F _ t hL hrec9 _ _ _ _ h
    · refine nd_iload_n dX11_readAny_62 1 rfl ?_
      refine nd_iconst dX11_readAny_63 ic_1 ?_
      refine nd_iadd dX11_readAny_64 ?_
      refine nd_istore_n (ls' := [(1, .int (x1 + (1 : Int32))), (0, .ref 60), (2, .int x2), (3, .int x3)]) dX11_readAny_65 (by decide) rfl ?_
      refine nd_sub [1, 0, 2, 3] rfl ?_
      exact b_X11_readAny_66 F _ t hL hrec9 _ _ _ _ h
  · refine nd_aload_n dX11_readAny_42 0 rfl ?_
    refine nd_iconst dX11_readAny_43 ic_3 ?_
    obtain ⟨r2, σ3, hc4, h⟩ := nd_bind_e h
    refine nd_cvi [.int (3 : Int32)] [] dX11_readAny_44 cl_X11_203 (sh_60 t) ⟨Nat.le_of_ble_eq_true rfl, Nat.le_of_ble_eq_true rfl⟩ rfl (Nat.le_of_ble_eq_true rfl) hL (t_X11_errs F t hL _ _ hc4) ?_
    exact nd_iret dX11_readAny_47 (Nat.zero_le _) (Nat.zero_le _) (vp_nar_int _) (by cases h; exact ⟨rfl, rfl, rfl⟩)
set_option maxRecDepth 100000 in
set_option maxHeartbeats 4000000 in
theorem b_X11_readAny_9 (F : Nat) (t : List nd_S) (hL : (nd_SH ++ t).length < nd_ro) {z : Int32 × nd_Mem} (m9 : Nat) : ∀ (x1 : Int32) (x2 : Int32) (σ : nd_Mem), f_X11_readAny_9 F m9 x1 x2 σ = some z → nd_V M_X11_readAny (nd_rm 7) (nd_Pi (nd_SH ++ t) z) 0 0 9 [(0, .ref 60), (1, .int x1), (2, .int x2)] [] (nd_SH ++ t) σ := by
  induction m9 with
  | zero =>
    intro x1 x2 σ h
    have h : none = some z := h
    cases h
  | succ m9 hrec9 =>
    intro x1 x2 σ h
    have h : f_X11_readAny_9_b F (f_X11_readAny_9 F m9) x1 x2 σ = some z := h
    unfold f_X11_readAny_9_b at h
    refine nd_iload_n dX11_readAny_9 2 rfl ?_
    refine nd_if_eqN dX11_readAny_10 109 (by decide) h (fun h => ?_) (fun h => ?_)
    · refine nd_aload_n dX11_readAny_109 0 rfl ?_
      refine nd_iconst dX11_readAny_110 ic_5 ?_
      obtain ⟨r1, σ2, hc3, h⟩ := nd_bind_e h
      refine nd_cvi [.int (5 : Int32)] [] dX11_readAny_111 cl_X11_232 (sh_60 t) ⟨Nat.le_of_ble_eq_true rfl, Nat.le_of_ble_eq_true rfl⟩ rfl (Nat.le_of_ble_eq_true rfl) hL (t_X11_isWord F t hL _ _ hc3) ?_
      refine nd_if_eqN dX11_readAny_114 138 (by decide) h (fun h => ?_) (fun h => ?_)
      · refine nd_aload_n dX11_readAny_138 0 rfl ?_
        refine nd_iconst dX11_readAny_139 ic_4 ?_
        obtain ⟨r4, σ5, hc6, h⟩ := nd_bind_e h
        refine nd_cvi [.int (4 : Int32)] [] dX11_readAny_140 cl_X11_232 (sh_60 t) ⟨Nat.le_of_ble_eq_true rfl, Nat.le_of_ble_eq_true rfl⟩ rfl (Nat.le_of_ble_eq_true rfl) hL (t_X11_isWord F t hL _ _ hc6) ?_
        refine nd_if_eqN dX11_readAny_143 173 (by decide) h (fun h => ?_) (fun h => ?_)
        · refine nd_aload_n dX11_readAny_173 0 rfl ?_
          refine nd_bipush dX11_readAny_174 ib_10 ?_
          obtain ⟨r7, σ8, hc9, h⟩ := nd_bind_e h
          refine nd_cvv [.int (10 : Int32)] [] dX11_readAny_176 cl_X11_241 (sh_60 t) ⟨Nat.le_of_ble_eq_true rfl, Nat.le_of_ble_eq_true rfl⟩ rfl (Nat.le_of_ble_eq_true rfl) hL (t_X11_settles F t hL _ _ hc9) ?_
          refine nd_aload_n dX11_readAny_179 0 rfl ?_
          refine nd_bipush dX11_readAny_180 ib_11 ?_
          obtain ⟨r10, σ11, hc12, h⟩ := nd_bind_e h
          refine nd_cvv [.int (11 : Int32)] [] dX11_readAny_182 cl_X11_241 (sh_60 t) ⟨Nat.le_of_ble_eq_true rfl, Nat.le_of_ble_eq_true rfl⟩ rfl (Nat.le_of_ble_eq_true rfl) hL (t_X11_settles F t hL _ _ hc12) ?_
          refine nd_iload_n dX11_readAny_185 1 rfl ?_
          refine nd_if_neN dX11_readAny_186 191 (by decide) h (fun h => ?_) (fun h => ?_)
          · refine nd_aload_n dX11_readAny_191 0 rfl ?_
            refine nd_bipush dX11_readAny_192 ib_41 ?_
            obtain ⟨r13, σ14, hc15, h⟩ := nd_bind_e h
            refine nd_cvi [.int (41 : Int32)] [] dX11_readAny_194 cl_X11_217 (sh_60 t) ⟨Nat.le_of_ble_eq_true rfl, Nat.le_of_ble_eq_true rfl⟩ rfl (Nat.le_of_ble_eq_true rfl) hL (t_X11_isSign F t hL _ _ hc15) ?_
            refine nd_if_neN dX11_readAny_197 206 (by decide) h (fun h => ?_) (fun h => ?_)
            · refine nd_aload_n dX11_readAny_206 0 rfl ?_
              refine nd_aload_n dX11_readAny_207 0 rfl ?_
              refine nd_get dX11_readAny_208 gf_X11_226 (sh_60 t) rfl ?_
              refine nd_iconst dX11_readAny_211 ic_1 ?_
              refine nd_isub dX11_readAny_212 ?_
              refine nd_putiN dX11_readAny_213 pf_X11_226 (sh_60 t) rfl h (fun σ16 h => ?_)
              refine nd_iload_n dX11_readAny_216 1 rfl ?_
              refine nd_iconst dX11_readAny_217 ic_1 ?_
              refine nd_isub dX11_readAny_218 ?_
              refine nd_istore_n (ls' := [(1, .int (x1 - (1 : Int32))), (0, .ref 60), (2, .int x2)]) dX11_readAny_219 (by decide) rfl ?_
              refine nd_aload_n dX11_readAny_220 1 rfl ?_
              refine nd_aload_n dX11_readAny_221 1 rfl ?_
              refine nd_get dX11_readAny_222 gf_X11_229 (sh_60 t) rfl ?_
              refine nd_iconst dX11_readAny_225 ic_1 ?_
              refine nd_isub dX11_readAny_226 ?_
              refine nd_putiN dX11_readAny_227 pf_X11_229 (sh_60 t) rfl h (fun σ17 h => ?_)
              refine nd_aload_n dX11_readAny_230 1 rfl ?_
              refine nd_bipush dX11_readAny_231 ib_9 ?_
              obtain ⟨r18, σ19, hc20, h⟩ := nd_bind_e h
              refine nd_cvv [.int (9 : Int32)] [] dX11_readAny_233 cl_X11_241 (sh_60 t) ⟨Nat.le_of_ble_eq_true rfl, Nat.le_of_ble_eq_true rfl⟩ rfl (Nat.le_of_ble_eq_true rfl) hL (t_X11_settles F t hL _ _ hc20) ?_
              refine nd_aload_n dX11_readAny_236 1 rfl ?_
              obtain ⟨r21, σ22, hc23, h⟩ := nd_bind_e h
              refine nd_cvv [] [] dX11_readAny_237 cl_X11_210 (sh_60 t) ⟨Nat.le_of_ble_eq_true rfl, Nat.le_of_ble_eq_true rfl⟩ rfl (Nat.le_of_ble_eq_true rfl) hL (t_X11_reads F t hL _ hc23) ?_
              refine nd_goto dX11_readAny_240 9 (by decide) ?_
              refine nd_sub [1, 0, 2] rfl ?_
              exact hrec9 _ _ _ h
            · refine nd_aload_n dX11_readAny_200 0 rfl ?_
              refine nd_iconst dX11_readAny_201 ic_1 ?_
              obtain ⟨r24, σ25, hc26, h⟩ := nd_bind_e h
              refine nd_cvi [.int (1 : Int32)] [] dX11_readAny_202 cl_X11_203 (sh_60 t) ⟨Nat.le_of_ble_eq_true rfl, Nat.le_of_ble_eq_true rfl⟩ rfl (Nat.le_of_ble_eq_true rfl) hL (t_X11_errs F t hL _ _ hc26) ?_
              exact nd_iret dX11_readAny_205 (Nat.zero_le _) (Nat.zero_le _) (vp_nar_int _) (by cases h; exact ⟨rfl, rfl, rfl⟩)
          · refine nd_iconst dX11_readAny_189 ic_0 ?_
            exact nd_iret dX11_readAny_190 (Nat.zero_le _) (Nat.zero_le _) (vp_nar_int _) (by cases h; exact ⟨rfl, rfl, rfl⟩)
        · refine nd_aload_n dX11_readAny_146 0 rfl ?_
          refine nd_bipush dX11_readAny_147 ib_10 ?_
          obtain ⟨r27, σ28, hc29, h⟩ := nd_bind_e h
          refine nd_cvv [.int (10 : Int32)] [] dX11_readAny_149 cl_X11_241 (sh_60 t) ⟨Nat.le_of_ble_eq_true rfl, Nat.le_of_ble_eq_true rfl⟩ rfl (Nat.le_of_ble_eq_true rfl) hL (t_X11_settles F t hL _ _ hc29) ?_
          refine nd_aload_n dX11_readAny_152 0 rfl ?_
          refine nd_bipush dX11_readAny_153 ib_11 ?_
          obtain ⟨r30, σ31, hc32, h⟩ := nd_bind_e h
          refine nd_cvv [.int (11 : Int32)] [] dX11_readAny_155 cl_X11_241 (sh_60 t) ⟨Nat.le_of_ble_eq_true rfl, Nat.le_of_ble_eq_true rfl⟩ rfl (Nat.le_of_ble_eq_true rfl) hL (t_X11_settles F t hL _ _ hc32) ?_
          refine nd_aload_n dX11_readAny_158 0 rfl ?_
          refine nd_bipush dX11_readAny_159 ib_11 ?_
          obtain ⟨r33, σ34, hc35, h⟩ := nd_bind_e h
          refine nd_cvv [.int (11 : Int32)] [] dX11_readAny_161 cl_X11_235 (sh_60 t) ⟨Nat.le_of_ble_eq_true rfl, Nat.le_of_ble_eq_true rfl⟩ rfl (Nat.le_of_ble_eq_true rfl) hL (t_X11_waits F t hL _ _ hc35) ?_
          refine nd_aload_n dX11_readAny_164 0 rfl ?_
          obtain ⟨r36, σ37, hc38, h⟩ := nd_bind_e h
          refine nd_cvv [] [] dX11_readAny_165 cl_X11_210 (sh_60 t) ⟨Nat.le_of_ble_eq_true rfl, Nat.le_of_ble_eq_true rfl⟩ rfl (Nat.le_of_ble_eq_true rfl) hL (t_X11_reads F t hL _ hc38) ?_
          refine nd_iconst dX11_readAny_168 ic_1 ?_
          refine nd_istore_n (ls' := [(2, .int (1 : Int32)), (0, .ref 60), (1, .int x1)]) dX11_readAny_169 (by decide) rfl ?_
          refine nd_goto dX11_readAny_170 9 (by decide) ?_
          refine nd_sub [1, 2, 0] rfl ?_
          exact hrec9 _ _ _ h
      · refine nd_aload_n dX11_readAny_117 0 rfl ?_
        refine nd_bipush dX11_readAny_118 ib_10 ?_
        obtain ⟨r39, σ40, hc41, h⟩ := nd_bind_e h
        refine nd_cvv [.int (10 : Int32)] [] dX11_readAny_120 cl_X11_241 (sh_60 t) ⟨Nat.le_of_ble_eq_true rfl, Nat.le_of_ble_eq_true rfl⟩ rfl (Nat.le_of_ble_eq_true rfl) hL (t_X11_settles F t hL _ _ hc41) ?_
        refine nd_aload_n dX11_readAny_123 0 rfl ?_
        refine nd_bipush dX11_readAny_124 ib_10 ?_
        obtain ⟨r42, σ43, hc44, h⟩ := nd_bind_e h
        refine nd_cvv [.int (10 : Int32)] [] dX11_readAny_126 cl_X11_235 (sh_60 t) ⟨Nat.le_of_ble_eq_true rfl, Nat.le_of_ble_eq_true rfl⟩ rfl (Nat.le_of_ble_eq_true rfl) hL (t_X11_waits F t hL _ _ hc44) ?_
        refine nd_aload_n dX11_readAny_129 0 rfl ?_
        obtain ⟨r45, σ46, hc47, h⟩ := nd_bind_e h
        refine nd_cvv [] [] dX11_readAny_130 cl_X11_210 (sh_60 t) ⟨Nat.le_of_ble_eq_true rfl, Nat.le_of_ble_eq_true rfl⟩ rfl (Nat.le_of_ble_eq_true rfl) hL (t_X11_reads F t hL _ hc47) ?_
        refine nd_iconst dX11_readAny_133 ic_1 ?_
        refine nd_istore_n (ls' := [(2, .int (1 : Int32)), (0, .ref 60), (1, .int x1)]) dX11_readAny_134 (by decide) rfl ?_
        refine nd_goto dX11_readAny_135 9 (by decide) ?_
        refine nd_sub [1, 2, 0] rfl ?_
        exact hrec9 _ _ _ h
    · refine nd_aload_n dX11_readAny_13 0 rfl ?_
      refine nd_bipush dX11_readAny_14 ib_6 ?_
      obtain ⟨r48, σ49, hc50, h⟩ := nd_bind_e h
      refine nd_cvi [.int (6 : Int32)] [] dX11_readAny_16 cl_X11_232 (sh_60 t) ⟨Nat.le_of_ble_eq_true rfl, Nat.le_of_ble_eq_true rfl⟩ rfl (Nat.le_of_ble_eq_true rfl) hL (t_X11_isWord F t hL _ _ hc50) ?_
      refine nd_istore_n (ls' := [(3, .int r48), (0, .ref 60), (1, .int x1), (2, .int x2)]) dX11_readAny_19 (by decide) rfl ?_
      refine nd_iload_n dX11_readAny_20 0 rfl ?_
      refine nd_if_neN dX11_readAny_21 33 (by decide) h (fun h => ?_) (fun h => ?_)
      · refine nd_sub [1, 2, 3, 0] rfl ?_
        exact b_X11_readAny_33 F _ t hL hrec9 _ _ _ _ h
      · refine nd_aload_n dX11_readAny_24 1 rfl ?_
        refine nd_bipush dX11_readAny_25 ib_40 ?_
        obtain ⟨r51, σ52, hc53, h⟩ := nd_bind_e h
        refine nd_cvi [.int (40 : Int32)] [] dX11_readAny_27 cl_X11_217 (sh_60 t) ⟨Nat.le_of_ble_eq_true rfl, Nat.le_of_ble_eq_true rfl⟩ rfl (Nat.le_of_ble_eq_true rfl) hL (t_X11_isSign F t hL _ _ hc53) ?_
        refine nd_if_eqN dX11_readAny_30 88 (by decide) h (fun h => ?_) (fun h => ?_)
        · refine nd_aload_n dX11_readAny_88 1 rfl ?_
          obtain ⟨r54, σ55, hc56, h⟩ := nd_bind_e h
          refine nd_cvi [] [] dX11_readAny_89 cl_X11_238 (sh_60 t) ⟨Nat.le_of_ble_eq_true rfl, Nat.le_of_ble_eq_true rfl⟩ rfl (Nat.le_of_ble_eq_true rfl) hL (t_X11_readCompared F t hL _ hc56) ?_
          refine nd_iconst dX11_readAny_92 ic_m1 ?_
          refine nd_icmp_neN dX11_readAny_93 98 (by decide) h (fun h => ?_) (fun h => ?_)
          · refine nd_aload_n dX11_readAny_98 1 rfl ?_
            refine nd_bipush dX11_readAny_99 ib_9 ?_
            obtain ⟨r57, σ58, hc59, h⟩ := nd_bind_e h
            refine nd_cvv [.int (9 : Int32)] [] dX11_readAny_101 cl_X11_241 (sh_60 t) ⟨Nat.le_of_ble_eq_true rfl, Nat.le_of_ble_eq_true rfl⟩ rfl (Nat.le_of_ble_eq_true rfl) hL (t_X11_settles F t hL _ _ hc59) ?_
            refine nd_iconst dX11_readAny_104 ic_0 ?_
            refine nd_istore_n (ls' := [(2, .int (0 : Int32)), (3, .int r48), (0, .ref 60), (1, .int x1)]) dX11_readAny_105 (by decide) rfl ?_
            refine nd_goto dX11_readAny_106 9 (by decide) ?_
            refine nd_sub [2, 3, 0] rfl ?_
            exact hrec9 _ _ _ h
          · refine nd_iconst dX11_readAny_96 ic_m1 ?_
            exact nd_iret dX11_readAny_97 (Nat.zero_le _) (Nat.zero_le _) (vp_nar_int _) (by cases h; exact ⟨rfl, rfl, rfl⟩)
        · refine nd_sub [1, 2, 3, 0] rfl ?_
          exact b_X11_readAny_33 F _ t hL hrec9 _ _ _ _ h
set_option maxRecDepth 100000 in
set_option maxHeartbeats 4000000 in
theorem t_X11_readAny (F : Nat) (t : List nd_S) (hL : (nd_SH ++ t).length < nd_ro) {z : Int32 × nd_Mem} (σ : nd_Mem) (h : f_X11_readAny F σ = some z) : nd_Fn M_X11_readAny (nd_rm 7) [.ref 60] (nd_SH ++ t) σ (nd_Pi (nd_SH ++ t) z) := by
  refine nd_Fn.ofV (ls := [(0, .ref 60)]) pl_X11_readAny rfl (fun _ => Nat.le_of_ble_eq_true rfl) (fun _ => rfl) ?_
  unfold f_X11_readAny at h
  refine nd_iconst dX11_readAny_0 ic_0 ?_
  refine nd_istore_n (ls' := [(1, .int (0 : Int32)), (0, .ref 60)]) dX11_readAny_1 (by decide) rfl ?_
  refine nd_aload_n dX11_readAny_2 1 rfl ?_
  refine nd_iconst dX11_readAny_3 ic_0 ?_
  refine nd_putiN dX11_readAny_4 pf_X11_226 (sh_60 t) rfl h (fun σ1 h => ?_)
  refine nd_iconst dX11_readAny_7 ic_1 ?_
  refine nd_istore_n (ls' := [(2, .int (1 : Int32)), (1, .int (0 : Int32)), (0, .ref 60)]) dX11_readAny_8 (by decide) rfl ?_
  refine nd_sub [2, 1, 0] rfl ?_
  exact b_X11_readAny_9 F t hL F _ _ _ h
def f_X11_goes_26 (F : Nat) (σ : nd_Mem) : nd_Res := (some ((-1 : Int32), σ))
def f_X11_goes_129 (F : Nat) (x3 : Int32) (σ : nd_Mem) : nd_Res := (nd_bind (f_X11_endsThought F σ) fun r1 σ2 => (some (x3, σ2)))
def f_X11_goes_96_b (F : Nat) (rec96 : Int32 → Int32 → Int32 → nd_Mem → nd_Res) (x2 : Int32) (x3 : Int32) (x4 : Int32) (σ : nd_Mem) : nd_Res := (if (σ 60 6) ≤ x4 then (f_X11_goes_129 F x3 σ) else (if x2 = (3 : Int32) then (if ((55 : Int32) + x4) < 0 ∨ 103 ≤ (((55 : Int32) + x4)).toNatClampNeg then none else (rec96 x2 (x3 + (σ 61 (((55 : Int32) + x4)).toNatClampNeg)) (x4 + (1 : Int32)) σ)) else (f_X11_goes_129 F x3 σ)))
def f_X11_goes_96 (F : Nat) : Nat → Int32 → Int32 → Int32 → nd_Mem → nd_Res
  | 0, _, _, _, _ => none
  | m9 + 1, x2, x3, x4, σ => f_X11_goes_96_b F (f_X11_goes_96 F m9) x2 x3 x4 σ
def f_X11_goes_92 (F : Nat) (x2 : Int32) (s0 : Int32) (σ : nd_Mem) : nd_Res := (f_X11_goes_96 F F x2 s0 (0 : Int32) σ)
def f_X11_goes_34_b (F : Nat) (rec34 : Int32 → Int32 → Int32 → nd_Mem → nd_Res) (x1 : Int32) (x2 : Int32) (x3 : Int32) (σ : nd_Mem) : nd_Res := (if x1 ≤ x3 then (if x2 = 0 then (if (5 : Int32) < 0 ∨ 103 ≤ ((5 : Int32)).toNatClampNeg then none else (f_X11_goes_92 F x2 (σ 61 ((5 : Int32)).toNatClampNeg) σ)) else (if x2 = (1 : Int32) then (if (3 : Int32) < 0 ∨ 103 ≤ ((3 : Int32)).toNatClampNeg then none else (f_X11_goes_92 F x2 (σ 61 ((3 : Int32)).toNatClampNeg) σ)) else (if x2 = (2 : Int32) then (if (4 : Int32) < 0 ∨ 103 ≤ ((4 : Int32)).toNatClampNeg then none else (f_X11_goes_92 F x2 (σ 61 ((4 : Int32)).toNatClampNeg) σ)) else (f_X11_goes_92 F x2 (0 : Int32) σ)))) else (nd_bind (f_X11_goesBy F σ) fun r1 σ2 => (rec34 x1 x2 (x3 + (1 : Int32)) σ2)))
def f_X11_goes_34 (F : Nat) : Nat → Int32 → Int32 → Int32 → nd_Mem → nd_Res
  | 0, _, _, _, _ => none
  | m9 + 1, x1, x2, x3, σ => f_X11_goes_34_b F (f_X11_goes_34 F m9) x1 x2 x3 σ
def f_X11_goes (F : Nat) (x1 : Int32) (x2 : Int32) (σ : nd_Mem) : nd_Res := (nd_let (nd_up σ 60 0 (0 : Int32)) fun σ1 => (nd_bind (f_X11_isIn F x1 (1 : Int32) (60 : Int32) σ1) fun r2 σ3 => (if r2 = 0 then (f_X11_goes_26 F σ3) else (nd_bind (f_X11_isIn F x2 (0 : Int32) (3 : Int32) σ3) fun r5 σ6 => (if r5 = 0 then (f_X11_goes_26 F σ6) else (nd_bind (f_X11_thinks F σ6) fun r8 σ9 => (f_X11_goes_34 F F x1 x2 (0 : Int32) σ9)))))))
set_option maxRecDepth 100000 in
set_option maxHeartbeats 4000000 in
theorem b_X11_goes_26 (F : Nat) (t : List nd_S) (hL : (nd_SH ++ t).length < nd_ro) {z : Int32 × nd_Mem} (σ : nd_Mem) (h : f_X11_goes_26 F σ = some z) : nd_V M_X11_goes (nd_rm 8) (nd_Pi (nd_SH ++ t) z) 0 0 26 [(0, .ref 60)] [] (nd_SH ++ t) σ := by
  unfold f_X11_goes_26 at h
  refine nd_iconst dX11_goes_26 ic_m1 ?_
  exact nd_iret dX11_goes_27 (Nat.zero_le _) (Nat.zero_le _) (vp_nar_int _) (by cases h; exact ⟨rfl, rfl, rfl⟩)
set_option maxRecDepth 100000 in
set_option maxHeartbeats 4000000 in
theorem b_X11_goes_129 (F : Nat) (t : List nd_S) (hL : (nd_SH ++ t).length < nd_ro) {z : Int32 × nd_Mem} (x3 : Int32) (σ : nd_Mem) (h : f_X11_goes_129 F x3 σ = some z) : nd_V M_X11_goes (nd_rm 8) (nd_Pi (nd_SH ++ t) z) 0 0 129 [(0, .ref 60), (3, .int x3)] [] (nd_SH ++ t) σ := by
  unfold f_X11_goes_129 at h
  refine nd_aload_n dX11_goes_129 0 rfl ?_
  obtain ⟨r1, σ2, hc3, h⟩ := nd_bind_e h
  refine nd_cvv [] [] dX11_goes_130 cl_X11_384 (sh_60 t) ⟨Nat.le_of_ble_eq_true rfl, Nat.le_of_ble_eq_true rfl⟩ rfl (Nat.le_of_ble_eq_true rfl) hL (t_X11_endsThought F t hL _ hc3) ?_
  refine nd_iload_n dX11_goes_133 1 rfl ?_
  exact nd_iret dX11_goes_134 (Nat.zero_le _) (Nat.zero_le _) (vp_nar_int _) (by cases h; exact ⟨rfl, rfl, rfl⟩)
set_option maxRecDepth 100000 in
set_option maxHeartbeats 4000000 in
theorem b_X11_goes_96 (F : Nat) (t : List nd_S) (hL : (nd_SH ++ t).length < nd_ro) {z : Int32 × nd_Mem} (m9 : Nat) : ∀ (x2 : Int32) (x3 : Int32) (x4 : Int32) (σ : nd_Mem), f_X11_goes_96 F m9 x2 x3 x4 σ = some z → nd_V M_X11_goes (nd_rm 8) (nd_Pi (nd_SH ++ t) z) 0 0 96 [(0, .ref 60), (2, .int x2), (3, .int x3), (4, .int x4)] [] (nd_SH ++ t) σ := by
  induction m9 with
  | zero =>
    intro x2 x3 x4 σ h
    have h : none = some z := h
    cases h
  | succ m9 hrec96 =>
    intro x2 x3 x4 σ h
    have h : f_X11_goes_96_b F (f_X11_goes_96 F m9) x2 x3 x4 σ = some z := h
    unfold f_X11_goes_96_b at h
    refine nd_iload dX11_goes_96 3 rfl ?_
    refine nd_aload_n dX11_goes_98 0 rfl ?_
    refine nd_get dX11_goes_99 gf_X11_144 (sh_60 t) rfl ?_
    refine nd_icmp_geN dX11_goes_102 129 (by decide) h (fun h => ?_) (fun h => ?_)
    · refine nd_sub [0, 2] rfl ?_
      exact b_X11_goes_129 F t hL _ _ h
    · refine nd_iload_n dX11_goes_105 1 rfl ?_
      refine nd_iconst dX11_goes_106 ic_3 ?_
      refine nd_icmp_neN dX11_goes_107 129 (by decide) h (fun h => ?_) (fun h => ?_)
      · refine nd_sub [0, 2] rfl ?_
        exact b_X11_goes_129 F t hL _ _ h
      · refine nd_iload_n dX11_goes_110 2 rfl ?_
        refine nd_aload_n dX11_goes_111 0 rfl ?_
        refine nd_get dX11_goes_112 gf_X11_7 (sh_60 t) rfl ?_
        refine nd_bipush dX11_goes_115 ib_55 ?_
        refine nd_iload dX11_goes_117 3 rfl ?_
        refine nd_iadd dX11_goes_119 ?_
        refine nd_ialoadN dX11_goes_120 (sh_61 t) h (fun h => ?_)
        refine nd_iadd dX11_goes_121 ?_
        refine nd_istore_n (ls' := [(3, .int (x3 + (σ 61 (((55 : Int32) + x4)).toNatClampNeg))), (0, .ref 60), (2, .int x2), (4, .int x4)]) dX11_goes_122 (by decide) rfl ?_
        refine nd_iinc (v := (x4 + (1 : Int32))) (ls' := [(4, .int (x4 + (1 : Int32))), (3, .int (x3 + (σ 61 (((55 : Int32) + x4)).toNatClampNeg))), (0, .ref 60), (2, .int x2)]) dX11_goes_123 3 rfl (congrArg (HAdd.hAdd _) ic_1) (by decide) rfl ?_
        refine nd_goto dX11_goes_126 96 (by decide) ?_
        refine nd_sub [2, 3, 1, 0] rfl ?_
        exact hrec96 _ _ _ _ h
set_option maxRecDepth 100000 in
set_option maxHeartbeats 4000000 in
theorem b_X11_goes_92 (F : Nat) (t : List nd_S) (hL : (nd_SH ++ t).length < nd_ro) {z : Int32 × nd_Mem} (x2 : Int32) (s0 : Int32) (σ : nd_Mem) (h : f_X11_goes_92 F x2 s0 σ = some z) : nd_V M_X11_goes (nd_rm 8) (nd_Pi (nd_SH ++ t) z) 0 0 92 [(0, .ref 60), (2, .int x2)] [.int s0] (nd_SH ++ t) σ := by
  unfold f_X11_goes_92 at h
  refine nd_istore_n (ls' := [(3, .int s0), (0, .ref 60), (2, .int x2)]) dX11_goes_92 (by decide) rfl ?_
  refine nd_iconst dX11_goes_93 ic_0 ?_
  refine nd_istore (ls' := [(4, .int (0 : Int32)), (3, .int s0), (0, .ref 60), (2, .int x2)]) dX11_goes_94 (by decide) rfl ?_
  refine nd_sub [2, 3, 1, 0] rfl ?_
  exact b_X11_goes_96 F t hL F _ _ _ _ h
set_option maxRecDepth 100000 in
set_option maxHeartbeats 4000000 in
theorem b_X11_goes_34 (F : Nat) (t : List nd_S) (hL : (nd_SH ++ t).length < nd_ro) {z : Int32 × nd_Mem} (m9 : Nat) : ∀ (x1 : Int32) (x2 : Int32) (x3 : Int32) (σ : nd_Mem), f_X11_goes_34 F m9 x1 x2 x3 σ = some z → nd_V M_X11_goes (nd_rm 8) (nd_Pi (nd_SH ++ t) z) 0 0 34 [(0, .ref 60), (1, .int x1), (2, .int x2), (3, .int x3)] [] (nd_SH ++ t) σ := by
  induction m9 with
  | zero =>
    intro x1 x2 x3 σ h
    have h : none = some z := h
    cases h
  | succ m9 hrec34 =>
    intro x1 x2 x3 σ h
    have h : f_X11_goes_34_b F (f_X11_goes_34 F m9) x1 x2 x3 σ = some z := h
    unfold f_X11_goes_34_b at h
    refine nd_iload_n dX11_goes_34 3 rfl ?_
    refine nd_iload_n dX11_goes_35 1 rfl ?_
    refine nd_icmp_geN dX11_goes_36 50 (by decide) h (fun h => ?_) (fun h => ?_)
    · refine nd_iload_n dX11_goes_50 2 rfl ?_
      refine nd_if_neN dX11_goes_51 63 (by decide) h (fun h => ?_) (fun h => ?_)
      · refine nd_iload_n dX11_goes_63 2 rfl ?_
        refine nd_iconst dX11_goes_64 ic_1 ?_
        refine nd_icmp_neN dX11_goes_65 77 (by decide) h (fun h => ?_) (fun h => ?_)
        · refine nd_iload_n dX11_goes_77 2 rfl ?_
          refine nd_iconst dX11_goes_78 ic_2 ?_
          refine nd_icmp_neN dX11_goes_79 91 (by decide) h (fun h => ?_) (fun h => ?_)
          · refine nd_iconst dX11_goes_91 ic_0 ?_
            refine nd_sub [0, 2] rfl ?_
            exact b_X11_goes_92 F t hL _ _ _ h
          · refine nd_aload_n dX11_goes_82 0 rfl ?_
            refine nd_get dX11_goes_83 gf_X11_7 (sh_60 t) rfl ?_
            refine nd_iconst dX11_goes_86 ic_4 ?_
            refine nd_ialoadN dX11_goes_87 (sh_61 t) h (fun h => ?_)
            refine nd_goto dX11_goes_88 92 (by decide) ?_
            refine nd_sub [0, 2] rfl ?_
            exact b_X11_goes_92 F t hL _ _ _ h
        · refine nd_aload_n dX11_goes_68 0 rfl ?_
          refine nd_get dX11_goes_69 gf_X11_7 (sh_60 t) rfl ?_
          refine nd_iconst dX11_goes_72 ic_3 ?_
          refine nd_ialoadN dX11_goes_73 (sh_61 t) h (fun h => ?_)
          refine nd_goto dX11_goes_74 92 (by decide) ?_
          refine nd_sub [0, 2] rfl ?_
          exact b_X11_goes_92 F t hL _ _ _ h
      · refine nd_aload_n dX11_goes_54 0 rfl ?_
        refine nd_get dX11_goes_55 gf_X11_7 (sh_60 t) rfl ?_
        refine nd_iconst dX11_goes_58 ic_5 ?_
        refine nd_ialoadN dX11_goes_59 (sh_61 t) h (fun h => ?_)
        refine nd_goto dX11_goes_60 92 (by decide) ?_
        refine nd_sub [0, 2] rfl ?_
        exact b_X11_goes_92 F t hL _ _ _ h
    · refine nd_aload_n dX11_goes_39 0 rfl ?_
      obtain ⟨r1, σ2, hc3, h⟩ := nd_bind_e h
      refine nd_cvi [] [] dX11_goes_40 cl_X11_378 (sh_60 t) ⟨Nat.le_of_ble_eq_true rfl, Nat.le_of_ble_eq_true rfl⟩ rfl (Nat.le_of_ble_eq_true rfl) hL (t_X11_goesBy F t hL _ hc3) ?_
      refine nd_pop dX11_goes_43 rfl ?_
      refine nd_iinc (v := (x3 + (1 : Int32))) (ls' := [(3, .int (x3 + (1 : Int32))), (0, .ref 60), (1, .int x1), (2, .int x2)]) dX11_goes_44 3 rfl (congrArg (HAdd.hAdd _) ic_1) (by decide) rfl ?_
      refine nd_goto dX11_goes_47 34 (by decide) ?_
      refine nd_sub [1, 2, 3, 0] rfl ?_
      exact hrec34 _ _ _ _ h
set_option maxRecDepth 100000 in
set_option maxHeartbeats 4000000 in
theorem t_X11_goes (F : Nat) (t : List nd_S) (hL : (nd_SH ++ t).length < nd_ro) {z : Int32 × nd_Mem} (x1 : Int32) (x2 : Int32) (σ : nd_Mem) (h : f_X11_goes F x1 x2 σ = some z) : nd_Fn M_X11_goes (nd_rm 8) [.ref 60, .int x1, .int x2] (nd_SH ++ t) σ (nd_Pi (nd_SH ++ t) z) := by
  refine nd_Fn.ofV (ls := [(0, .ref 60), (1, .int x1), (2, .int x2)]) pl_X11_goes rfl (fun _ => Nat.le_of_ble_eq_true rfl) (fun _ => rfl) ?_
  unfold f_X11_goes at h
  refine nd_aload_n dX11_goes_0 0 rfl ?_
  refine nd_iconst dX11_goes_1 ic_0 ?_
  refine nd_putiN dX11_goes_2 pf_X11_132 (sh_60 t) rfl h (fun σ1 h => ?_)
  refine nd_aload_n dX11_goes_5 0 rfl ?_
  refine nd_iload_n dX11_goes_6 1 rfl ?_
  refine nd_iconst dX11_goes_7 ic_1 ?_
  refine nd_bipush dX11_goes_8 ib_60 ?_
  obtain ⟨r2, σ3, hc4, h⟩ := nd_bind_e h
  refine nd_cvi [.int x1, .int (1 : Int32), .int (60 : Int32)] [] dX11_goes_10 cl_X11_147 (sh_60 t) ⟨Nat.le_of_ble_eq_true rfl, Nat.le_of_ble_eq_true rfl⟩ rfl (Nat.le_of_ble_eq_true rfl) hL (t_X11_isIn F t hL _ _ _ _ hc4) ?_
  refine nd_if_eqN dX11_goes_13 26 (by decide) h (fun h => ?_) (fun h => ?_)
  · refine nd_sub [0] rfl ?_
    exact b_X11_goes_26 F t hL _ h
  · refine nd_aload_n dX11_goes_16 0 rfl ?_
    refine nd_iload_n dX11_goes_17 2 rfl ?_
    refine nd_iconst dX11_goes_18 ic_0 ?_
    refine nd_iconst dX11_goes_19 ic_3 ?_
    obtain ⟨r5, σ6, hc7, h⟩ := nd_bind_e h
    refine nd_cvi [.int x2, .int (0 : Int32), .int (3 : Int32)] [] dX11_goes_20 cl_X11_147 (sh_60 t) ⟨Nat.le_of_ble_eq_true rfl, Nat.le_of_ble_eq_true rfl⟩ rfl (Nat.le_of_ble_eq_true rfl) hL (t_X11_isIn F t hL _ _ _ _ hc7) ?_
    refine nd_if_neN dX11_goes_23 28 (by decide) h (fun h => ?_) (fun h => ?_)
    · refine nd_aload_n dX11_goes_28 0 rfl ?_
      obtain ⟨r8, σ9, hc10, h⟩ := nd_bind_e h
      refine nd_cvv [] [] dX11_goes_29 cl_X11_381 (sh_60 t) ⟨Nat.le_of_ble_eq_true rfl, Nat.le_of_ble_eq_true rfl⟩ rfl (Nat.le_of_ble_eq_true rfl) hL (t_X11_thinks F t hL _ hc10) ?_
      refine nd_iconst dX11_goes_32 ic_0 ?_
      refine nd_istore_n (ls' := [(3, .int (0 : Int32)), (0, .ref 60), (1, .int x1), (2, .int x2)]) dX11_goes_33 (by decide) rfl ?_
      refine nd_sub [1, 2, 3, 0] rfl ?_
      exact b_X11_goes_34 F t hL F _ _ _ _ h
    · refine nd_sub [0] rfl ?_
      exact b_X11_goes_26 F t hL _ h
def f_X11_jug_50 (F : Nat) (x2 : Int32) (σ : nd_Mem) : nd_Res := (nd_bind (f_X11_endsThought F σ) fun r1 σ2 => (if x2 ≤ (60 : Int32) then (some (x2, σ2)) else (some ((-1 : Int32), σ2))))
def f_X11_jug_21_b (F : Nat) (rec21 : Int32 → Int32 → nd_Mem → nd_Res) (x1 : Int32) (x2 : Int32) (σ : nd_Mem) : nd_Res := (if (60 : Int32) < x2 then (f_X11_jug_50 F x2 σ) else (if (6 : Int32) < 0 ∨ 103 ≤ ((6 : Int32)).toNatClampNeg then none else (if (σ 61 ((6 : Int32)).toNatClampNeg) = x1 then (f_X11_jug_50 F x2 σ) else (nd_bind (f_X11_goesBy F σ) fun r1 σ2 => (rec21 x1 (x2 + (1 : Int32)) σ2)))))
def f_X11_jug_21 (F : Nat) : Nat → Int32 → Int32 → nd_Mem → nd_Res
  | 0, _, _, _ => none
  | m9 + 1, x1, x2, σ => f_X11_jug_21_b F (f_X11_jug_21 F m9) x1 x2 σ
def f_X11_jug (F : Nat) (x1 : Int32) (σ : nd_Mem) : nd_Res := (nd_let (nd_up σ 60 0 (0 : Int32)) fun σ1 => (nd_bind (f_X11_isHouse F x1 σ1) fun r2 σ3 => (if r2 = 0 then (some ((-1 : Int32), σ3)) else (nd_bind (f_X11_thinks F σ3) fun r5 σ6 => (f_X11_jug_21 F F x1 (0 : Int32) σ6)))))
set_option maxRecDepth 100000 in
set_option maxHeartbeats 4000000 in
theorem b_X11_jug_50 (F : Nat) (t : List nd_S) (hL : (nd_SH ++ t).length < nd_ro) {z : Int32 × nd_Mem} (x2 : Int32) (σ : nd_Mem) (h : f_X11_jug_50 F x2 σ = some z) : nd_V M_X11_jug (nd_rm 8) (nd_Pi (nd_SH ++ t) z) 0 0 50 [(0, .ref 60), (2, .int x2)] [] (nd_SH ++ t) σ := by
  unfold f_X11_jug_50 at h
  refine nd_aload_n dX11_jug_50 0 rfl ?_
  obtain ⟨r1, σ2, hc3, h⟩ := nd_bind_e h
  refine nd_cvv [] [] dX11_jug_51 cl_X11_384 (sh_60 t) ⟨Nat.le_of_ble_eq_true rfl, Nat.le_of_ble_eq_true rfl⟩ rfl (Nat.le_of_ble_eq_true rfl) hL (t_X11_endsThought F t hL _ hc3) ?_
  refine nd_iload_n dX11_jug_54 1 rfl ?_
  refine nd_bipush dX11_jug_55 ib_60 ?_
  refine nd_icmp_leN dX11_jug_57 64 (by decide) h (fun h => ?_) (fun h => ?_)
  · refine nd_iload_n dX11_jug_64 1 rfl ?_
    exact nd_iret dX11_jug_65 (Nat.zero_le _) (Nat.zero_le _) (vp_nar_int _) (by cases h; exact ⟨rfl, rfl, rfl⟩)
  · refine nd_iconst dX11_jug_60 ic_m1 ?_
    refine nd_goto dX11_jug_61 65 (by decide) ?_
    exact nd_iret dX11_jug_65 (Nat.zero_le _) (Nat.zero_le _) (vp_nar_int _) (by cases h; exact ⟨rfl, rfl, rfl⟩)
set_option maxRecDepth 100000 in
set_option maxHeartbeats 4000000 in
theorem b_X11_jug_21 (F : Nat) (t : List nd_S) (hL : (nd_SH ++ t).length < nd_ro) {z : Int32 × nd_Mem} (m9 : Nat) : ∀ (x1 : Int32) (x2 : Int32) (σ : nd_Mem), f_X11_jug_21 F m9 x1 x2 σ = some z → nd_V M_X11_jug (nd_rm 8) (nd_Pi (nd_SH ++ t) z) 0 0 21 [(0, .ref 60), (1, .int x1), (2, .int x2)] [] (nd_SH ++ t) σ := by
  induction m9 with
  | zero =>
    intro x1 x2 σ h
    have h : none = some z := h
    cases h
  | succ m9 hrec21 =>
    intro x1 x2 σ h
    have h : f_X11_jug_21_b F (f_X11_jug_21 F m9) x1 x2 σ = some z := h
    unfold f_X11_jug_21_b at h
    refine nd_iload_n dX11_jug_21 2 rfl ?_
    refine nd_bipush dX11_jug_22 ib_60 ?_
    refine nd_icmp_gtN dX11_jug_24 50 (by decide) h (fun h => ?_) (fun h => ?_)
    · refine nd_sub [0, 2] rfl ?_
      exact b_X11_jug_50 F t hL _ _ h
    · refine nd_aload_n dX11_jug_27 0 rfl ?_
      refine nd_get dX11_jug_28 gf_X11_7 (sh_60 t) rfl ?_
      refine nd_bipush dX11_jug_31 ib_6 ?_
      refine nd_ialoadN dX11_jug_33 (sh_61 t) h (fun h => ?_)
      refine nd_iload_n dX11_jug_34 1 rfl ?_
      refine nd_icmp_eqN dX11_jug_35 50 (by decide) h (fun h => ?_) (fun h => ?_)
      · refine nd_sub [0, 2] rfl ?_
        exact b_X11_jug_50 F t hL _ _ h
      · refine nd_aload_n dX11_jug_38 0 rfl ?_
        obtain ⟨r1, σ2, hc3, h⟩ := nd_bind_e h
        refine nd_cvi [] [] dX11_jug_39 cl_X11_378 (sh_60 t) ⟨Nat.le_of_ble_eq_true rfl, Nat.le_of_ble_eq_true rfl⟩ rfl (Nat.le_of_ble_eq_true rfl) hL (t_X11_goesBy F t hL _ hc3) ?_
        refine nd_pop dX11_jug_42 rfl ?_
        refine nd_iload_n dX11_jug_43 2 rfl ?_
        refine nd_iconst dX11_jug_44 ic_1 ?_
        refine nd_iadd dX11_jug_45 ?_
        refine nd_istore_n (ls' := [(2, .int (x2 + (1 : Int32))), (0, .ref 60), (1, .int x1)]) dX11_jug_46 (by decide) rfl ?_
        refine nd_goto dX11_jug_47 21 (by decide) ?_
        refine nd_sub [1, 2, 0] rfl ?_
        exact hrec21 _ _ _ h
set_option maxRecDepth 100000 in
set_option maxHeartbeats 4000000 in
theorem t_X11_jug (F : Nat) (t : List nd_S) (hL : (nd_SH ++ t).length < nd_ro) {z : Int32 × nd_Mem} (x1 : Int32) (σ : nd_Mem) (h : f_X11_jug F x1 σ = some z) : nd_Fn M_X11_jug (nd_rm 8) [.ref 60, .int x1] (nd_SH ++ t) σ (nd_Pi (nd_SH ++ t) z) := by
  refine nd_Fn.ofV (ls := [(0, .ref 60), (1, .int x1)]) pl_X11_jug rfl (fun _ => Nat.le_of_ble_eq_true rfl) (fun _ => rfl) ?_
  unfold f_X11_jug at h
  refine nd_aload_n dX11_jug_0 0 rfl ?_
  refine nd_iconst dX11_jug_1 ic_0 ?_
  refine nd_putiN dX11_jug_2 pf_X11_132 (sh_60 t) rfl h (fun σ1 h => ?_)
  refine nd_aload_n dX11_jug_5 0 rfl ?_
  refine nd_iload_n dX11_jug_6 1 rfl ?_
  obtain ⟨r2, σ3, hc4, h⟩ := nd_bind_e h
  refine nd_cvi [.int x1] [] dX11_jug_7 cl_X11_151 (sh_60 t) ⟨Nat.le_of_ble_eq_true rfl, Nat.le_of_ble_eq_true rfl⟩ rfl (Nat.le_of_ble_eq_true rfl) hL (t_X11_isHouse F t hL _ _ hc4) ?_
  refine nd_if_neN dX11_jug_10 15 (by decide) h (fun h => ?_) (fun h => ?_)
  · refine nd_aload_n dX11_jug_15 0 rfl ?_
    obtain ⟨r5, σ6, hc7, h⟩ := nd_bind_e h
    refine nd_cvv [] [] dX11_jug_16 cl_X11_381 (sh_60 t) ⟨Nat.le_of_ble_eq_true rfl, Nat.le_of_ble_eq_true rfl⟩ rfl (Nat.le_of_ble_eq_true rfl) hL (t_X11_thinks F t hL _ hc7) ?_
    refine nd_iconst dX11_jug_19 ic_0 ?_
    refine nd_istore_n (ls' := [(2, .int (0 : Int32)), (0, .ref 60), (1, .int x1)]) dX11_jug_20 (by decide) rfl ?_
    refine nd_sub [1, 2, 0] rfl ?_
    exact b_X11_jug_21 F t hL F _ _ _ h
  · refine nd_iconst dX11_jug_13 ic_m1 ?_
    exact nd_iret dX11_jug_14 (Nat.zero_le _) (Nat.zero_le _) (vp_nar_int _) (by cases h; exact ⟨rfl, rfl, rfl⟩)
