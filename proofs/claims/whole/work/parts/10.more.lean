section ND_X
variable {M : nd_M} {R : Room} {post : nd_Post} {kc ks pc : Nat} {ls : List (Nat × Value)} {st : List Value} {sh : List nd_S} {σ : nd_Mem} {z : Int32 × nd_Mem}
theorem nd_putxN {idx ci k i : Nat} {fs : List (Int32 → Value)} {y : Int32 → Value} {v : Value} {x : Int32} {ty : FieldType} {fin : Bool} {K : nd_Mem → nd_Res} (hd : decode M.2.1 pc = .ok (.putfield idx, 3)) (hg : nd_pf M.1.cls idx ci k ty fin) (hfin : fin = true → M.1.name = "<init>") (he : sh[i]? = some (.inl (ci, fs))) (hv : fs[k]? = some y) (hy : y x = v) (hn : ∀ ad : Nat → Nat, narrow ty (nd_v ad v) = nd_v ad v) (hfit : ∀ ad : Nat → Nat, fits ty (nd_v ad v) = true) (h : nd_let (nd_up σ i k x) K = some z)
    (kk : ∀ σ : nd_Mem, K σ = some z → nd_V M R post kc ks (pc + 3) ls st sh σ) : nd_V M R post kc ks pc ls (v :: .ref i :: st) sh σ := nd_putx hd hg hfin he hv hy hn hfit (kk _ h)
theorem nd_baloadN {i : Nat} {j : Int32} {a : nd_Res} {d : Decidable (j < 0 ∨ nd_ln.getD i 0 ≤ j.toNatClampNeg)} (hi : i < 5) (hd : decode M.2.1 pc = .ok (.baload, 1)) (h : (if j < 0 ∨ nd_ln.getD i 0 ≤ j.toNatClampNeg then none else a) = some z) (kk : a = some z → nd_V M R post kc ks (pc + 1) ls (.int ((nd_by.getD i []).getD j.toNatClampNeg 0) :: st) sh σ) : nd_V M R post kc ks pc ls (.int j :: .ref (1000006 + i) :: st) sh σ := nd_baload hi hd (nd_no_e h).1 (kk (nd_no_e h).2)
theorem nd_charok {v : Int32} (h : narrow .char (.int v) = .int v) : nd_okr (some .char) (some (.int v)) := h
end ND_X
/-- the answer is one of the texts that the reader knows: which -/
def nd_Pr (sh : List nd_S) (z : Int32 × nd_Mem) : nd_Post := fun r sh' σ' => r = some (.ref (1000001 + z.1.toNatClampNeg)) ∧ sh' = sh ∧ σ' = z.2
theorem nd_csr {M N : nd_M} {d e idx pc : Nat} {post : nd_Post} {ls : List (Nat × Value)} {sh : List nd_S} {σ : nd_Mem} {z : Int32 × nd_Mem} {st0 : List Value} (as st : List Value) (hd : decode M.2.1 pc = .ok (.invokestatic idx, 3)) (hc : nd_cs M.1.cls idx N as.length) (hR : nd_roomN N (nd_rm e) (nd_rm d)) (hst : as.reverse ++ st = st0) (hcat : (st.map (fun v => v.category)).sum ≤ 8) (hL : sh.length < nd_ro) (hF : nd_Fn N (nd_rm e) as sh σ (nd_Pr sh z)) (kk : nd_V M (nd_rm d) post 0 0 (pc + 3) ls (.ref (1000001 + z.1.toNatClampNeg) :: st) sh z.2) : nd_V M (nd_rm d) post 0 0 pc ls st0 sh σ := by
  subst hst
  refine nd_callS hd hc.1 hc.2.1 hc.2.2 hR hcat (Or.inl rfl) (Nat.le_refl _) (Nat.le_refl _) hL hF (nd_sz0 (fun _ _ _ h => h.2.1)) (fun r sh' σ' hp _ => ?_)
  obtain ⟨rfl, rfl, rfl⟩ := hp
  exact kk
theorem nd_roomL {N : nd_M} {e d : Nat} (h : e + 1 ≤ d) (hN : N.2.2.1 ≤ 45) : nd_roomN N (nd_rm e) (nd_rm d) := ⟨h, by show 8 + (N.2.2.1 + 11) + 64 * e ≤ 64 * d; omega⟩
