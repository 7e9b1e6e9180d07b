/-! ===== rows copied: System.arraycopy ===== -/
def x_cpf (f g : Nat → Int) (sp dp n : Nat) : Nat → Int := fun i => if dp ≤ i ∧ i < dp + n then f (sp + (i - dp)) else g i
def p_cpy : xP := fun t => match t with
  | (L, .inl n :: .inl dp :: .inr (.inr (.inl (k1, j1))) :: .inl sp :: .inr (.inr (.inl (k0, j0))) :: S, H) => match xcell H k0 j0, xcell H k1 j1 with
    | some (.inr (.inl (t0, n0, f))), some (.inr (.inl (t1, n1, g))) => if (t0 = 0 ∧ t1 = 0) ∧ (0 ≤ sp ∧ 0 ≤ dp ∧ 0 ≤ n) ∧ (sp + n ≤ n0 ∧ dp + n ≤ n1) ∧ (S.map xcat).sum ≤ 8 then some (.inl 0, (L, S, xput H k1 j1 (.inr (.inl (t1, n1, x_cpf f g sp.toNat dp.toNat n.toNat))))) else none
    | _, _ => none
  | _ => none
set_option maxRecDepth 100000 in
theorem cp_s : Cond.static arraycopyName ∈ xT := x_in 752 rfl rfl
set_option maxRecDepth 100000 in
theorem cp_n : Cond.native arraycopyName ∈ xT := x_in 753 rfl rfl
set_option maxRecDepth 100000 in
theorem cp_i : Cond.initialized "java/lang/System" ∈ xT := x_in 108 rfl rfl
set_option maxRecDepth 100000 in
theorem cpX6_l : Cond.methodLink KX6.1 43 arraycopyName ∈ xT := x_in 751 rfl rfl
set_option maxRecDepth 100000 in
theorem cpX8_l : Cond.methodLink KX8.1 60 arraycopyName ∈ xT := x_in 1130 rfl rfl
set_option maxRecDepth 100000 in
theorem cpX10_l : Cond.methodLink KX10.1 52 arraycopyName ∈ xT := x_in 1202 rfl rfl
/-- labels outside that are never gone to -/
theorem x_imp0 {E : xE} {f : xP} {brs : List Nat} (h : x_Imp E f 0 0 brs) : x_Imp E f 0 0 [] := by
  intro hG t fl t' hf
  obtain ⟨g, w⟩ := h hG t fl t' hf
  refine ⟨g, fun p e R s m args below meth c Q A H0 ad0 X k => w p e R s m args below meth c Q A H0 ad0 X ?_⟩
  cases fl with
  | inl k9 =>
    cases k9 with
    | zero => exact k
    | succ k9 =>
      obtain ⟨q, hq, -⟩ := k
      cases hq
  | inr v => exact k
section CPY
variable {xM : List xMi} {nest : List (String × Nat × MethodName)} {K : xK} {ini : Bool} {cc : ByteArray} {d nL : Nat} {ret : Option FieldType} {l0 : Launch} {D0 : va_G} {G : xG}
variable {pc nx : Nat} {brs : List Nat}
theorem x_nneg {z : Int} (h : xin z) (h0 : 0 ≤ z) : ¬ Int32.ofInt z < 0 := by
  intro q
  have := (x_lt32 h (show xin 0 by unfold xin; omega)).mp q
  omega
theorem x_icpy {idx : Nat} (hd : decode cc pc = .ok (.invokestatic idx, 3)) (w1 : Cond.methodLink K.1 idx arraycopyName ∈ xT) (w2 : Cond.native arraycopyName ∈ xT) (w3 : Cond.static arraycopyName ∈ xT) (w4 : Cond.initialized "java/lang/System" ∈ xT) (hl : x_land cc 3 (pc + 3) nx = true) : x_Imp (xM, nest, K, ini, cc, d, nL, ret, l0, D0, G) p_cpy pc nx brs := by
  intro hG t fl t' h
  unfold p_cpy at h
  split at h
  · rename_i L n dp k1 j1 sp k0 j0 S H
    split at h
    · rename_i t0 n0 f t1 n1 g hc0 hc1
      split at h
      · rename_i hz
        obtain ⟨⟨rfl, rfl⟩, ⟨z1, z2, z3⟩, ⟨z4, z5⟩, z6⟩ := hz
        cases h
        refine ⟨x_gr.put _ _ _ _, fun p e R s m args below meth c Q A H0 ad0 X k => ?_⟩
        obtain ⟨q, hq, k⟩ := k
        cases hq
        have k := x_goto X.1 X.2.1 3 _ _ _ hl k
        obtain ⟨kk1, kk2⟩ := k
        dsimp only at kk1
        rw [x_nc_put, x_ns_put] at kk1
        refine ⟨kk1, fun hf ad pl tys ws Hc locs ls h1 h2 h3 h4 h5 h6 h7 => ?_⟩
        obtain ⟨hx, hb, hml, hown, hts, henv, hA, hR, -⟩ := X
        have hS := hf.2.2.1
        have in_n : xin n := x_hd hS
        have in_d : xin dp := x_hd (x_tl hS)
        have in_s : xin sp := x_hd (x_tl (x_tl (x_tl hS)))
        obtain ⟨g1, e0, g2, g3⟩ := h1.1 k0 j0 _ hc0
        obtain ⟨f1, e1, f2, f3⟩ := h1.1 k1 j1 _ hc1
        obtain ⟨-, cA, ta, ht, g4⟩ := g3
        obtain ⟨-, cB, tb, ht2, f4⟩ := f3
        dsimp only at g4 ht f4 ht2
        rw [if_neg (by decide)] at g4 f4
        subst g4
        subst f4
        have hw : x_wf H (.inr (.inl (0, n1, x_cpf f g sp.toNat dp.toNat n.toNat))) := by
          intro j
          show xin (x_cpf f g sp.toNat dp.toNat n.toNat j)
          unfold x_cpf
          split
          · exact g1 (sp.toNat + (j - dp.toNat))
          · exact f1 j
        refine va_copyi hx hb (by rw [hml]; exact h7.1.symm) hown (hts _ w1) (hts _ w2) (hts _ w3) (hts _ w4) h5 h3 h4 h6 _ _ ta tb g2 f2 ht ht2 rfl (x_nneg in_s z1) (x_nneg in_d z2) (x_nneg in_n z3) (by rw [x_cl in_s, x_cl in_n]; omega) (by rw [x_cl in_d, x_cl in_n]; omega) (fun i _ => rfl) (by omega) ?_ hd (fun H1 locs1 a1 a2 a3 => ?_)
        · have hc9 : ((S.map (x_cv ad)).map fun v => v.category).sum ≤ 8 := by rw [x_cats]; exact z6
          have hn9 : nativeFrameWords "java/lang/System" "arraycopy" 5 + 11 ≤ 32 := by decide +kernel
          obtain ⟨-, r2, r3⟩ := hR
          rw [r2]
          omega
        · have hg := x_gr.put H k1 j1 (.inr (.inl (0, n1, x_cpf f g sp.toNat dp.toNat n.toNat)))
          have hcr : x_cr ad tys (.inr (.inl (0, n1, x_cpf f g sp.toNat dp.toNat n.toNat))) (.inl (cB, n1, .inl (va_cpy (fun j => Int32.ofInt (f j)) (fun j => Int32.ofInt (g j)) (Int32.ofInt sp).toNatClampNeg (Int32.ofInt dp).toNatClampNeg (Int32.ofInt n).toNatClampNeg))) := by
            refine ⟨(by decide : (0 : Nat) < 5), cB, tb, ht2, ?_⟩
            dsimp only
            rw [if_neg (by decide), x_cl in_s, x_cl in_d, x_cl in_n]
            refine congrArg (fun z => Sum.inl (cB, n1, Sum.inl z)) (funext fun j => ?_)
            unfold va_cpy x_cpf
            dsimp only
            split <;> rfl
          have hS5 : ∀ v ∈ S, x_ok H v := x_tl (x_tl (x_tl (x_tl (x_tl hS))))
          have := kk2 ⟨hf.1, fun v hv => (hf.2.1 v hv).imp id (fun z => x_ok.gr z hg), fun v hv => (hS5 v hv).gr hg, x_gr.tr hf.2.2.2 hg⟩ ad pl tys _ H1 locs1 ls (h1.put (x_lt hc1) hw hcr) h2 a1 a2 h5 a3 h7
          dsimp only at this
          rw [x_nc_put, x_ns_put] at this
          exact this
      · cases h
    · cases h
  · cases h
end CPY
