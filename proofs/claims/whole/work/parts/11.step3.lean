/-! ===== making cells; all instructions together ===== -/
section STEP3
variable {p : Program} {l : Launch} {e : Env} {R : Room} {s : State} {m : MethodId} {args : Array Value} {below : List Frame} {meth : Method} {c : Code} {Q : State → Prop} {D : va_G} {A : Nat → Prop} {nL : Nat} {H0 : xH} {ad0 : Nat → Nat → Nat}
variable {xM : List xMi} {nest : List (String × Nat × MethodName)} {K : xK} {ini : Bool} {cc : ByteArray} {d rg : Nat} {G : xG} {pc : Nat} {t t' : xS}
theorem x_At.begin {L S : List xV} {H : xH} (k : x_At p l e R s m args below meth c Q D A nL H0 ad0 pc (L, S, xbegin H)) : x_At p l e R s m args below meth c Q D A nL H0 ad0 pc (L, S, H) := by
  have e : ∀ k, xrg (xbegin H) k = xrg H k := xrg_xbegin H
  have hg : x_gr H (xbegin H) := ⟨Nat.le_refl _, Nat.le_refl _, fun k => by rw [e]; exact Nat.le_refl _⟩
  refine ⟨k.1, fun hf ad pl tys ws Hc locs ls h1 h2 h3 h4 h5 h6 h7 => ?_⟩
  exact k.2 ⟨hf.1, fun v hv => (hf.2.1 v hv).imp id (fun z => x_ok.gr z hg), fun v hv => (hf.2.2.1 v hv).gr hg, x_gr.tr hf.2.2.2 hg⟩ ad pl tys ws Hc locs ls h1.begin h2 h3 h4 h5 h6 h7
theorem x_sNew1 (X : x_Ctx xM nest K ini cc d p R s m args meth c A nL) {i ci rr : Nat} (hN : x_Nok K.1 i ci) (hdg : decode cc pc = .ok (.new i, 3)) {L S : List xV} {H : xH} (k : x_At p l e R s m args below meth c Q D A nL H0 ad0 (pc + 3) (L, .inr (.inr (.inl (rr, (xrg H rr).length))) :: S, xpush H rr (.inl (ci, x_dd ci)) (x_dd ci).length)) : x_At p l e R s m args below meth c Q D A nL H0 ad0 pc (L, S, H) := by
  obtain ⟨hx, hb, hml, hown, hts, henv, hA, hR, -, -, -⟩ := X
  obtain ⟨r, hr, ⟨c1, c2, c3, ty0, c4, c5, c6⟩, n1, n2, n3⟩ := hN
  refine x_mvN k (fun h => ⟨h, c6 H⟩) fun h ad pl tys ws Hc locs ls cells slots h1 h3 h4 h5 h6 hc hs kk => ?_
  rw [c3] at hs
  refine va_new (ci := ci) (fs := (x_dd ci).map (x_cv ad)) hx hb hts c1 ty0 c4 hown (hts _ n1) (hts _ n2) (hts _ n3) h5 h3 h4 h6 hA hr (fun j hj => c5 j hj ad) hc hs hdg (fun q H1 a1 a2 a3 => ?_)
  have := kk q [] (.inr (ci, (x_dd ci).map (x_cv ad))) H1 rfl (by rw [List.append_nil]; exact h5) a1 a2 a3
  rw [c3] at this
  exact this
theorem x_sNew (X : x_Ctx xM nest K ini cc d p R s m args meth c A nL) {i q : Nat} (hN : x_Nok K.1 i (q / 8)) (hdg : decode cc pc = .ok (.new i, 3)) (h : xI x_dd G rg (.new q) t = some t') (k : x_At p l e R s m args below meth c Q D A nL H0 ad0 (pc + 3) t') : x_gr t.2.2 t'.2.2 ∧ x_At p l e R s m args below meth c Q D A nL H0 ad0 pc t := by
  obtain ⟨L, S, H⟩ := t
  unfold xI at h
  dsimp only at h
  split at h
  · cases h
    have hg : x_gr H (xbegin H) := ⟨Nat.le_refl _, Nat.le_refl _, fun k => by rw [xrg_xbegin]; exact Nat.le_refl _⟩
    exact ⟨hg.tr (x_gr.push _ _ _ _), x_At.begin (x_sNew1 (rr := H.2.2.2.2.1 + 3) X hN hdg (by rw [xrg_xbegin]; exact k))⟩
  · cases h
    exact ⟨x_gr.push _ _ _ _, x_sNew1 X hN hdg k⟩
theorem x_sNarr1 (X : x_Ctx xM nest K ini cc d p R s m args meth c A nL) {ty : ArrayType} {tk rr : Nat} {n : Int} (hcls : Cond.arrayClass (newarray.typeOf ty) ∈ xT) (htk : tk < 5) (hty : newarray.typeOf ty = x_ty tk) (hby : componentBytes (x_ty tk) ≤ 8)
    (hdef : ∀ (cA : ClassId) (N : Nat), vp_cell cA (N, if tk = 3 then .inr (.inl (fun _ => Int64.ofInt 0)) else .inl (fun _ => Int32.ofInt 0)) = arrV cA N (fun _ => defaultValue (x_ty tk)))
    (hn : 0 ≤ n ∧ n < 65536) (hdg : decode cc pc = .ok (.newarray ty, 2)) {L S : List xV} {H : xH} (k : x_At p l e R s m args below meth c Q D A nL H0 ad0 (pc + 2) (L, .inr (.inr (.inl (rr, (xrg H rr).length))) :: S, xpush H rr (.inr (.inl (tk, n.toNat, fun _ => 0))) n.toNat)) : x_At p l e R s m args below meth c Q D A nL H0 ad0 pc (L, .inl n :: S, H) := by
  obtain ⟨hx, hb, hml, hown, hts, henv, hA, hR, -, -, -⟩ := X
  have hin : xin n := by unfold xin; omega
  refine x_mvN k (fun h => ⟨x_tl h, fun j => ?_⟩) fun h ad pl tys ws Hc locs ls cells slots h1 h3 h4 h5 h6 hc hs kk => ?_
  · dsimp only
    split
    · unfold xlin; omega
    · unfold xin; omega
  · refine va_newa (a0 := (n.toNat, if tk = 3 then .inr (.inl (fun _ => Int64.ofInt 0)) else .inl (fun _ => Int32.ofInt 0))) hx hb (hts _ hcls) hty h5 h3 h4 h6 hA (fun cA => hdef cA _) (fun q => by rw [Int32.lt_iff_toInt_lt, x_tI hin, Int32.toInt_zero] at q; omega) (x_cl hin) ?_ hc hs hdg (fun q cA H1 a0 a1 a2 a3 => ?_)
    · have : n.toNat * componentBytes (x_ty tk) ≤ 65536 * 8 := Nat.mul_le_mul (by omega) hby
      omega
    · exact kk q [(cA, x_ty tk)] _ H1 ⟨htk, cA, tys.length, by simp, rfl⟩ a0 a1 a2 a3
theorem x_sNarr (X : x_Ctx xM nest K ini cc d p R s m args meth c A nL) {ty : ArrayType} (hdg : decode cc pc = .ok (.newarray ty, 2)) (h : xI x_dd G rg (.newarray ty) t = some t') (k : x_At p l e R s m args below meth c Q D A nL H0 ad0 (pc + 2) t') : x_gr t.2.2 t'.2.2 ∧ x_At p l e R s m args below meth c Q D A nL H0 ad0 pc t := by
  obtain ⟨a1, a2, a3, a4, a5⟩ := X.2.2.2.2.2.2.2.2.2.2.1
  unfold xI at h
  dsimp only at h
  split at h
  · rename_i L n S H
    split at h
    · rename_i hn
      cases ty with
      | int => cases h; exact ⟨x_gr.push _ _ _ _, x_sNarr1 (ty := .int) (tk := 0) X a1 (by decide) rfl (by decide) (fun _ _ => rfl) hn hdg k⟩
      | byte => cases h; exact ⟨x_gr.push _ _ _ _, x_sNarr1 (ty := .byte) (tk := 1) X a2 (by decide) rfl (by decide) (fun _ _ => rfl) hn hdg k⟩
      | char => cases h; exact ⟨x_gr.push _ _ _ _, x_sNarr1 (ty := .char) (tk := 2) X a3 (by decide) rfl (by decide) (fun _ _ => rfl) hn hdg k⟩
      | long => cases h; exact ⟨x_gr.push _ _ _ _, x_sNarr1 (ty := .long) (tk := 3) X a4 (by decide) rfl (by decide) (fun _ _ => rfl) hn hdg k⟩
      | boolean => cases h; exact ⟨x_gr.push _ _ _ _, x_sNarr1 (ty := .boolean) (tk := 4) X a5 (by decide) rfl (by decide) (fun _ _ => rfl) hn hdg k⟩
      | _ => cases h
    · cases h
  · cases h
theorem x_sAnew (X : x_Ctx xM nest K ini cc d p R s m args meth c A nL) {i ci : Nat} (hN : x_Aok K.1 i ci) (hdg : decode cc pc = .ok (.anewarray i, 3)) (h : xI x_dd G rg (.anewarray ci) t = some t') (k : x_At p l e R s m args below meth c Q D A nL H0 ad0 (pc + 3) t') : x_gr t.2.2 t'.2.2 ∧ x_At p l e R s m args below meth c Q D A nL H0 ad0 pc t := by
  obtain ⟨hx, hb, hml, hown, hts, henv, hA, hR, -, -, -⟩ := X
  obtain ⟨r, hr, n1, n2⟩ := hN
  unfold xI at h
  dsimp only at h
  split at h
  · rename_i L n S H
    split at h
    · rename_i hn
      cases h
      have hin : xin n := by unfold xin; omega
      refine ⟨x_gr.push _ _ _ _, x_mvN k (fun h => ⟨x_tl h, fun j z hz => by cases hz⟩) fun h ad pl tys ws Hc locs ls cells slots h1 h3 h4 h5 h6 hc hs kk => ?_⟩
      refine va_newq hx hb hown (hts _ n1) (henv.2 _ n2) h5 h3 h4 h6 hA (fun q => by rw [Int32.lt_iff_toInt_lt, x_tI hin, Int32.toInt_zero] at q; omega) (x_cl hin) (by omega) hc hs hdg (fun q cA H1 a0 a1 a2 a3 => ?_)
      exact kk q [(cA, .object r.1)] _ H1 ⟨cA, tys.length, r, hr, by simp, rfl⟩ a0 a1 a2 a3
    · cases h
  · cases h
theorem x_orx {a b : Option xS} {r : xS} (h : x_or a b = some r) : a = some r ∨ b = some r := by
  unfold x_or at h
  split at h
  · rename_i q
    exact Or.inl h
  · exact Or.inr h
set_option maxHeartbeats 4000000 in
theorem x_step (X : x_Ctx xM nest K ini cc d p R s m args meth c A nL) (hG : x_Gok xM nest l D G d) {ins op : Instr} {len : Nat} (hdg : decode cc pc = .ok (ins, len)) (hm : x_mt K ini nL ins len op = true) (h : xI x_dd G rg op t = some t') (k : x_At p l e R s m args below meth c Q D A nL H0 ad0 (pc + len) t') : x_gr t.2.2 t'.2.2 ∧ x_At p l e R s m args below meth c Q D A nL H0 ad0 pc t := by
  have hx := X.1
  have hb := X.2.1
  have hown := X.2.2.2.1
  have hts := X.2.2.2.2.1
  have hini := X.2.2.2.2.2.2.2.2.1
  have hKK := X.2.2.2.2.2.2.2.2.2.1
  unfold x_mt at hm
  split at hm
  · split at hm
    · simp only [decide_eq_true_eq] at hm
      obtain ⟨h1, rfl⟩ := hm
      exact x_sNew X (hKK.2.2.1 _ (x_lk_mem h1)) hdg h k
    · cases hm
  · simp only [decide_eq_true_eq] at hm
    unfold x_nrm at hm
    split at hm
    · split at hm
      · rename_i hn
        cases hm
        exact x_sC hn (fun Hc locs ls cells slots rest kk => lv_iconst hx hb hdg rfl kk) h k
      · cases hm
    · split at hm
      · rename_i hn
        cases hm
        exact x_sC (by unfold xin; omega) (fun Hc locs ls cells slots rest kk => lv_bipush hx hb hdg (x_i8 hn.1 hn.2) kk) h k
      · cases hm
    · split at hm
      · rename_i hn
        cases hm
        exact x_sC (by unfold xin; omega) (fun Hc locs ls cells slots rest kk => lv_sipush hx hb hdg (x_i16 hn.1 hn.2) kk) h k
      · cases hm
    · obtain ⟨n, hn, hm⟩ := Option.map_eq_some_iff.mp hm
      cases hm
      have h9 := hKK.2.2.2.2.1 _ (x_lk_mem hn)
      exact x_sC h9.2 (fun Hc locs ls cells slots rest kk => lv_ldc hx hb hown (hts _ h9.1) hdg kk) h k
    · obtain ⟨n, hn, hm⟩ := Option.map_eq_some_iff.mp hm
      cases hm
      have h9 := hKK.2.2.2.2.1 _ (x_lk_mem hn)
      exact x_sC h9.2 (fun Hc locs ls cells slots rest kk => lv_ldcw hx hb hown (hts _ h9.1) hdg kk) h k
    · obtain ⟨n, hn, hm⟩ := Option.map_eq_some_iff.mp hm
      cases hm
      have h9 := hKK.2.2.2.2.2 _ (x_lk_mem hn)
      exact x_sCl h9.2 (fun Hc locs ls cells slots rest kk => lv_ldc2 hx hb hown (hts _ h9.1) hdg kk) h k
    · rename_i n
      cases hm
      exact x_sCl (by unfold xlin; omega) (fun Hc locs ls cells slots rest kk => lv_lconst hx hb hdg rfl kk) h k
    · cases hm; exact x_sIl (fun z Hc locs ls cells slots rest hl kk => lv_iload_n hx hb hdg rfl hl kk) h k
    · cases hm; exact x_sIl (fun z Hc locs ls cells slots rest hl kk => lv_iload hx hb hdg hl kk) h k
    · cases hm; exact x_sAl (fun z Hc locs ls cells slots rest hl kk => lv_aload_n hx hb hdg rfl hl kk) h k
    · cases hm; exact x_sAl (fun z Hc locs ls cells slots rest hl kk => lv_aload hx hb hdg hl kk) h k
    · cases hm; exact x_sLl (fun z Hc locs ls cells slots rest hl kk => lv_lload_n hx hb hdg rfl hl kk) h k
    · cases hm; exact x_sLl (fun z Hc locs ls cells slots rest hl kk => lv_lload hx hb hdg hl kk) h k
    · split at hm
      · rename_i hi
        cases hm; exact x_sIs hi (fun z lv Hc locs ls cells slots rest hl kk => lv_istore_n hx hb hdg rfl hl hi rfl kk) h k
      · cases hm
    · split at hm
      · rename_i hi
        cases hm; exact x_sIs hi (fun z lv Hc locs ls cells slots rest hl kk => lv_istore hx hb hdg hl hi rfl kk) h k
      · cases hm
    · split at hm
      · rename_i hi
        cases hm; exact x_sAs hi (fun z lv Hc locs ls cells slots rest hl kk => lv_astore_n hx hb hdg rfl hl hi rfl kk) h k
      · cases hm
    · split at hm
      · rename_i hi
        cases hm; exact x_sAs hi (fun z lv Hc locs ls cells slots rest hl kk => lv_astore hx hb hdg hl hi rfl kk) h k
      · cases hm
    · split at hm
      · rename_i hi
        cases hm; exact x_sLs hi (fun z lv Hc locs ls cells slots rest hl kk => lv_lstore_n hx hb hdg rfl hl hi rfl kk) h k
      · cases hm
    · split at hm
      · rename_i hi
        cases hm; exact x_sLs hi (fun z lv Hc locs ls cells slots rest hl kk => lv_lstore hx hb hdg hl hi rfl kk) h k
      · cases hm
    · split at hm
      · rename_i hi
        cases hm; exact x_sInc hx hb hi hdg h k
      · cases hm
    · cases hm; exact x_s2 (fun x y _ _ Hc locs ls cells slots rest kk => lv_iadd hx hb hdg (by rw [x_add]; exact kk)) (fun _ _ _ _ => xw_in _) h k
    · cases hm; exact x_s2 (fun x y _ _ Hc locs ls cells slots rest kk => lv_isub hx hb hdg (by rw [x_sub]; exact kk)) (fun _ _ _ _ => xw_in _) h k
    · cases hm; exact x_s2 (fun x y _ _ Hc locs ls cells slots rest kk => lv_imul hx hb hdg (by rw [x_mul]; exact kk)) (fun _ _ _ _ => xw_in _) h k
    · cases hm; exact x_s2 (fun x y _ _ Hc locs ls cells slots rest kk => lv_iand hx hb hdg (by rw [x_oI] at kk; exact kk)) (fun _ _ _ _ => x_rI _) h k
    · cases hm; exact x_s2 (fun x y _ _ Hc locs ls cells slots rest kk => lv_ior hx hb hdg (by rw [x_oI] at kk; exact kk)) (fun _ _ _ _ => x_rI _) h k
    · cases hm; exact x_s2 (fun x y _ _ Hc locs ls cells slots rest kk => lv_ixor hx hb hdg (by rw [x_oI] at kk; exact kk)) (fun _ _ _ _ => x_rI _) h k
    · cases hm; exact x_s2 (fun x y _ _ Hc locs ls cells slots rest kk => lv_ishl hx hb hdg (by rw [x_oI] at kk; exact kk)) (fun _ _ _ _ => x_rI _) h k
    · cases hm; exact x_s2 (fun x y _ _ Hc locs ls cells slots rest kk => lv_ishr hx hb hdg (by rw [x_oI] at kk; exact kk)) (fun _ _ _ _ => x_rI _) h k
    · cases hm; exact x_s2 (fun x y _ _ Hc locs ls cells slots rest kk => lv_iushr hx hb hdg (x_oI _).symm kk) (fun _ _ _ _ => x_rI _) h k
    · cases hm; exact x_s1 (fun z _ Hc locs ls cells slots rest kk => lv_ineg hx hb hdg (by rw [x_neg]; exact kk)) (fun _ _ => xw_in _) h k
    · cases hm; exact x_s1 (fun z _ Hc locs ls cells slots rest kk => lv_i2b hx hb hdg (x_oI _).symm kk) (fun _ _ => x_rI _) h k
    · cases hm; exact x_s1 (fun z _ Hc locs ls cells slots rest kk => lv_i2s hx hb hdg (x_oI _).symm kk) (fun _ _ => x_rI _) h k
    · cases hm; exact x_s1 (fun z _ Hc locs ls cells slots rest kk => lv_i2c hx hb hdg (x_oI _).symm kk) (fun _ _ => x_rI _) h k
    · cases hm; exact x_sDiv hx hb hdg h k
    · cases hm; exact x_sRem hx hb hdg h k
    · cases hm; exact x_sI2l hx hb hdg h k
    · cases hm; exact x_sL2i hx hb hdg h k
    · cases hm; exact x_s2l (fun x y _ _ Hc locs ls cells slots rest kk => lv_lmul hx hb hdg (by rw [x_lmul]; exact kk)) (fun _ _ _ _ => xlw_in _) h k
    · cases hm; exact x_s2l (fun x y _ _ Hc locs ls cells slots rest kk => lv_lsub hx hb hdg (by rw [x_lsub]; exact kk)) (fun _ _ _ _ => xlw_in _) h k
    · cases hm; exact x_sLdiv hx hb hdg h k
    · cases hm; exact x_sLcmp hx hb hdg h k
    · cases hm; exact x_sDup hx hb hdg h k
    · cases hm; exact x_sDupx hx hb hdg h k
    · cases hm; exact x_sDup2 hx hb hdg h k
    · cases hm; exact x_sPop hx hb hdg h k
    · obtain ⟨q, hq, hm⟩ := Option.map_eq_some_iff.mp hm
      cases hm
      exact x_sGet hx hb hown hts (hKK.1 _ (x_lk_mem hq)) hdg h k
    · obtain ⟨q, hq, hm⟩ := Option.bind_eq_some_iff.mp hm
      split at hm
      · rename_i hq9
        cases hm
        exact x_sPut hx hb hown hts (hKK.1 _ (x_lk_mem hq)) (hq9.imp id (fun z => ⟨hini z.1, z.2⟩)) hdg h k
      · cases hm
    · cases hm; exact x_sRd (ty := 0) (v := 0) (by decide) (fun z N f cA t0 a q0 tys ws Hc locs ls cells slots rest h5 h3 g2 ht hin hcl kk => va_iald hx hb h5 h3 q0 t0 g2 ht hin hdg (by rw [hcl]; exact kk)) h k
    · cases hm
      rcases x_orx h with h | h
      · exact x_sRd (ty := 1) (v := 0) (by decide) (fun z N f cA t0 a q0 tys ws Hc locs ls cells slots rest h5 h3 g2 ht hin hcl kk => va_bald hx hb h5 h3 q0 t0 g2 ht hin hdg (by rw [hcl]; exact kk)) h k
      · exact x_sRd (ty := 4) (v := 0) (by decide) (fun z N f cA t0 a q0 tys ws Hc locs ls cells slots rest h5 h3 g2 ht hin hcl kk => va_zald hx hb h5 h3 q0 t0 g2 ht hin hdg (by rw [hcl]; exact kk)) h k
    · cases hm; exact x_sRd (ty := 2) (v := 0) (by decide) (fun z N f cA t0 a q0 tys ws Hc locs ls cells slots rest h5 h3 g2 ht hin hcl kk => va_cald hx hb h5 h3 q0 t0 g2 ht hin hdg (by rw [hcl]; exact kk)) h k
    · cases hm; exact x_sLald hx hb hdg h k
    · cases hm; exact x_sAald hx hb hdg h k
    · cases hm; exact x_sWr (ty := 0) (by decide) (fun _ h => h) (fun x z N f cA t0 a q0 tys ws Hc locs ls cells slots rest h5 h3 h4 h6 g2 ht hin hcl kk => va_iast hx hb h5 h3 h4 h6 q0 t0 g2 ht hin hdg (by rw [hcl, x_updI]; exact kk)) h k
    · cases hm
      rcases x_orx h with h | h
      · exact x_sWr (ty := 1) (by decide) (fun _ _ => x_b8_in _) (fun x z N f cA t0 a q0 tys ws Hc locs ls cells slots rest h5 h3 h4 h6 g2 ht hin hcl kk => va_bast hx hb h5 h3 h4 h6 q0 t0 g2 ht hin hdg (by rw [hcl, x_narb, x_updI]; exact kk)) h k
      · exact x_sWr (ty := 4) (by decide) (fun _ _ => x_z1_in _) (fun x z N f cA t0 a q0 tys ws Hc locs ls cells slots rest h5 h3 h4 h6 g2 ht hin hcl kk => va_zast hx hb h5 h3 h4 h6 q0 t0 g2 ht hin hdg (by rw [hcl, x_narz, x_updI]; exact kk)) h k
    · cases hm; exact x_sWr (ty := 2) (by decide) (fun _ _ => x_c16_in _) (fun x z N f cA t0 a q0 tys ws Hc locs ls cells slots rest h5 h3 h4 h6 g2 ht hin hcl kk => va_cast hx hb h5 h3 h4 h6 q0 t0 g2 ht hin hdg (by rw [hcl, x_narc, x_updI]; exact kk)) h k
    · cases hm; exact x_sLast hx hb hdg h k
    · cases hm; exact x_sAast hx hb hdg h k
    · cases hm; exact x_sAlen hx hb hdg h k
    · cases hm; exact x_sNarr X hdg h k
    · obtain ⟨q, hq, hm⟩ := Option.map_eq_some_iff.mp hm
      cases hm
      exact x_sAnew X (hKK.2.2.2.1 _ (x_lk_mem hq)) hdg h k
    · obtain ⟨q, hq, hm⟩ := Option.bind_eq_some_iff.mp hm
      split at hm
      · rename_i hq9
        cases hm
        have h9 := hKK.2.1 _ (x_lk_mem hq)
        rw [if_neg (by dsimp only; omega)] at h9
        obtain ⟨L, S, H⟩ := t
        exact x_k23 X hG hq9 h9 hdg h k
      · cases hm
    · obtain ⟨q, hq, hm⟩ := Option.bind_eq_some_iff.mp hm
      split at hm
      · rename_i hq9
        cases hm
        have h9 := hKK.2.1 _ (x_lk_mem hq)
        rw [if_neg (by dsimp only; omega)] at h9
        obtain ⟨L, S, H⟩ := t
        unfold xI at h
        dsimp only at h
        split at h
        · rename_i hr
          exact x_k01 X hG hq9 h9 hdg hr h k
        · cases h
      · cases hm
    · obtain ⟨q, hq, hm⟩ := Option.bind_eq_some_iff.mp hm
      split at hm
      · rename_i hq9
        cases hm
        have h9 := hKK.2.1 _ (x_lk_mem hq)
        rw [if_neg (by dsimp only; omega)] at h9
        obtain ⟨L, S, H⟩ := t
        unfold xI at h
        dsimp only at h
        split at h
        · rename_i hr
          exact x_k45 X hG hq9 h9 hdg hr h k
        · cases h
      · split at hm
        · rename_i hq9
          cases hm
          have h9 := hKK.2.1 _ (x_lk_mem hq)
          rw [if_pos hq9] at h9
          exact x_sObj X h9 hdg h k
        · cases hm
    · cases hm
end STEP3
