/-! ===== one instruction, all kinds ===== -/
theorem x_fitok {tk : Nat} {ty : FieldType} {v : xV} (h : x_kty tk ty) (hv : x_fit tk v = true) (ad : Nat → Nat → Nat) : narrow ty (x_cv ad v) = x_cv ad v ∧ fits ty (x_cv ad v) = true := by
  match tk, v, h, hv with
  | 0, .inl n, h, _ => cases h; exact ⟨rfl, rfl⟩
  | 1, .inl n, h, hv =>
    cases h
    simp only [x_fit, decide_eq_true_eq] at hv
    rcases hv with rfl | rfl
    · exact ⟨rfl, rfl⟩
    · exact ⟨rfl, rfl⟩
  | 2, .inr (.inr (.inl r)), h, _ =>
    rcases h with ⟨n, rfl⟩ | ⟨n, rfl⟩
    · exact ⟨rfl, rfl⟩
    · exact ⟨rfl, rfl⟩
  | 3, .inr (.inl n), h, _ => cases h; exact ⟨rfl, rfl⟩
theorem x_b8_in (a : Int) : xin (xb8 a) := x_rI _
theorem x_z1_in (a : Int) : xin (xz1 a) := x_rI _
theorem x_narb (a : Int) : vp_nar .byte (Int32.ofInt a) = Int32.ofInt (xb8 a) := by
  rw [vp_nar_byte]
  unfold xb8
  rw [x_oI]
theorem x_narc (a : Int) : vp_nar .char (Int32.ofInt a) = Int32.ofInt (xc16 a) := by
  rw [vp_nar_char]
  unfold xc16
  rw [x_oI, ← Int32.toInt_inj, ← vp_nar_char]
  first
    | rfl
    | simp
theorem x_narz (a : Int) : vp_nar .boolean (Int32.ofInt a) = Int32.ofInt (xz1 a) := by
  unfold xz1
  rw [x_oI]
section STEP2
variable {p : Program} {l : Launch} {e : Env} {R : Room} {s : State} {m : MethodId} {args : Array Value} {below : List Frame} {meth : Method} {c : Code} {Q : State → Prop} {D : va_G} {A : Nat → Prop} {nL : Nat} {H0 : xH} {ad0 : Nat → Nat → Nat}
variable {xM : List xMi} {nest : List (String × Nat × MethodName)} {K : xK} {ini : Bool} {cc : ByteArray} {d rg : Nat} {G : xG} {pc : Nat} {t t' : xS}
theorem x_sInc (hx : p.tables.exec = Jvm.exec) (hb : c.code = cc) {i : Nat} {n : Int} (hi : i < nL) (hdg : decode cc pc = .ok (.iinc i n, 3)) (h : xI x_dd G rg (.iinc i n) t = some t') (k : x_At p l e R s m args below meth c Q D A nL H0 ad0 (pc + 3) t') : x_gr t.2.2 t'.2.2 ∧ x_At p l e R s m args below meth c Q D A nL H0 ad0 pc t := by
  obtain ⟨L, S, H⟩ := t
  unfold xI at h
  dsimp only at h
  split at h
  · rename_i z hz
    cases h
    refine ⟨x_gr.rf _, x_mvL k (x_len_st _ _ _) (fun h hL => ⟨h, x_st_ok hL (xw_in _)⟩) fun hl h ad Hc locs ls cells slots h7 kk => ?_⟩
    have hmem : (i, Value.int (Int32.ofInt z)) ∈ x_tL ad L := x_tL_mem.mpr ⟨_, hz, (fun q => by cases q), rfl⟩
    obtain ⟨j, hj⟩ := List.getElem?_of_mem hmem
    exact lv_iinc hx hb hdg h7.has hj (x_add z n) hi rfl (fun ls' h' => kk ls' (x_L.st hl hi h'))
  · cases h
theorem x_sDiv (hx : p.tables.exec = Jvm.exec) (hb : c.code = cc) (hdg : decode cc pc = .ok (.idiv, 1)) (h : xI x_dd G rg .idiv t = some t') (k : x_At p l e R s m args below meth c Q D A nL H0 ad0 (pc + 1) t') : x_gr t.2.2 t'.2.2 ∧ x_At p l e R s m args below meth c Q D A nL H0 ad0 pc t := by
  unfold xI at h
  dsimp only at h
  split at h
  · split at h
    · cases h
    · rename_i hy
      cases h
      refine ⟨x_gr.rf _, x_mv k (fun h _ => x_f1' (x_tl (x_tl h)) (xw_in _)) fun h ad Hc locs ls cells slots _ kk => ?_⟩
      exact lv_idiv hx hb hdg (fun q => hy ((x_eq0 (x_hd h)).mp q)) (by rw [x_div (x_hd (x_tl h)) (x_hd h)]; exact kk)
  · cases h
theorem x_sRem (hx : p.tables.exec = Jvm.exec) (hb : c.code = cc) (hdg : decode cc pc = .ok (.irem, 1)) (h : xI x_dd G rg .irem t = some t') (k : x_At p l e R s m args below meth c Q D A nL H0 ad0 (pc + 1) t') : x_gr t.2.2 t'.2.2 ∧ x_At p l e R s m args below meth c Q D A nL H0 ad0 pc t := by
  unfold xI at h
  dsimp only at h
  split at h
  · split at h
    · cases h
    · rename_i hy
      cases h
      refine ⟨x_gr.rf _, x_mv k (fun h _ => x_f1' (x_tl (x_tl h)) (x_tm (x_hd (x_tl h)) hy)) fun h ad Hc locs ls cells slots _ kk => ?_⟩
      exact lv_irem hx hb hdg (fun q => hy ((x_eq0 (x_hd h)).mp q)) (by rw [x_rem (x_hd (x_tl h)) (x_hd h)]; exact kk)
  · cases h
theorem x_sLdiv (hx : p.tables.exec = Jvm.exec) (hb : c.code = cc) (hdg : decode cc pc = .ok (.ldiv, 1)) (h : xI x_dd G rg .ldiv t = some t') (k : x_At p l e R s m args below meth c Q D A nL H0 ad0 (pc + 1) t') : x_gr t.2.2 t'.2.2 ∧ x_At p l e R s m args below meth c Q D A nL H0 ad0 pc t := by
  unfold xI at h
  dsimp only at h
  split at h
  · split at h
    · cases h
    · rename_i hy
      cases h
      refine ⟨x_gr.rf _, x_mv k (fun h _ => x_f1' (x_tl (x_tl h)) (xlw_in _)) fun h ad Hc locs ls cells slots _ kk => ?_⟩
      exact lv_ldiv hx hb hdg (fun q => hy ((x_leq0 (x_hd h)).mp q)) (by rw [x_ldiv (x_hd (x_tl h)) (x_hd h)]; exact kk)
  · cases h
theorem x_sI2l (hx : p.tables.exec = Jvm.exec) (hb : c.code = cc) (hdg : decode cc pc = .ok (.i2l, 1)) (h : xI x_dd G rg .i2l t = some t') (k : x_At p l e R s m args below meth c Q D A nL H0 ad0 (pc + 1) t') : x_gr t.2.2 t'.2.2 ∧ x_At p l e R s m args below meth c Q D A nL H0 ad0 pc t := by
  unfold xI at h
  dsimp only at h
  split at h
  · cases h
    refine ⟨x_gr.rf _, x_mv k (fun h _ => x_f1' (x_tl h) (by have : xin _ := x_hd h; unfold xin at this; show xlin _; unfold xlin; omega)) fun h ad Hc locs ls cells slots _ kk => lv_i2l hx hb hdg (x_i2l (x_hd h)) kk⟩
  · cases h
theorem x_sL2i (hx : p.tables.exec = Jvm.exec) (hb : c.code = cc) (hdg : decode cc pc = .ok (.l2i, 1)) (h : xI x_dd G rg .l2i t = some t') (k : x_At p l e R s m args below meth c Q D A nL H0 ad0 (pc + 1) t') : x_gr t.2.2 t'.2.2 ∧ x_At p l e R s m args below meth c Q D A nL H0 ad0 pc t := by
  unfold xI at h
  dsimp only at h
  split at h
  · cases h
    exact ⟨x_gr.rf _, x_mv k (fun h _ => x_f1' (x_tl h) (xw_in _)) fun h ad Hc locs ls cells slots _ kk => lv_l2i hx hb hdg (x_l2i _) kk⟩
  · cases h
theorem x_sLcmp (hx : p.tables.exec = Jvm.exec) (hb : c.code = cc) (hdg : decode cc pc = .ok (.lcmp, 1)) (h : xI x_dd G rg .lcmp t = some t') (k : x_At p l e R s m args below meth c Q D A nL H0 ad0 (pc + 1) t') : x_gr t.2.2 t'.2.2 ∧ x_At p l e R s m args below meth c Q D A nL H0 ad0 pc t := by
  unfold xI at h
  dsimp only at h
  split at h
  · cases h
    refine ⟨x_gr.rf _, x_mv k (fun h _ => x_f1' (x_tl (x_tl h)) ?_) fun h ad Hc locs ls cells slots _ kk => W.lcmp hx hb hdg ?_⟩
    · show xin _
      unfold xin
      split
      · omega
      · split <;> omega
    · rw [x_cmpl (x_hd (x_tl h)) (x_hd h)]
      exact kk
  · cases h
theorem x_sDup (hx : p.tables.exec = Jvm.exec) (hb : c.code = cc) (hdg : decode cc pc = .ok (.dup, 1)) (h : xI x_dd G rg .dup t = some t') (k : x_At p l e R s m args below meth c Q D A nL H0 ad0 (pc + 1) t') : x_gr t.2.2 t'.2.2 ∧ x_At p l e R s m args below meth c Q D A nL H0 ad0 pc t := by
  unfold xI at h
  dsimp only at h
  split at h
  · split at h
    · rename_i hc
      cases h
      exact ⟨x_gr.rf _, x_mv k (fun h _ => x_f1' h (x_hd h)) fun h ad Hc locs ls cells slots _ kk => lv_dup hx hb hdg (by rw [x_cat]; exact hc) kk⟩
    · cases h
  · cases h
theorem x_sDupx (hx : p.tables.exec = Jvm.exec) (hb : c.code = cc) (hdg : decode cc pc = .ok (.dup_x1, 1)) (h : xI x_dd G rg .dup_x1 t = some t') (k : x_At p l e R s m args below meth c Q D A nL H0 ad0 (pc + 1) t') : x_gr t.2.2 t'.2.2 ∧ x_At p l e R s m args below meth c Q D A nL H0 ad0 pc t := by
  unfold xI at h
  dsimp only at h
  split at h
  · split at h
    · rename_i hc
      cases h
      exact ⟨x_gr.rf _, x_mv k (fun h _ => x_f1' (x_f1' (x_f1' (x_tl (x_tl h)) (x_hd h)) (x_hd (x_tl h))) (x_hd h)) fun h ad Hc locs ls cells slots _ kk => lv_dup_x1 hx hb hdg (by rw [x_cat]; exact hc.1) (by rw [x_cat]; exact hc.2) kk⟩
    · cases h
  · cases h
theorem x_sDup2 (hx : p.tables.exec = Jvm.exec) (hb : c.code = cc) (hdg : decode cc pc = .ok (.dup2, 1)) (h : xI x_dd G rg .dup2 t = some t') (k : x_At p l e R s m args below meth c Q D A nL H0 ad0 (pc + 1) t') : x_gr t.2.2 t'.2.2 ∧ x_At p l e R s m args below meth c Q D A nL H0 ad0 pc t := by
  unfold xI at h
  dsimp only at h
  split at h
  · split at h
    · rename_i hc
      cases h
      exact ⟨x_gr.rf _, x_mv k (fun h _ => x_f1' (x_f1' h (x_hd (x_tl h))) (x_hd h)) fun h ad Hc locs ls cells slots _ kk => lv_dup2_11 hx hb hdg (by rw [x_cat]; exact hc.1) (by rw [x_cat]; exact hc.2) kk⟩
    · cases h
  · cases h
theorem x_sPop (hx : p.tables.exec = Jvm.exec) (hb : c.code = cc) (hdg : decode cc pc = .ok (.pop, 1)) (h : xI x_dd G rg .pop t = some t') (k : x_At p l e R s m args below meth c Q D A nL H0 ad0 (pc + 1) t') : x_gr t.2.2 t'.2.2 ∧ x_At p l e R s m args below meth c Q D A nL H0 ad0 pc t := by
  unfold xI at h
  dsimp only at h
  split at h
  · split at h
    · rename_i hc
      cases h
      exact ⟨x_gr.rf _, x_mv k (fun h _ => x_tl h) fun h ad Hc locs ls cells slots _ kk => lv_pop hx hb hdg (by rw [x_cat]; exact hc) kk⟩
    · cases h
  · cases h
theorem x_sGet (hx : p.tables.exec = Jvm.exec) (hb : c.code = cc) {own : String} (hown : s.vm.findClass own = some m.cls) (hts : ∀ w ∈ xT, w.before args s = true) {i q : Nat} (hF : x_Fok own i q) (hdg : decode cc pc = .ok (.getfield i, 3)) (h : xI x_dd G rg (.getfield (q % 4096)) t = some t') (k : x_At p l e R s m args below meth c Q D A nL H0 ad0 (pc + 3) t') : x_gr t.2.2 t'.2.2 ∧ x_At p l e R s m args below meth c Q D A nL H0 ad0 pc t := by
  obtain ⟨r, ty, hr, hC, hk, hl, -, -, -⟩ := hF
  unfold xI at h
  dsimp only at h
  have q1 : q % 4096 / 64 = q / 64 % 64 := by omega
  have q2 : q % 4096 % 64 = q % 64 := by omega
  rw [q1, q2] at h
  split at h
  · rename_i L kk jj S H
    split at h
    · rename_i ci fs hc
      split at h
      · rename_i hci
        split at h
        · rename_i v hv
          cases h
          subst hci
          refine ⟨x_gr.rf _, x_mvR k (fun hw h => x_f1' (x_tl h) (hw kk jj _ hc v (List.mem_of_getElem? hv))) fun h ad pl tys ws Hc locs ls cells slots h1 h3 h5 kk1 => ?_⟩
          obtain ⟨-, e0, g2, g3⟩ := h1.1 kk jj _ hc
          have g3 : e0 = .inr (q / 64 % 64, fs.map (x_cv ad)) := g3
          subst g3
          exact va_get hx hb hts hC.1 hown h5 h3 _ g2 hr (q % 64) hk (hts _ hl) (fun _ h => h) (v := x_cv ad v) (by rw [List.getElem?_map, hv]; rfl) hdg kk1
        · cases h
      · cases h
    · cases h
  · cases h
theorem x_sPut (hx : p.tables.exec = Jvm.exec) (hb : c.code = cc) {own : String} (hown : s.vm.findClass own = some m.cls) (hts : ∀ w ∈ xT, w.before args s = true) {i q : Nat} (hF : x_Fok own i q) (hq : q < 16384 ∨ (meth.name = "<init>" ∧ q < 32768)) (hdg : decode cc pc = .ok (.putfield i, 3)) (h : xI x_dd G rg (.putfield (q % 16384)) t = some t') (k : x_At p l e R s m args below meth c Q D A nL H0 ad0 (pc + 3) t') : x_gr t.2.2 t'.2.2 ∧ x_At p l e R s m args below meth c Q D A nL H0 ad0 pc t := by
  obtain ⟨r, ty, hr, hC, hk, hl, hty, hkt, hfin⟩ := hF
  unfold xI at h
  dsimp only at h
  have q1 : q % 16384 / 64 % 64 = q / 64 % 64 := by omega
  have q2 : q % 16384 % 64 = q % 64 := by omega
  have q3 : q % 16384 / 4096 = q / 4096 % 4 := by omega
  rw [q1, q2, q3] at h
  split at h
  · rename_i L v kk jj S H
    split at h
    · rename_i ci fs hc
      split at h
      · rename_i hci
        cases h
        obtain ⟨hci, hlen, hfit⟩ := hci
        subst hci
        refine ⟨x_gr.put _ _ _ _, x_mvP hc k (fun h hw => ⟨x_tl (x_tl h), fun w hw9 => ?_⟩) fun h ad pl tys ws e0 Hc locs ls cells slots h1 g2 g3 h3 h4 h5 h6 kk1 => ?_⟩
        · rcases List.mem_or_eq_of_mem_set hw9 with h9 | h9
          · exact hw w h9
          · rw [h9]; exact x_hd h
        · have g3 : e0 = .inr (q / 64 % 64, fs.map (x_cv ad)) := g3
          subst g3
          obtain ⟨n1, n2⟩ := x_fitok hkt hfit ad
          obtain ⟨c1, c2, c3, ty0, c4, -⟩ := hC
          have fin : ∀ (H1 : Heap) (locs1 : List Loc), va_P D vwCl (ws.set (pl kk jj) (ad kk jj, .inr (q / 64 % 64, (fs.map (x_cv ad)).set (q % 64) (x_cv ad v)))) H1 → va_D A (ws.set (pl kk jj) (ad kk jj, .inr (q / 64 % 64, (fs.map (x_cv ad)).set (q % 64) (x_cv ad v)))) → va_S A s.heap H1 locs1 → W p l e R s m args below meth c H1 locs1 cells slots Q (F0 m (pc + 3) ls (S.map (x_cv ad))) :=
            fun H1 locs1 a1 a2 a3 => kk1 _ H1 locs1 (by show _ = Sum.inr _; rw [List.map_set]) a1 a2 a3
          by_cases hq9 : q < 16384
          · rw [if_pos hq9] at hfin
            exact va_put hx hb hts c1 ty0 c4 c2 hown h5 h3 h4 h6 _ g2 hr (q % 64) hk (hts _ hl) (fun _ h => h) hfin hty n1 n2 (by rw [List.length_map]; exact hlen) hdg fin
          · rw [if_neg hq9] at hfin
            exact va_putF hx hb hts c1 ty0 c4 c2 hown h5 h3 h4 h6 _ g2 hr (q % 64) hk (hts _ hl) (fun _ h => h) (hfin (hq.resolve_left hq9).2).1 (hq.resolve_left hq9).1 (hfin (hq.resolve_left hq9).2).2 hty n1 n2 (by rw [List.length_map]; exact hlen) hdg fin
      · cases h
    · cases h
  · cases h
theorem x_sLald (hx : p.tables.exec = Jvm.exec) (hb : c.code = cc) (hdg : decode cc pc = .ok (.laload, 1)) (h : xI x_dd G rg .laload t = some t') (k : x_At p l e R s m args below meth c Q D A nL H0 ad0 (pc + 1) t') : x_gr t.2.2 t'.2.2 ∧ x_At p l e R s m args below meth c Q D A nL H0 ad0 pc t := by
  unfold xI x_rd at h
  dsimp only at h
  split at h
  · rename_i L z kk jj S H
    split at h
    · rename_i ty' N f hc
      by_cases hz : ty' = 3 ∧ 0 ≤ z ∧ z < N
      · obtain ⟨rfl, hz⟩ := hz
        simp only [true_and, if_pos hz, Option.map_some, Option.some.injEq] at h
        subst h
        refine ⟨x_gr.rf _, x_mvR k (fun hw h => x_f1' (x_tl (x_tl h)) (hw kk jj _ hc z.toNat)) fun h ad pl tys ws Hc locs ls cells slots h1 h3 h5 kk1 => ?_⟩
        obtain ⟨-, e0, g2, g3⟩ := h1.1 kk jj _ hc
        obtain ⟨-, cA, t0, ht, g4⟩ := g3
        dsimp only at g4 ht
        rw [if_pos rfl] at g4
        subst g4
        refine va_lald hx hb h5 h3 _ t0 g2 ht (x_vin (x_hd h) hz.1 hz.2) hdg ?_
        rw [x_cl (x_hd h)]
        exact kk1
      · simp only [if_neg hz, Option.map_none, reduceCtorEq] at h
    · cases h
  · cases h
theorem x_sLast (hx : p.tables.exec = Jvm.exec) (hb : c.code = cc) (hdg : decode cc pc = .ok (.lastore, 1)) (h : xI x_dd G rg .lastore t = some t') (k : x_At p l e R s m args below meth c Q D A nL H0 ad0 (pc + 1) t') : x_gr t.2.2 t'.2.2 ∧ x_At p l e R s m args below meth c Q D A nL H0 ad0 pc t := by
  unfold xI x_last at h
  dsimp only at h
  split at h
  · rename_i L x z kk jj S H
    split at h
    · rename_i ty' N f hc
      by_cases hz : ty' = 3 ∧ 0 ≤ z ∧ z < N
      · obtain ⟨rfl, hz⟩ := hz
        simp only [true_and, if_pos hz, Option.some.injEq] at h
        subst h
        refine ⟨x_gr.put _ _ _ _, x_mvP hc k (fun h hw => ⟨x_tl (x_tl (x_tl h)), fun j => ?_⟩) fun h ad pl tys ws e0 Hc locs ls cells slots h1 g2 g3 h3 h4 h5 h6 kk1 => ?_⟩
        · rw [if_pos rfl]
          dsimp only
          unfold xfu
          split
          · exact x_hd h
          · exact hw j
        · obtain ⟨-, cA, t0, ht, g4⟩ := g3
          dsimp only at g4 ht
          rw [if_pos rfl] at g4
          subst g4
          refine va_last hx hb h5 h3 h4 h6 _ t0 g2 ht (x_vin (x_hd (x_tl h)) hz.1 hz.2) hdg ?_
          rw [x_cl (x_hd (x_tl h)), x_updL]
          exact fun H1 locs1 a1 a2 a3 => kk1 _ H1 locs1 ⟨(by show 3 < 5; decide), cA, t0, ht, rfl⟩ a1 a2 a3
      · simp only [if_neg hz, reduceCtorEq] at h
    · cases h
  · cases h
theorem x_sAald (hx : p.tables.exec = Jvm.exec) (hb : c.code = cc) (hdg : decode cc pc = .ok (.aaload, 1)) (h : xI x_dd G rg .aaload t = some t') (k : x_At p l e R s m args below meth c Q D A nL H0 ad0 (pc + 1) t') : x_gr t.2.2 t'.2.2 ∧ x_At p l e R s m args below meth c Q D A nL H0 ad0 pc t := by
  unfold xI at h
  dsimp only at h
  split at h
  · rename_i L z kk jj S H
    split at h
    · rename_i ci N f hc
      split at h
      · rename_i hz
        split at h
        · rename_i r hr
          cases h
          refine ⟨x_gr.rf _, x_mvR k (fun hw h => x_f1' (x_tl (x_tl h)) (hw kk jj _ hc z.toNat r hr)) fun h ad pl tys ws Hc locs ls cells slots h1 h3 h5 kk1 => ?_⟩
          obtain ⟨-, e0, g2, g3⟩ := h1.1 kk jj _ hc
          obtain ⟨cA, t0, rc, hrc, ht, g4⟩ := g3
          dsimp only at g4 ht
          subst g4
          refine va_aldq hx hb h5 h3 _ t0 g2 ht (x_vin (x_hd h) hz.1 hz.2) hdg ?_
          rw [x_cl (x_hd h), hr]
          exact kk1
        · cases h
      · cases h
    · cases h
  · cases h
theorem x_sAast (hx : p.tables.exec = Jvm.exec) (hb : c.code = cc) (hdg : decode cc pc = .ok (.aastore, 1)) (h : xI x_dd G rg .aastore t = some t') (k : x_At p l e R s m args below meth c Q D A nL H0 ad0 (pc + 1) t') : x_gr t.2.2 t'.2.2 ∧ x_At p l e R s m args below meth c Q D A nL H0 ad0 pc t := by
  unfold xI at h
  dsimp only at h
  split at h
  · rename_i L k' j' z kk jj S H
    split at h
    · rename_i ci N f ci' fs hc hc'
      split at h
      · rename_i hz
        cases h
        obtain ⟨hci, hz⟩ := hz
        subst hci
        refine ⟨x_gr.put _ _ _ _, x_mvP hc k (fun h hw => ⟨x_tl (x_tl (x_tl h)), fun j r hj => ?_⟩) fun h ad pl tys ws e0 Hc locs ls cells slots h1 g2 g3 h3 h4 h5 h6 kk1 => ?_⟩
        · dsimp only at hj
          unfold xfu at hj
          split at hj
          · cases hj
            exact x_hd h
          · exact hw j r hj
        · obtain ⟨cA, t0, rc, hrc, ht, g4⟩ := g3
          dsimp only at g4 ht hrc
          subst g4
          obtain ⟨-, e9, g9, g8⟩ := h1.1 k' j' _ hc'
          have g8 : e9 = .inr (ci', fs.map (x_cv ad)) := g8
          subst g8
          refine va_astq hx hb h5 h3 h4 h6 _ t0 _ ci' g2 ht g9 hrc (x_vin (x_hd (x_tl h)) hz.1 hz.2) hdg ?_
          rw [x_cl (x_hd (x_tl h))]
          refine fun H1 locs1 a1 a2 a3 => kk1 _ H1 locs1 ⟨cA, t0, rc, hrc, ht, ?_⟩ a1 a2 a3
          have e : va_up (fun j => (f j).map (fun z => ad z.1 z.2)) z.toNat (some (ad k' j')) = fun j => (xfu f z.toNat (some (k', j')) j).map (fun z => ad z.1 z.2) := by
            funext j
            unfold va_up xfu
            split <;> rfl
          rw [e]
      · cases h
    · cases h
  · cases h
theorem x_sAlen (hx : p.tables.exec = Jvm.exec) (hb : c.code = cc) (hdg : decode cc pc = .ok (.arraylength, 1)) (h : xI x_dd G rg .arraylength t = some t') (k : x_At p l e R s m args below meth c Q D A nL H0 ad0 (pc + 1) t') : x_gr t.2.2 t'.2.2 ∧ x_At p l e R s m args below meth c Q D A nL H0 ad0 pc t := by
  have hn : ∀ N : Nat, Int32.ofNat N = Int32.ofInt N := fun N => rfl
  unfold xI at h
  dsimp only at h
  split at h
  · rename_i L kk jj S H
    split at h
    · rename_i ty N f hc
      split at h
      · rename_i hN
        cases h
        refine ⟨x_gr.rf _, x_mvR k (fun hw h => x_f1' (x_tl h) (by show xin _; unfold xin; omega)) fun h ad pl tys ws Hc locs ls cells slots h1 h3 h5 kk1 => ?_⟩
        obtain ⟨-, e0, g2, g3⟩ := h1.1 kk jj _ hc
        obtain ⟨-, cA, t0, ht, g4⟩ := g3
        subst g4
        exact va_alen hx hb h5 h3 _ t0 g2 ht (hn N) hdg kk1
      · cases h
    · rename_i ci N f hc
      split at h
      · rename_i hN
        cases h
        refine ⟨x_gr.rf _, x_mvR k (fun hw h => x_f1' (x_tl h) (by show xin _; unfold xin; omega)) fun h ad pl tys ws Hc locs ls cells slots h1 h3 h5 kk1 => ?_⟩
        obtain ⟨-, e0, g2, g3⟩ := h1.1 kk jj _ hc
        obtain ⟨cA, t0, rc, hrc, ht, g4⟩ := g3
        subst g4
        exact va_alen hx hb h5 h3 _ t0 g2 ht (hn N) hdg kk1
      · cases h
    · cases h
  · cases h
theorem x_sObj (X : x_Ctx xM nest K ini cc d p R s m args meth c A nL) {i : Nat} (hO : x_Ook K.1 i) (hdg : decode cc pc = .ok (.invokespecial i, 3)) (h : xI x_dd G rg .pop2 t = some t') (k : x_At p l e R s m args below meth c Q D A nL H0 ad0 (pc + 3) t') : x_gr t.2.2 t'.2.2 ∧ x_At p l e R s m args below meth c Q D A nL H0 ad0 pc t := by
  obtain ⟨hx, hb, hml, hown, hts, henv, hA, ⟨hR1, hR2, hR3⟩, -, -, -⟩ := X
  unfold xI at h
  dsimp only at h
  split at h
  · split at h
    · rename_i hc
      cases h
      refine ⟨x_gr.rf _, x_mv k (fun h _ => x_tl h) fun h ad Hc locs ls cells slots h7 kk => ?_⟩
      exact W.objInit hx hb hown (hts _ hO.1) (hts _ hO.2.1) (hts _ hO.2.2) rfl (by rw [hml]; exact h7.1) rfl hdg (by omega) (by rw [x_cats]; show 2 * 0 + _ + 12 ≤ _; omega) kk
    · cases h
  · cases h
end STEP2
