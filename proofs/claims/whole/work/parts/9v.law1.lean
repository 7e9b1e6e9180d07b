/-! ===== a class's method that throws; the law's helpers, which catch it ===== -/
abbrev x_nse : String := "java/util/NoSuchElementException"
abbrev x_nms : List String := ["java/lang/RuntimeException", "java/lang/Exception"]
abbrev x_jk : xV := .inr (.inr (.inr 2))
theorem x_asg (vm : Vm) (c : ClassId) : vm.assignable c c = true := by
  show vm.assignableAux (255 + 1) c c = true
  unfold Vm.assignableAux
  simp
theorem x_cast {args : Array Value} {s : State} {C : String} {n : Nat} (h : (Cond.instantiable C n).before args s = true) : (Cond.castable C C).before args s = true := by
  obtain ⟨c1, k1, hc1, -⟩ := Cond.instantiable_spec h
  simp [Cond.before, Cond.holds, Cond.value, hc1, x_asg]
set_option maxRecDepth 100000 in
theorem x_thrW0 : ∀ w ∈ (vx_at0 RX11 140 x_nse x_nms).filter goodWord, w ∈ lw_tbl := by decide +kernel
theorem x_thrW : ∀ w ∈ (vx_at0 RX11 140 x_nse x_nms).filter goodWord, w ∈ xT := fun w h => List.mem_filter.mpr ⟨x_thrW0 w h, (List.mem_filter.mp h).2⟩
set_option maxRecDepth 100000 in
theorem x_thrN : ∀ w ∈ (vx_at0 RX11 140 x_nse x_nms).filter (fun w => !goodWord w), w ∈ [Cond.castable x_nse x_nse, Cond.declares (Bundle.init0 "java/lang/RuntimeException"), Cond.declares (Bundle.init0 "java/lang/Exception"), Cond.declares (Bundle.init0 Bundle.tN)] := by decide +kernel
set_option maxRecDepth 100000 in
theorem x_thrG : ∀ w ∈ Cond.classLink RX11 138 x_nse :: Cond.initialized x_nse :: vx_at0 RX11 140 x_nse x_nms, vx_ot w = true := by decide +kernel
set_option maxRecDepth 100000 in
theorem x_w138 : Cond.classLink RX11 138 x_nse ∈ xT := x_in 1276 rfl rfl
set_option maxRecDepth 100000 in
theorem x_wini : Cond.initialized x_nse ∈ xT := x_in 112 rfl rfl
set_option maxRecDepth 100000 in
theorem x_wins : Cond.instantiable x_nse 6 ∈ xT := x_in 1277 rfl rfl
set_option maxRecDepth 100000 in
theorem x_w13 : Cond.classLink RL 13 x_nse ∈ xT := x_in 1271 rfl rfl
set_option maxRecDepth 100000 in
theorem x_wL : Cond.initialized RL ∈ xT := x_in 88 rfl rfl
theorem x_decl {args : Array Value} {s : State} {x : MethodName} {bytes : ByteArray} {n : Nat} {rt : Option FieldType} (hi : (Cond.instanceMethod x).before args s = true) (hc : (Cond.code x bytes n rt).before args s = true) : (Cond.declares x).before args s = true := by
  obtain ⟨mk, meth, hn, hm, hst, -⟩ := Cond.instanceMethod_spec hi
  obtain ⟨meth', c, h1, -, -, -, -, -, -, hsig⟩ := Cond.code_spec hn hc
  cases Option.some.inj (hm.symm.trans h1)
  simp [Cond.before, Cond.holds, Cond.value, hn, hm, hst, hsig]
set_option maxRecDepth 100000 in
theorem x_thrI : ∀ w ∈ [Cond.instanceMethod (Bundle.init0 "java/lang/RuntimeException"), Cond.instanceMethod (Bundle.init0 "java/lang/Exception"), Cond.instanceMethod (Bundle.init0 Bundle.tN), Cond.code (Bundle.init0 "java/lang/RuntimeException") Bundle.five 1 none, Cond.code (Bundle.init0 "java/lang/Exception") Bundle.five 1 none, Cond.code (Bundle.init0 Bundle.tN) Jvm.LibCode.Throwable.Init0.code 1 none], w ∈ (vx_at0 RX11 140 x_nse x_nms).filter goodWord := by decide +kernel
theorem x_thrD {args : Array Value} {s : State} (hT : ∀ w ∈ xT, w.before args s = true) : ∀ w ∈ vx_at0 RX11 140 x_nse x_nms, w.before args s = true := by
  have gw : ∀ w ∈ (vx_at0 RX11 140 x_nse x_nms).filter goodWord, w.before args s = true := fun w hw => hT w (x_thrW w hw)
  have gi : ∀ (i : Nat) (w : Cond), [Cond.instanceMethod (Bundle.init0 "java/lang/RuntimeException"), Cond.instanceMethod (Bundle.init0 "java/lang/Exception"), Cond.instanceMethod (Bundle.init0 Bundle.tN), Cond.code (Bundle.init0 "java/lang/RuntimeException") Bundle.five 1 none, Cond.code (Bundle.init0 "java/lang/Exception") Bundle.five 1 none, Cond.code (Bundle.init0 Bundle.tN) Jvm.LibCode.Throwable.Init0.code 1 none][i]? = some w → w.before args s = true := fun i w hw => gw w (x_thrI w (List.mem_of_getElem? hw))
  exact vx_hat gw x_thrN (vx_c (x_cast (hT _ x_wins)) (vx_c (x_decl (gi 0 _ rfl) (gi 3 _ rfl)) (vx_c (x_decl (gi 1 _ rfl) (gi 4 _ rfl)) (vx_c (x_decl (gi 2 _ rfl) (gi 5 _ rfl)) vx_n))))
/-- how a method ends that has thrown -/
def x_QX (D : va_G) (H H' : xH) (ad : Nat → Nat → Nat) (ws : va_W) (sz : Nat) : String → Unit → State → Prop := fun E _ t => E = x_nse ∧
  ∃ (ad' pl' : Nat → Nat → Nat) (tys' : List (ClassId × FieldType)) (ws' : va_W), x_W H' ad' pl' tys' ws' ∧ (∀ k i, i < (xrg H k).length → ad' k i = ad k i) ∧ va_P D vwCl ws' t.heap ∧ va_K D vwCl tys' t ∧ va_D (va_A ws sz) ws'
abbrev x_XC (D : va_G) (H H' : xH) (ad : Nat → Nat → Nat) (ws : va_W) (sz : Nat) : String → State → State → Prop := vx_X (fun _ : Unit => True) (x_QX D H H' ad ws sz) (va_A ws sz)
/-- the method y throws at these arguments, in d frames; H' is the heap then -/
def x_Thr (l : Launch) (D : va_G) (y : xMi) (d : Nat) (a : List xV) (H H' : xH) : Prop := x_gr H H' ∧ ∀ (ad pl : Nat → Nat → Nat) (tys : List (ClassId × FieldType)) (ws : va_W) (sz : Nat), x_W H ad pl tys ws → (∀ v ∈ a, x_ok H v) →
  vx_Met l y.1 (x_wds y) ({ frames := d, cells := xnc H' - xnc H + 1, slots := xns H' - xns H + 6, locals := 40 * d }) (x_Pc xN D a ad tys ws sz) (fun _ _ _ _ => False) (x_XC D H H' ad ws sz) (xnc H' - xnc H + 1) (xns H' - xns H + 6) (va_A ws sz)
theorem x_thr {d nL k pcT : Nat} {l : Launch} {D : va_G} {G : xG} {f : xP} {y : xMi} {brs : List Nat} (hl : l.stackTraces = false)
    (hI : x_Imp (xM, xN, KX11, false, y.2.1, d, nL, y.2.2.2.1, l, D, G) f 0 0 brs) (hG : x_Gok xM xN l D G d) (hpn : plainName y.1.cls = true) (hown : KX11.1 = y.1.cls) (hnL : nL = y.2.2.1) (hd : 6 ≤ d) (hb : brs[k]? = some pcT)
    (d0 : decode y.2.1 pcT = .ok (.new 138, 3)) (d3 : decode y.2.1 (pcT + 3) = .ok (.dup, 1)) (d4 : decode y.2.1 (pcT + 4) = .ok (.invokespecial 140, 3)) (d7 : decode y.2.1 (pcT + 7) = .ok (.athrow, 1))
    {a L' : List xV} {H H' : xH} (hlen : (x_args a).length ≤ nL) (hf : f (x_args a ++ List.replicate (nL - (x_args a).length) (.inr (.inr (.inr 2))), [], H) = some (.inl (k + 1), (L', [], H'))) : x_Thr l D y d a H H' := by
  obtain ⟨g1, w1⟩ := hI hG _ _ _ hf
  refine ⟨g1, fun ad pl tys ws sz h1 hok => ?_⟩
  refine vx_ofW (cc := y.2.1) (maxL := y.2.2.1) (ret := y.2.2.2.1) hpn rfl ?_
  intro p e s m args below meth c s₁ B hml ht hv
  obtain ⟨rfl, hsz, hP, hKc, hD0, henv, hstr⟩ := hv
  have hts := atoms_spec (ws := x_wds y) B.pre
  have hT : ∀ w ∈ xT, w.before (a.map (x_cv ad)).toArray s = true := fun w hw => hts w (List.mem_cons_of_mem _ hw)
  have hl9 := lv_entry (a.map (x_cv ad)) (n := y.2.2.1) (by rw [x_sl, ← hnL]; exact hlen)
  rw [lg_entry_eq]
  generalize (lg_sl (a.map (x_cv ad)) ++ List.replicate (y.2.2.1 - (lg_sl (a.map (x_cv ad))).length) Slot.unset).toArray = ls at hl9 ⊢
  subst hsz
  have hfc : s.vm.findClass KX11.1 = some m.cls := by rw [hown]; exact findClass_of_methodNamed B.named
  have X : x_Ctx xM xN KX11 false y.2.1 d p (headSpec (x_wds y) { frames := d, cells := xnc H' - xnc H + 1, slots := xns H' - xns H + 6, locals := 40 * d }).room s m (a.map (x_cv ad)).toArray meth c (va_A ws s.heap.size) nL :=
    ⟨B.exec, B.bytes, hml.trans hnL.symm, hfc, hT, henv, fun q h => Or.inr h, ⟨rfl, rfl, by omega⟩, (fun z => by cases z), kkX11, x_arr, hstr⟩
  have kT : x_At p l e (headSpec (x_wds y) { frames := d, cells := xnc H' - xnc H + 1, slots := xns H' - xns H + 6, locals := 40 * d }).room s m (a.map (x_cv ad)).toArray below meth c (vx_MQ below (fun _ _ _ _ => False) (x_XC D H H' ad ws s.heap.size) (a.map (x_cv ad)).toArray s (xnc H' - xnc H + 1) (xns H' - xns H + 6) (va_A ws s.heap.size)) D (va_A ws s.heap.size) nL H ad pcT (L', [], H') := by
    refine ⟨⟨Nat.le_succ _, by show xns H' - xns H ≤ xns H' - xns H + 6; omega⟩, fun hf ad' pl' tys' ws' Hc locs ls h1 h2 h3 h4 h5 h6 h7 => ?_⟩
    refine vx_throw0 (own := RX11) (cls := x_nse) (names := x_nms) (ik := 138) (ic := 140) (A := va_A ws s.heap.size) (rest := []) B.exec B.bytes hl hfc (by decide +kernel) (by decide +kernel) (hT _ x_w138) (hT _ x_wini)
      (x_thrD hT) x_thrG hstr.2.2.1 hstr.2.2.2 h6 (h7.1.trans (hnL.trans hml.symm)) d0 d3 d4 d7 (fun x hx => (ht x hx).elim)
      (by show 2 + 3 < d; omega) (by show 0 + (13 * (2 + 1) + 42) ≤ 40 * d; omega) (Nat.le_refl _) (Nat.le_refl _) B.notSynchronized (fun t hA hz hq => ?_) h6.2.2 (Nat.le_refl _) (Nat.le_refl _)
    exact ⟨(), trivial, ⟨rfl, ad', pl', tys', ws', h1, h2, h3.kept (fun k q hk => hq q.1 (vx_lt h3 hk)), va_K.moved hA h5, h4⟩, Nat.le_trans h6.1 hz, fun q hq1 hq2 => (hq q (Nat.lt_of_lt_of_le hq1 h6.1)).trans (h6.2.1 q hq1 hq2)⟩
  have fin := w1 p e _ s m _ below meth c _ _ H ad X ⟨pcT, hb, kT⟩
  have := fin.2 ⟨?_, ?_, (fun w hw => by cases hw), x_gr.rf _⟩ ad pl tys ws s.heap [] ls h1 (fun _ _ _ => rfl) hP (hD0.self (sz := s.heap.size)) hKc va_S.rf ⟨hl9.1.trans hnL.symm, hl9.2.1, fun i w hw hn => ?_⟩
  · dsimp only at this
    rw [Nat.sub_self, Nat.sub_self] at this
    exact this
  · dsimp only
    rw [List.length_append, List.length_replicate]
    omega
  · intro w hw
    rcases List.mem_append.mp hw with hw | hw
    · rcases x_args_in hw with h9 | h9
      · exact Or.inr (hok w h9)
      · exact Or.inl h9
    · exact Or.inl (List.mem_replicate.mp hw).2
  · by_cases z : i < (x_args a).length
    · rw [List.getElem?_append_left z] at hw
      have := x_entry (H := H) ad a i w 0 hw hn
      rw [Nat.zero_add] at this
      exact hl9.2.2 _ this
    · rw [List.getElem?_append_right (by omega)] at hw
      exact absurd (List.eq_of_mem_replicate (List.mem_of_getElem? hw)) hn
/-- a local that nobody looks at is written -/
theorem x_L.junk {ad : Nat → Nat → Nat} {L : List xV} {nL q : Nat} {ls' : Array Slot} {i : Nat} (hj : L[i]? = some x_jk) (hp : ∀ j, j + 1 = i → ∀ n, L[j]? ≠ some (.inr (.inl n)))
    (h' : lv_has ls' nL ((i, Value.ref q) :: (x_tL ad L).filter (fun q => !(q.1 == i) && !(q.1 + 1 == i && q.2.category == 2)))) : x_L ad L nL ls' := by
  refine ⟨h'.1, h'.2.1, fun j w hw hn => ?_⟩
  refine h'.2.2 (j, x_cv ad w) (List.mem_cons_of_mem _ (List.mem_filter.mpr ⟨x_tL_mem.mpr ⟨w, hw, hn, rfl⟩, ?_⟩))
  rw [x_cat]
  simp only [Bool.and_eq_true, Bool.not_eq_true', beq_eq_false_iff_ne, ne_eq, Bool.and_eq_false_iff]
  refine ⟨fun z => ?_, ?_⟩
  · subst z
    rw [hj] at hw
    exact hn (Option.some.inj hw).symm
  · by_cases z : j + 1 = i
    · refine Or.inr fun c => ?_
      match w, hw, c with
      | .inr (.inl n), hw, _ => exact hp j z n hw
    · exact Or.inl z
theorem x_nc_count (H : xH) (n : Nat) : xnc (xcount H n) = xnc H + 1 := rfl
theorem x_ns_count (H : xH) (n : Nat) : xns (xcount H n) = xns H + n := rfl
theorem x_gr.count (H : xH) (n : Nat) : x_gr H (xcount H n) := ⟨Nat.le_succ _, Nat.le_add_right _ _, fun k => by rw [xrg_xcount]; exact Nat.le_refl _⟩
theorem x_W.count {H : xH} {ad pl : Nat → Nat → Nat} {tys : List (ClassId × FieldType)} {ws : va_W} (h : x_W H ad pl tys ws) (n : Nat) : x_W (xcount H n) ad pl tys ws := by
  have e : ∀ k, xrg (xcount H n) k = xrg H k := xrg_xcount H n
  refine ⟨fun k i c hc => ?_, fun k i k' i' h1 h2 he => ?_⟩
  · have hc' : xcell H k i = some c := by unfold xcell at hc ⊢; rw [← e]; exact hc
    obtain ⟨a1, a2⟩ := h.1 k i c hc'
    exact ⟨a1.gr (x_gr.count H n), a2⟩
  · rw [e] at h1 h2
    exact h.2 k i k' i' h1 h2 he
section HX
variable {p : Program} {l : Launch} {e : Env} {R : Room} {s : State} {m : MethodId} {args : Array Value} {below : List Frame} {meth : Method} {c : Code} {Q : State → Prop} {D : va_G} {A : Nat → Prop} {nL : Nat} {H0 : xH} {ad0 : Nat → Nat → Nat}
variable {K : xK} {cc : ByteArray} {d : Nat} {pc idx q : Nat} {L S : List xV} {H H' : xH}
/-- a call that throws, and the handler that takes it: a local is written, the code goes on behind -/
theorem x_hX (X : x_Ctx xM xN K false cc d p R s m args meth c A nL) {y : xMi} {d' n kk jj hp len i : Nat} {fs : List xV} (hyq : xM[q / 16]? = some y) (hKc : K.1 = RL) (hL : x_Lok xM xN K.1 idx 0 q) (hdg : decode cc pc = .ok (.invokevirtual idx, 3)) (hd : d' + 1 ≤ d) (hnn : y.2.2.2.2 = n + 1)
    (hSn : S[n]? = some (.inr (.inr (.inl (kk, jj))))) (hcell : xcell H kk jj = some (.inl (q % 16, fs))) (i2 : ((S.drop (n + 1)).map xcat).sum ≤ 8) (hT : x_Thr l D y d' (.inr (.inr (.inl (kk, jj))) :: (S.take n).reverse) H H')
    {x : ExceptionTableEntry} (htab : c.exceptionTable.toList = [x]) (hcov : covers x pc = true) (hct : x.catchType = 13) (hhp : x.handlerPc = hp)
    (row : ∀ (z : Nat) (lv : List (Nat × Value)) (Hc : Heap) (locs : List Loc) (ls : Array Slot) (cells slots : Nat), lv_has ls nL lv → (∀ ls', lv_has ls' nL ((i, Value.ref z) :: lv.filter (fun q => !(q.1 == i) && !(q.1 + 1 == i && q.2.category == 2))) → W p l e R s m args below meth c Hc locs cells slots Q (F0 m (hp + len) ls' [])) → W p l e R s m args below meth c Hc locs cells slots Q (F0 m hp ls [.ref z]))
    (hj : L[i]? = some x_jk) (hpj : ∀ j, j + 1 = i → ∀ n, L[j]? ≠ some (.inr (.inl n)))
    (k : x_At p l e R s m args below meth c Q D A nL H0 ad0 (hp + len) (L, [], xcount H' 6)) : x_At p l e R s m args below meth c Q D A nL H0 ad0 pc (L, S, H) := by
  obtain ⟨y', hy', hM, hL⟩ := hL
  cases Option.some.inj (hyq.symm.trans hy')
  obtain ⟨hx, hb, hml, hown, hts, henv, hA, hR, -, -, -, hstr⟩ := X
  obtain ⟨hg, hMet⟩ := hT
  obtain ⟨⟨rc, hrc, hcls⟩, n9, hnn9, hpar⟩ := hL.2.2.2
  have hn9 : n9 = n := by omega
  subst hn9
  obtain ⟨e1, e2⟩ := x_take hSn
  obtain ⟨⟨k1, k1'⟩, k2⟩ := k
  dsimp only at k1 k1'
  rw [x_nc_count] at k1
  rw [x_ns_count] at k1'
  have g1 := hg.1
  have g2 := hg.2.1
  refine ⟨⟨by show xnc H - _ ≤ _; omega, by show xns H - _ ≤ _; omega⟩, fun hf ad pl tys ws Hc locs ls h1 h2 h3 h4 h5 h6 h7 => ?_⟩
  have f1 : xnc H0 ≤ xnc H := hf.2.2.2.1
  have f2 : xns H0 ≤ xns H := hf.2.2.2.2.1
  have hAA : ∀ q, va_A ws Hc.size q → A q := by
    rintro q (⟨j, e9, hj⟩ | hj)
    · exact h4.2 j _ hj
    · exact hA q (Nat.le_trans h6.1 hj)
  obtain ⟨-, e0, g2', g3⟩ := h1.1 kk jj _ hcell
  have g3 : e0 = .inr (q % 16, fs.map (x_cv ad)) := g3
  subst g3
  have hok := hf.2.2.1
  have hm1 := hMet ad pl tys ws Hc.size h1 (fun v hv => by
    rcases List.mem_cons.mp hv with rfl | hv
    · exact hok _ (List.mem_of_getElem? hSn)
    · exact hok v (List.mem_of_mem_take (List.mem_reverse.mp hv)))
  have hrecv := va_recv h5 h3 hrc g2'
  rw [hcls] at hrecv
  have hst : S.map (x_cv ad) = ((S.take n9).reverse.map (x_cv ad)).reverse ++ .ref (ad kk jj) :: (S.drop (n9 + 1)).map (x_cv ad) := by
    conv => lhs; rw [e2]
    rw [List.map_append, List.map_cons, List.map_reverse, List.reverse_reverse]
    rfl
  have hlt := (List.getElem?_eq_some_iff.mp hSn).1
  have hlen : ((S.take n9).reverse.map (x_cv ad)).length = n9 := by
    rw [List.length_map, List.length_reverse, List.length_take]
    omega
  have hcat : 2 * (F0 m pc ls (S.map (x_cv ad))).monitorRoom + (((S.drop (n9 + 1)).map (x_cv ad)).map fun v => v.category).sum ≤ 8 := by
    rw [x_cats]
    exact Nat.le_trans (by show 2 * 0 + _ ≤ _; omega) i2
  have hpre : PreV s Hc y.1.cls (ad kk jj) (x_Pc xN D (.inr (.inr (.inl (kk, jj))) :: (S.take n9).reverse) ad tys ws Hc.size) ((S.take n9).reverse.map (x_cv ad)) :=
    ⟨x_blind _ _ _ _ _ _ _, hrecv, fun U hU hW => ⟨rfl, by rw [hU], by rw [hU]; exact h3, va_K.moved hW.alike h5, h4.weaken (fun _ _ _ _ => trivial), henv.warm hW, hstr.to h6 hU hW hAA⟩⟩
  have hrun := vx_runV (p := p) (e := e) (below := below) (meth := meth) (c := c) (H := Hc) (locs := locs) (cells := xnc H - xnc H0) (slots := xns H - xns H0) (g := F0 m pc ls (S.map (x_cv ad))) (As := (S.take n9).reverse.map (x_cv ad)) (rest := (S.drop (n9 + 1)).map (x_cv ad)) ⟨hx, hb, hml, hown, hts⟩ hm1 (cwV n9 hts (x_goodV hM hL.1 hL.2.1 hL.2.2.1) rfl rfl rfl ⟨rfl, hM.2.2.1.1, hM.2.2.1.2, hpar⟩ (x_room hR hd hM.2.2.2.2)) hpre rfl hlen h7.1 hst hcat hdg ⟨by omega, by omega⟩
  intro T hT X
  rcases hrun T hT X with ⟨v, st₀, t, T', L9, -, -, -, -, -, hq, -⟩ | ⟨q9, st₀, t, T', L1, E, ce, h0, X9, hL9, e1', e2', ⟨u, -, ⟨hE, ad', pl', tys', ws', w1, w3, w4, w5, w6⟩, hz, hk⟩, hce, hcv, hcl, st⟩
  · exact absurd hq (fun z => z)
  · rw [h0] at hz hk
    subst hE
    have kW : ∀ ls', x_L ad' L nL ls' → W p l e R s m args below meth c T'.heap (locs ++ L1) (xnc H - xnc H0 + (xnc H' - xnc H + 1)) (xns H - xns H0 + (xns H' - xns H + 6)) Q (F0 m (hp + len) ls' []) := by
      intro ls' h7'
      have hW := k2 ⟨hf.1, fun v hv => (hf.2.1 v hv).imp id (fun z => x_ok.gr z (hg.tr (x_gr.count H' 6))), (fun v hv => by cases hv), x_gr.tr hf.2.2.2 (hg.tr (x_gr.count H' 6))⟩ ad' pl' tys' ws' T'.heap (locs ++ L1) ls' (w1.count 6) (fun k i hi => by rw [w3 k i (Nat.lt_of_lt_of_le hi (hf.2.2.2.2.2 k))]; exact h2 k i hi) (by rw [e1']; exact w4)
        (w6.weaken (fun _ q _ z => hAA q.1 z)) (va_K.moved (by rw [← e2']; exact X9.warmed.alike.symm) w5)
        ⟨Nat.le_trans h6.1 (by rw [e1']; exact hz), fun q h1 h2 => by rw [e1', hk q (Nat.lt_of_lt_of_le h1 h6.1) (fun z => h2 (hAA q z))]; exact h6.2.1 q h1 h2, fun q hq => by
          rcases List.mem_append.mp hq with h | h
          · exact h6.2.2 q h
          · exact hAA _ (hL9 q h)⟩ h7'
      dsimp only at hW
      rw [x_nc_count, x_ns_count, show xnc H' + 1 - xnc H0 = xnc H - xnc H0 + (xnc H' - xnc H + 1) by omega, show xns H' + 6 - xns H0 = xns H - xns H0 + (xns H' - xns H + 6) by omega] at hW
      exact hW
    have h7a : x_L ad' L nL ls := x_L.ad w3 hf.2.1 h7
    have kH := row q9 _ T'.heap (locs ++ L1) ls _ _ h7a.has (fun ls' h' => kW ls' (x_L.junk hj hpj h'))
    have hcast : (Cond.castable x_nse x_nse).before args s = true := x_cast (hts _ x_wins)
    have hc := vx_catch (own := K.1) (name := x_nse) (E := x_nse) (H := T'.heap) (q := q9) (pc := pc) (rest := (S.drop (n9 + 1)).map (x_cv ad)) hown [] x [] htab (fun z hz => nomatch hz) hcov (by rw [hct]; decide) (by rw [hct, hKc]; exact hts _ x_w13) hcast (by rw [e1']; exact hce) hcv hcl (by rw [hhp]; exact kH)
    obtain ⟨t2, a1, b1⟩ := hc T' rfl X9
    exact ⟨t2, st.trans a1, b1⟩
end HX
