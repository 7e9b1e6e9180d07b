/-! ===== the word of things: String.indexOf on it ===== -/
def sNo : Nat → Prop := fun _ => False
def sKn (aK aV : Nat → Nat) (A : Nat → Prop) (U : State) (H : Heap) : Prop := vk_S 1 [7] [x_byt] aK aV A U H ∧ va_Z "java/lang/String" "COMPACT_STRINGS" "Z" (.int 1) A U H
theorem sKn.to {aK aV : Nat → Nat} {A B : Nat → Prop} {s U : State} {H : Heap} {locs : List Loc} (h : sKn aK aV A s s.heap) (hS : va_S A s.heap H locs) (ha : s.vm.Alike U.vm) (hAB : ∀ q, B q → A q) : sKn aK aV B U H := ⟨((h.1.moved ha).kept hS.2.1).narrow hAB, ((h.2.moved ha).kept hS.2.1).narrow hAB⟩
def sPre (av : List Value) (aK aV : Nat → Nat) : Array Value → State → Prop := va_Pc av (fun U => sKn aK aV sNo U U.heap)
def sPost (v : Int32) : Array Value → State → Outcome → State → Prop := va_Qi (fun (r : Int32) (_ : Unit) => r = v) (fun _ _ => True) sNo
def sRoom (d : Nat) : Room := { frames := d, cells := 0, slots := 0, locals := 40 * d }
def sMet (l : Launch) (y : xMi) (d : Nat) (av : List Value) (aK aV : Nat → Nat) (v : Int32) : Prop := Met l y.1 (x_wds y) (sRoom d) (sPre av aK aV) (sPost v) 0 0 sNo
theorem s_blind (av : List Value) (aK aV : Nat → Nat) : FrameBlind (sPre av aK aV) := by
  intro a U g mk q
  exact ⟨q.1, q.2.1.moved (Vm.Alike.refl U.vm), q.2.2.moved (Vm.Alike.refl U.vm)⟩
section SW
variable {p : Program} {l : Launch} {e : Env} {R : Room} {s : State} {m : MethodId} {args : Array Value} {below : List Frame} {meth : Method} {c : Code} {Q : State → Prop} {D : va_G} {A : Nat → Prop} {nL : Nat} {H0 : xH} {ad0 : Nat → Nat → Nat}
/-- a method's beginning -/
theorem s_start {y : xMi} {d : Nat} {av : List Value} {aK aV : Nat → Nat} {v : Int32} (hy : plainFor y.1 = true) (hlen : (lg_sl av).length ≤ y.2.2.1)
    (body : ∀ (p : Program) (e : Env) (s : State) (m : MethodId) (args : Array Value) (below : List Frame) (meth : Method) (c : Code) (ls : Array Slot), p.tables.exec = Jvm.exec → c.code = y.2.1 → c.maxLocals = y.2.2.1 → s.vm.findClass y.1.cls = some m.cls → (∀ w ∈ xT, w.before args s = true) → meth.sig.returnType = y.2.2.2.1 → meth.locks = false → sKn aK aV sNo s s.heap → lv_has ls y.2.2.1 (lv_args 0 av) →
      W p l e (sRoom d) s m args below meth c s.heap [] 0 0 (MQ below (sPost v) args s 0 0 sNo) (F0 m 0 ls [])) : sMet l y d av aK aV v := by
  refine va_MetF (cc := y.2.1) (maxL := y.2.2.1) (ret := y.2.2.2.1) hy rfl ?_
  intro p e s m args below meth c s₁ B hml hv
  obtain ⟨rfl, hk⟩ := hv
  have hts := atoms_spec (ws := x_wds y) B.pre
  have hl := lv_entry av (n := y.2.2.1) hlen
  rw [lg_entry_eq]
  generalize (lg_sl av ++ List.replicate (y.2.2.1 - (lg_sl av).length) Slot.unset).toArray = ls at hl ⊢
  exact body p e s m _ below meth c ls B.exec B.bytes hml (findClass_of_methodNamed B.named) (fun w hw => hts w (List.mem_cons_of_mem _ hw)) B.returns B.notSynchronized hk hl
/-- its end -/
theorem s_iret {d : Nat} {cc : ByteArray} {pc : Nat} {ls : Array Slot} {H : Heap} {locs : List Loc} {v : Int32} (hx : p.tables.exec = Jvm.exec) (hb : c.code = cc) (hr : meth.sig.returnType = some .int) (hlocks : meth.locks = false) (hS : va_S sNo s.heap H locs) (hd : decode cc pc = .ok (.ireturn, 1)) :
    W p l e (sRoom d) s m args below meth c H locs 0 0 (MQ below (sPost v) args s 0 0 sNo) (F0 m pc ls [.int v]) :=
  W.iret (v := v) hx hb hr (fun t ht hW => ⟨⟨v, (), rfl, rfl, trivial⟩, hS.F ht⟩) hS.2.2 hd
theorem s_zret {d : Nat} {cc : ByteArray} {pc : Nat} {ls : Array Slot} {H : Heap} {locs : List Loc} {v : Int32} {ty : FieldType} (hx : p.tables.exec = Jvm.exec) (hb : c.code = cc) (hr : meth.sig.returnType = some ty) (hlocks : meth.locks = false) (hv : narrow ty (.int v) = .int v) (hS : va_S sNo s.heap H locs) (hd : decode cc pc = .ok (.ireturn, 1)) :
    W p l e (sRoom d) s m args below meth c H locs 0 0 (MQ below (sPost v) args s 0 0 sNo) (F0 m pc ls [.int v]) :=
  W.zret (v := v) hx hb hr hv (fun t ht hW => ⟨⟨v, (), rfl, rfl, trivial⟩, hS.F ht⟩) hS.2.2 hd
/-- calls -/
theorem s_callS {y : xMi} {d' nL idx pc cells slots : Nat} {own : String} {cc : ByteArray} {As rest : List Value} {aK aV : Nat → Nat} {v : Int32} {H : Heap} {locs : List Loc} {ls : Array Slot} {A0 : Nat → Prop} (hx : p.tables.exec = Jvm.exec) (hb : c.code = cc) (hml : c.maxLocals = nL) (hown : s.vm.findClass own = some m.cls) (hts : ∀ w ∈ xT, w.before args s = true)
    (hM : sMet l y d' As aK aV v) (hMok : x_Mok y) (hlk : Cond.methodLink own idx y.1 ∈ xT) (hst : Cond.static y.1 ∈ xT) (hpar : (parseMethodDescriptor y.1.desc).map (fun d => d.parameters.length) = some As.length) (hR : d' + 1 ≤ R.frames ∧ 40 * (d' + 1) ≤ R.locals) (hc : cells ≤ R.cells) (hs : slots ≤ R.slots)
    (hk : sKn aK aV A0 s s.heap) (hS : va_S A0 s.heap H locs) (hsz : ls.size = nL) (hcat : (rest.map fun v => v.category).sum ≤ 8) (hdg : decode cc pc = .ok (.invokestatic idx, 3))
    (kk : ∀ (H1 : Heap) (locs1 : List Loc), (∀ q, q < H.size → H1[q]? = H[q]?) → va_S A0 s.heap H1 locs1 → W p l e R s m args below meth c H1 locs1 cells slots Q (F0 m (pc + 3) ls (.int v :: rest))) :
    W p l e R s m args below meth c H locs cells slots Q (F0 m pc ls (As.reverse ++ rest)) := by
  have hpre : PreS s H (sPre As aK aV) As := ⟨s_blind _ _ _, fun U hU hW => ⟨rfl, by show sKn aK aV sNo U U.heap; rw [hU]; exact hk.to hS hW.alike (fun _ h => h.elim)⟩⟩
  have hr := va_runS (As := As) (rest := rest) (p := p) (e := e) (below := below) (meth := meth) (H := H) (locs := locs) (cells := cells) (slots := slots) (g := F0 m pc ls (As.reverse ++ rest)) ⟨hx, hb, hml, hown, hts⟩ hM (va_cwS As.length hts (x_goodS hMok hlk hst) rfl rfl rfl ⟨hMok.2.2.1.1, hMok.2.2.1.2, hpar⟩ ⟨hR.1, by have := hMok.2.2.2.2; have := hR.2; show 8 + (y.2.2.1 + 11) + 40 * d' ≤ _; omega⟩) hpre rfl rfl hsz rfl (by show 2 * 0 + _ ≤ _; omega) hdg ⟨hc, hs⟩
  refine va_calli hr hS (fun _ _ h => h.elim) (fun _ h => h.elim) (fun r u t H1 locs1 h1 h2 h3 h4 h5 h6 h7 => ?_)
  rw [h3]
  exact kk H1 locs1 (fun q hq => h6 q hq (fun h => h)) h7
theorem s_callV {y : xMi} {d' nL idx pc cells slots : Nat} {own : String} {cc : ByteArray} {As rest : List Value} {aK aV : Nat → Nat} {v : Int32} {H : Heap} {locs : List Loc} {ls : Array Slot} {A0 : Nat → Prop} (hx : p.tables.exec = Jvm.exec) (hb : c.code = cc) (hml : c.maxLocals = nL) (hown : s.vm.findClass own = some m.cls) (hts : ∀ w ∈ xT, w.before args s = true)
    (hcl : y.1.cls = "java/lang/String") (hM : sMet l y d' (.ref (aK 0) :: As) aK aV v) (hMok : x_Mok y) (hlk : Cond.methodLink own idx y.1 ∈ xT) (hin : Cond.instanceMethod y.1 ∈ xT) (hse : Cond.selects y.1.cls y.1 y.1 ∈ xT) (hpar : (parseMethodDescriptor y.1.desc).map (fun d => d.parameters.length) = some As.length) (hR : d' + 1 ≤ R.frames ∧ 40 * (d' + 1) ≤ R.locals) (hc : cells ≤ R.cells) (hs : slots ≤ R.slots)
    (hk : sKn aK aV A0 s s.heap) (hS : va_S A0 s.heap H locs) (hsz : ls.size = nL) (hcat : (rest.map fun v => v.category).sum ≤ 8) (hdg : decode cc pc = .ok (.invokevirtual idx, 3))
    (kk : ∀ (H1 : Heap) (locs1 : List Loc), (∀ q, q < H.size → H1[q]? = H[q]?) → va_S A0 s.heap H1 locs1 → W p l e R s m args below meth c H1 locs1 cells slots Q (F0 m (pc + 3) ls (.int v :: rest))) :
    W p l e R s m args below meth c H locs cells slots Q (F0 m pc ls (As.reverse ++ .ref (aK 0) :: rest)) := by
  have hrecv := vk_recv hk.1 (by decide : 0 < 1) hS
  have hpre : PreV s H y.1.cls (aK 0) (sPre (.ref (aK 0) :: As) aK aV) As := ⟨s_blind _ _ _, by rw [hcl]; exact hrecv, fun U hU hW => ⟨rfl, by show sKn aK aV sNo U U.heap; rw [hU]; exact hk.to hS hW.alike (fun _ h => h.elim)⟩⟩
  have hr := va_runV (As := As) (rest := rest) (p := p) (e := e) (below := below) (meth := meth) (H := H) (locs := locs) (cells := cells) (slots := slots) (g := F0 m pc ls (As.reverse ++ .ref (aK 0) :: rest)) ⟨hx, hb, hml, hown, hts⟩ hM (cwV As.length hts (x_goodV hMok hlk hin hse) rfl rfl rfl ⟨rfl, hMok.2.2.1.1, hMok.2.2.1.2, hpar⟩ ⟨hR.1, by have := hMok.2.2.2.2; have := hR.2; show 8 + (y.2.2.1 + 11) + 40 * d' ≤ _; omega⟩) hpre rfl rfl hsz rfl (by show 2 * 0 + _ ≤ _; omega) hdg ⟨hc, hs⟩
  refine va_calli hr hS (fun _ _ h => h.elim) (fun _ h => h.elim) (fun r u t H1 locs1 h1 h2 h3 h4 h5 h6 h7 => ?_)
  rw [h3]
  exact kk H1 locs1 (fun q hq => h6 q hq (fun h => h)) h7
/-- the methods -/
def sIx : xMi := (⟨"java/lang/String", "indexOf", "(I)I"⟩, prog_23_method_79_code, 2, some .int, 2)
def sIx2 : xMi := (⟨"java/lang/String", "indexOf", "(II)I"⟩, prog_23_method_80_code, 3, some .int, 3)
def sLa : xMi := (⟨"java/lang/String", "isLatin1", "()Z"⟩, prog_23_method_154_code, 1, some .boolean, 1)
def sL1 : xMi := (⟨"java/lang/StringLatin1", "indexOf", "([BIII)I"⟩, prog_24_method_22_code, 4, some .int, 4)
def sCe : xMi := (⟨"java/lang/StringLatin1", "canEncode", "(I)Z"⟩, prog_24_method_4_code, 1, some .boolean, 1)
def sLn : xMi := (⟨"java/lang/String", "length", "()I"⟩, prog_23_method_54_code, 1, some .int, 1)
def sCo : xMi := (⟨"java/lang/String", "coder", "()B"⟩, prog_23_method_152_code, 1, some .byte, 1)
def sIc : xMi := (⟨"java/lang/StringLatin1", "indexOfChar", "([BIII)I"⟩, prog_24_method_23_code, 6, some .int, 4)
set_option maxRecDepth 100000 in
theorem sIx_l : Cond.methodLink RX6 91 sIx.1 ∈ xT := x_in 665 rfl rfl
set_option maxRecDepth 100000 in
theorem sIx_i : Cond.instanceMethod sIx.1 ∈ xT := x_in 666 rfl rfl
set_option maxRecDepth 100000 in
theorem sIx_s : Cond.selects sIx.1.cls sIx.1 sIx.1 ∈ xT := x_in 667 rfl rfl
set_option maxRecDepth 100000 in
theorem sIx_c : Cond.code sIx.1 sIx.2.1 sIx.2.2.1 sIx.2.2.2.1 ∈ xT := x_in 668 rfl rfl
set_option maxRecDepth 100000 in
theorem sIx2_l : Cond.methodLink "java/lang/String" 633 sIx2.1 ∈ xT := x_in 669 rfl rfl
set_option maxRecDepth 100000 in
theorem sIx2_i : Cond.instanceMethod sIx2.1 ∈ xT := x_in 670 rfl rfl
set_option maxRecDepth 100000 in
theorem sIx2_s : Cond.selects sIx2.1.cls sIx2.1 sIx2.1 ∈ xT := x_in 671 rfl rfl
set_option maxRecDepth 100000 in
theorem sIx2_c : Cond.code sIx2.1 sIx2.2.1 sIx2.2.2.1 sIx2.2.2.2.1 ∈ xT := x_in 672 rfl rfl
set_option maxRecDepth 100000 in
theorem sLa_l : Cond.methodLink "java/lang/String" 492 sLa.1 ∈ xT := x_in 673 rfl rfl
set_option maxRecDepth 100000 in
theorem sLa_i : Cond.instanceMethod sLa.1 ∈ xT := x_in 674 rfl rfl
set_option maxRecDepth 100000 in
theorem sLa_s : Cond.selects sLa.1.cls sLa.1 sLa.1 ∈ xT := x_in 675 rfl rfl
set_option maxRecDepth 100000 in
theorem sLa_c : Cond.code sLa.1 sLa.2.1 sLa.2.2.1 sLa.2.2.2.1 ∈ xT := x_in 676 rfl rfl
set_option maxRecDepth 100000 in
theorem sLn_l : Cond.methodLink "java/lang/String" 505 sLn.1 ∈ xT := x_in 679 rfl rfl
set_option maxRecDepth 100000 in
theorem sLn_i : Cond.instanceMethod sLn.1 ∈ xT := x_in 680 rfl rfl
set_option maxRecDepth 100000 in
theorem sLn_s : Cond.selects sLn.1.cls sLn.1 sLn.1 ∈ xT := x_in 681 rfl rfl
set_option maxRecDepth 100000 in
theorem sLn_c : Cond.code sLn.1 sLn.2.1 sLn.2.2.1 sLn.2.2.2.1 ∈ xT := x_in 682 rfl rfl
set_option maxRecDepth 100000 in
theorem sCo_l : Cond.methodLink "java/lang/String" 335 sCo.1 ∈ xT := x_in 683 rfl rfl
set_option maxRecDepth 100000 in
theorem sCo_i : Cond.instanceMethod sCo.1 ∈ xT := x_in 684 rfl rfl
set_option maxRecDepth 100000 in
theorem sCo_s : Cond.selects sCo.1.cls sCo.1 sCo.1 ∈ xT := x_in 685 rfl rfl
set_option maxRecDepth 100000 in
theorem sCo_c : Cond.code sCo.1 sCo.2.1 sCo.2.2.1 sCo.2.2.2.1 ∈ xT := x_in 686 rfl rfl
set_option maxRecDepth 100000 in
theorem sL1_l : Cond.methodLink "java/lang/String" 637 sL1.1 ∈ xT := x_in 687 rfl rfl
set_option maxRecDepth 100000 in
theorem sL1_s : Cond.static sL1.1 ∈ xT := x_in 688 rfl rfl
set_option maxRecDepth 100000 in
theorem sL1_c : Cond.code sL1.1 sL1.2.1 sL1.2.2.1 sL1.2.2.2.1 ∈ xT := x_in 689 rfl rfl
set_option maxRecDepth 100000 in
theorem sCe_l : Cond.methodLink "java/lang/StringLatin1" 88 sCe.1 ∈ xT := x_in 690 rfl rfl
set_option maxRecDepth 100000 in
theorem sCe_s : Cond.static sCe.1 ∈ xT := x_in 691 rfl rfl
set_option maxRecDepth 100000 in
theorem sCe_c : Cond.code sCe.1 sCe.2.1 sCe.2.2.1 sCe.2.2.2.1 ∈ xT := x_in 692 rfl rfl
set_option maxRecDepth 100000 in
theorem sIc_l : Cond.methodLink "java/lang/StringLatin1" 95 sIc.1 ∈ xT := x_in 697 rfl rfl
set_option maxRecDepth 100000 in
theorem sIc_s : Cond.static sIc.1 ∈ xT := x_in 698 rfl rfl
set_option maxRecDepth 100000 in
theorem sIc_c : Cond.code sIc.1 sIc.2.1 sIc.2.2.1 sIc.2.2.2.1 ∈ xT := x_in 699 rfl rfl
set_option maxRecDepth 100000 in
theorem sStr_n : Cond.initialized "java/lang/String" ∈ xT := x_in 103 rfl rfl
set_option maxRecDepth 100000 in
theorem sLat_n : Cond.initialized "java/lang/StringLatin1" ∈ xT := x_in 104 rfl rfl
set_option maxRecDepth 100000 in
theorem sCom_f : Cond.fieldLink "java/lang/String" 38 "java/lang/String" "COMPACT_STRINGS" "Z" ∈ xT := x_in 677 rfl rfl
set_option maxRecDepth 100000 in
theorem sCod_f : Cond.fieldLink "java/lang/String" 15 "java/lang/String" "coder" "B" ∈ xT := x_in 1962 rfl rfl
set_option maxRecDepth 100000 in
theorem sVal_f : Cond.fieldLink "java/lang/String" 9 "java/lang/String" "value" "[B" ∈ xT := x_in 1963 rfl rfl
set_option maxRecDepth 100000 in
theorem sMax_l : Cond.methodLink "java/lang/StringLatin1" 92 Lib.Math.max.name ∈ xT := x_in 693 rfl rfl
set_option maxRecDepth 100000 in
theorem sMax_s : Cond.static Lib.Math.max.name ∈ xT := x_in 694 rfl rfl
set_option maxRecDepth 100000 in
theorem sMax_c : Cond.code Lib.Math.max.name Lib.Math.max.code 2 (some .int) ∈ xT := x_in 695 rfl rfl
set_option maxRecDepth 100000 in
theorem sMin_l : Cond.methodLink "java/lang/StringLatin1" 38 Lib.Math.min.name ∈ xT := x_in 696 rfl rfl
set_option maxRecDepth 100000 in
theorem sMin_s : Cond.static Lib.Math.min.name ∈ xT := x_in 529 rfl rfl
set_option maxRecDepth 100000 in
theorem sMin_c : Cond.code Lib.Math.min.name Lib.Math.min.code 2 (some .int) ∈ xT := x_in 530 rfl rfl
set_option maxRecDepth 100000 in
theorem sMat_n : Cond.initialized "java/lang/Math" ∈ xT := x_in 102 rfl rfl
theorem sIx_ok : x_Mok sIx := ⟨sIx_c, sStr_n, ⟨by decide, by decide⟩, by decide +kernel, by decide⟩
theorem sIx2_ok : x_Mok sIx2 := ⟨sIx2_c, sStr_n, ⟨by decide, by decide⟩, by decide +kernel, by decide⟩
theorem sLa_ok : x_Mok sLa := ⟨sLa_c, sStr_n, ⟨by decide, by decide⟩, by decide +kernel, by decide⟩
theorem sLn_ok : x_Mok sLn := ⟨sLn_c, sStr_n, ⟨by decide, by decide⟩, by decide +kernel, by decide⟩
theorem sCo_ok : x_Mok sCo := ⟨sCo_c, sStr_n, ⟨by decide, by decide⟩, by decide +kernel, by decide⟩
theorem sL1_ok : x_Mok sL1 := ⟨sL1_c, sLat_n, ⟨by decide, by decide⟩, by decide +kernel, by decide⟩
theorem sCe_ok : x_Mok sCe := ⟨sCe_c, sLat_n, ⟨by decide, by decide⟩, by decide +kernel, by decide⟩
theorem sIc_ok : x_Mok sIc := ⟨sIc_c, sLat_n, ⟨by decide, by decide⟩, by decide +kernel, by decide⟩
theorem sCe_p : (parseMethodDescriptor sCe.1.desc).map (fun d => d.parameters.length) = some 1 := by decide +kernel
theorem sIc_p : (parseMethodDescriptor sIc.1.desc).map (fun d => d.parameters.length) = some 4 := by decide +kernel
theorem sL1_p : (parseMethodDescriptor sL1.1.desc).map (fun d => d.parameters.length) = some 4 := by decide +kernel
theorem sIx_p : (parseMethodDescriptor sIx.1.desc).map (fun d => d.parameters.length) = some 1 := by decide +kernel
theorem sIx2_p : (parseMethodDescriptor sIx2.1.desc).map (fun d => d.parameters.length) = some 2 := by decide +kernel
theorem s_La (l : Launch) (d : Nat) (aK aV : Nat → Nat) : sMet l sLa d [.ref (aK 0)] aK aV 1 := by
  refine s_start (y := sLa) (by decide +kernel) (Nat.le_of_ble_eq_true rfl) ?_
  intro p e s m args below meth c ls hx hb hml hown hts hr hlocks hk hl
  have hl : lv_has ls 1 [(0, .ref (aK 0))] := hl
  have hS : va_S sNo s.heap s.heap [] := va_S.rf
  refine va_gets (C := "java/lang/String") (ref := "java/lang/String") (index := 38) hx hb hk.2 hS hown (hts _ sCom_f) (fun _ h => h) (by decide +kernel) ?_
  refine lv_if_eq (tgt := 17) (off := 14) hx hb (by decide +kernel) rfl (fun h => absurd h (by decide)) (fun _ => ?_)
  refine lv_aload_n (i := 0) (k := 0) hx hb (by decide +kernel) rfl (lv_at hl 0 rfl) ?_
  refine vk_getf (o := "java/lang/String") (ref := "java/lang/String") (index := 15) hx hb (hk.1.1 0 (by decide)).2.1 hS hown (hts _ sCod_f) (fun _ h => h) (by decide +kernel) ?_
  refine lv_if_ne (tgt := 17) (off := 7) hx hb (by decide +kernel) rfl (fun h => absurd rfl h) (fun _ => ?_)
  refine lv_iconst (n := 1) hx hb (by decide +kernel) rfl ?_
  refine lv_goto (off := 4) (tgt := 18) hx hb (by decide +kernel) rfl ?_
  exact s_zret hx hb hr hlocks rfl hS (by decide +kernel)
theorem s_Co (l : Launch) (d : Nat) (aK aV : Nat → Nat) : sMet l sCo d [.ref (aK 0)] aK aV 0 := by
  refine s_start (y := sCo) (by decide +kernel) (Nat.le_of_ble_eq_true rfl) ?_
  intro p e s m args below meth c ls hx hb hml hown hts hr hlocks hk hl
  have hl : lv_has ls 1 [(0, .ref (aK 0))] := hl
  have hS : va_S sNo s.heap s.heap [] := va_S.rf
  refine va_gets (C := "java/lang/String") (ref := "java/lang/String") (index := 38) hx hb hk.2 hS hown (hts _ sCom_f) (fun _ h => h) (by decide +kernel) ?_
  refine lv_if_eq (tgt := 13) (off := 10) hx hb (by decide +kernel) rfl (fun h => absurd h (by decide)) (fun _ => ?_)
  refine lv_aload_n (i := 0) (k := 0) hx hb (by decide +kernel) rfl (lv_at hl 0 rfl) ?_
  refine vk_getf (o := "java/lang/String") (ref := "java/lang/String") (index := 15) hx hb (hk.1.1 0 (by decide)).2.1 hS hown (hts _ sCod_f) (fun _ h => h) (by decide +kernel) ?_
  refine lv_goto (off := 4) (tgt := 14) hx hb (by decide +kernel) rfl ?_
  exact s_zret hx hb hr hlocks rfl hS (by decide +kernel)
theorem s_Ln (l : Launch) (d : Nat) (aK aV : Nat → Nat) : sMet l sLn (d + 1) [.ref (aK 0)] aK aV 7 := by
  refine s_start (y := sLn) (by decide +kernel) (Nat.le_of_ble_eq_true rfl) ?_
  intro p e s m args below meth c ls hx hb hml hown hts hr hlocks hk hl
  have hl : lv_has ls 1 [(0, .ref (aK 0))] := hl
  have hS : va_S sNo s.heap s.heap [] := va_S.rf
  refine lv_aload_n (i := 0) (k := 0) hx hb (by decide +kernel) rfl (lv_at hl 0 rfl) ?_
  refine vk_getf (o := "java/lang/String") (ref := "java/lang/String") (index := 9) hx hb (hk.1.1 0 (by decide)).2.2.1 hS hown (hts _ sVal_f) (fun _ h => h) (by decide +kernel) ?_
  refine va_tlen (v := 7) hx hb (hk.1.1 0 (by decide)).2.2.2 hS rfl (by decide +kernel) ?_
  refine lv_aload_n (i := 0) (k := 0) hx hb (by decide +kernel) rfl (lv_at hl 0 rfl) ?_
  refine s_callV (As := []) (y := sCo) (d' := d) (idx := 335) hx hb hml hown hts rfl (s_Co l d aK aV) sCo_ok sCo_l sCo_i sCo_s (by decide +kernel) ⟨Nat.le_refl _, Nat.le_refl _⟩ (Nat.le_refl _) (Nat.le_refl _) hk hS hl.1 (Nat.le_of_ble_eq_true rfl) (by decide +kernel) (fun H1 locs1 _ hS => ?_)
  refine lv_ishr hx hb (by decide +kernel) ?_
  refine W.eq (g2 := F0 m 10 ls [.int 7]) rfl ?_
  exact s_iret hx hb hr hlocks hS (by decide +kernel)
/-- can it be one byte -/
def sCeV (x : Int32) : Int32 := if x < 0 then 0 else if 255 < x then 0 else 1
theorem s_Ce (l : Launch) (d : Nat) (aK aV : Nat → Nat) (x : Int32) : sMet l sCe d [.int x] aK aV (sCeV x) := by
  refine s_start (y := sCe) (by decide +kernel) (Nat.le_of_ble_eq_true rfl) ?_
  intro p e s m args below meth c ls hx hb hml hown hts hr hlocks hk hl
  have hl : lv_has ls 1 [(0, .int x)] := hl
  have hS : va_S sNo s.heap s.heap [] := va_S.rf
  have no : ∀ v : Int32, sCeV x = v → v = 0 → W p l e (sRoom d) s m args below meth c s.heap [] 0 0 (MQ below (sPost (sCeV x)) args s 0 0 sNo) (F0 m 15 ls []) := by
    intro v h1 h2
    rw [h1, h2]
    refine lv_iconst (n := 0) hx hb (by decide +kernel) rfl ?_
    exact s_zret hx hb hr hlocks rfl hS (by decide +kernel)
  refine lv_iload_n (i := 0) (k := 0) hx hb (by decide +kernel) rfl (lv_at hl 0 rfl) ?_
  refine lv_if_lt (tgt := 15) (off := 14) hx hb (by decide +kernel) rfl (fun h => no _ (if_pos h) rfl) (fun h => ?_)
  refine lv_iload_n (i := 0) (k := 0) hx hb (by decide +kernel) rfl (lv_at hl 0 rfl) ?_
  refine lv_sipush (n := 255) (v := 255) hx hb (by decide +kernel) rfl ?_
  refine lv_icmp_gt (tgt := 15) (off := 7) hx hb (by decide +kernel) rfl (fun h2 => no _ (by unfold sCeV; rw [if_neg h, if_pos h2]) rfl) (fun h2 => ?_)
  have e : sCeV x = 1 := by unfold sCeV; rw [if_neg h, if_neg h2]
  rw [e]
  refine lv_iconst (n := 1) hx hb (by decide +kernel) rfl ?_
  refine lv_goto (off := 4) (tgt := 16) hx hb (by decide +kernel) rfl ?_
  exact s_zret hx hb hr hlocks rfl hS (by decide +kernel)
/-- the first place of a byte, from j on -/
def sAt (x : Int32) : Nat → Nat → Int32
  | 0, _ => -1
  | f + 1, j => if x_byt.getD j 0 = x then Int32.ofNat j else sAt x f (j + 1)
theorem s_IcL {p : Program} {e : Env} {s : State} {m : MethodId} {args : Array Value} {below : List Frame} {meth : Method} {c : Code} {d : Nat} {aK aV : Nat → Nat} {x : Int32} (hx : p.tables.exec = Jvm.exec) (hb : c.code = sIc.2.1) (hr : meth.sig.returnType = some .int) (hlocks : meth.locks = false) (hk : sKn aK aV sNo s s.heap) (x0 : Int32) (vv : Int32) :
    ∀ (f j : Nat) (ls : Array Slot), f + j = 7 → sAt x f j = vv → lv_has ls 6 [(5, .int (Int32.ofNat j)), (4, .int x), (0, .ref (aV 0)), (1, .int x0), (2, .int 0), (3, .int 7)] → W p l e (sRoom d) s m args below meth c s.heap [] 0 0 (MQ below (sPost vv) args s 0 0 sNo) (F0 m 7 ls [])
  | 0, j, ls, hf, hv, hl => by
    have hj : j = 7 := by omega
    subst hj
    have hS : va_S sNo s.heap s.heap [] := va_S.rf
    refine lv_iload (i := 5) hx hb (by decide +kernel) (lv_at hl 0 rfl) ?_
    refine lv_iload_n (i := 3) (k := 3) hx hb (by decide +kernel) rfl (lv_at hl 5 rfl) ?_
    refine lv_icmp_ge (tgt := 31) (off := 21) hx hb (by decide +kernel) rfl (fun _ => ?_) (fun h => absurd (by decide) h)
    refine lv_iconst (n := -1) hx hb (by decide +kernel) rfl ?_
    have hv : vv = -1 := hv.symm
    rw [hv]
    exact s_iret hx hb hr hlocks hS (by decide +kernel)
  | f + 1, j, ls, hf, hv, hl => by
    have hS : va_S sNo s.heap s.heap [] := va_S.rf
    have hj : j < 7 := by omega
    have hcl : (Int32.ofNat j).toNatClampNeg = j := nI_clamp (by omega)
    refine lv_iload (i := 5) hx hb (by decide +kernel) (lv_at hl 0 rfl) ?_
    refine lv_iload_n (i := 3) (k := 3) hx hb (by decide +kernel) rfl (lv_at hl 5 rfl) ?_
    refine lv_icmp_ge (tgt := 31) (off := 21) hx hb (by decide +kernel) rfl (fun h => absurd h (nI_ge (a := j) (b := 7) hj (by decide))) (fun h => ?_)
    refine lv_aload_n (i := 0) (k := 0) hx hb (by decide +kernel) rfl (lv_at hl 2 rfl) ?_
    refine lv_iload (i := 5) hx hb (by decide +kernel) (lv_at hl 0 rfl) ?_
    refine va_tb (v := .int (x_byt.getD j 0)) hx hb (hk.1.1 0 (by decide)).2.2.2 hS (nI_in (c := j) (N := 7) hj (by decide)) (by rw [hcl]; rfl) (by decide +kernel) ?_
    refine lv_iload (i := 4) hx hb (by decide +kernel) (lv_at hl 1 rfl) ?_
    refine lv_icmp_ne (tgt := 25) (off := 6) hx hb (by decide +kernel) rfl (fun h2 => ?_) (fun h2 => ?_)
    · refine lv_iinc (i := 5) (n := 1) (k := 0) (v := Int32.ofNat (j + 1)) hx hb (by decide +kernel) hl rfl (nI_succ j).symm (by decide) rfl (fun ls' hl' => ?_)
      refine lv_goto (off := -21) (tgt := 7) hx hb (by decide +kernel) rfl ?_
      refine s_IcL hx hb hr hlocks hk x0 vv f (j + 1) ls' (by omega) ?_ hl'
      have : sAt x (f + 1) j = sAt x f (j + 1) := by
        show (if x_byt.getD j 0 = x then _ else _) = _
        rw [if_neg h2]
      rw [← this]
      exact hv
    · refine lv_iload (i := 5) hx hb (by decide +kernel) (lv_at hl 0 rfl) ?_
      have : sAt x (f + 1) j = Int32.ofNat j := by
        show (if x_byt.getD j 0 = x then _ else _) = _
        rw [if_pos h2]
      rw [← hv, this]
      exact s_iret hx hb hr hlocks hS (by decide +kernel)
theorem s_Ic (l : Launch) (d : Nat) (aK aV : Nat → Nat) (x : Int32) : sMet l sIc d [.ref (aV 0), .int x, .int 0, .int 7] aK aV (sAt x.toInt8.toInt32 7 0) := by
  refine s_start (y := sIc) (by decide +kernel) (Nat.le_of_ble_eq_true rfl) ?_
  intro p e s m args below meth c ls hx hb hml hown hts hr hlocks hk hl
  have hl : lv_has ls 6 [(0, .ref (aV 0)), (1, .int x), (2, .int 0), (3, .int 7)] := hl
  refine lv_iload_n (i := 1) (k := 1) hx hb (by decide +kernel) rfl (lv_at hl 1 rfl) ?_
  refine lv_i2b hx hb (by decide +kernel) rfl ?_
  refine lv_istore (i := 4) hx hb (by decide +kernel) hl (by decide) rfl (fun ls1 hl1 => ?_)
  refine lv_iload_n (i := 2) (k := 2) hx hb (by decide +kernel) rfl (lv_at hl1 3 rfl) ?_
  refine lv_istore (i := 5) hx hb (by decide +kernel) hl1 (by decide) rfl (fun ls2 hl2 => ?_)
  exact s_IcL hx hb hr hlocks hk x _ 7 0 ls2 rfl rfl hl2
/-- String.indexOf on the word -/
def sIxV (x : Int32) : Int32 := if sCeV x = 0 then -1 else sAt x.toInt8.toInt32 7 0
theorem s_L1 (l : Launch) (d : Nat) (aK aV : Nat → Nat) (x : Int32) : sMet l sL1 (d + 1) [.ref (aV 0), .int x, .int 0, .int 7] aK aV (sIxV x) := by
  refine s_start (y := sL1) (by decide +kernel) (Nat.le_of_ble_eq_true rfl) ?_
  intro p e s m args below meth c ls hx hb hml hown hts hr hlocks hk hl
  have hl : lv_has ls 4 [(0, .ref (aV 0)), (1, .int x), (2, .int 0), (3, .int 7)] := hl
  have hS : va_S sNo s.heap s.heap [] := va_S.rf
  refine lv_iload_n (i := 1) (k := 1) hx hb (by decide +kernel) rfl (lv_at hl 1 rfl) ?_
  refine s_callS (As := [.int x]) (rest := []) (y := sCe) (d' := d) (idx := 88) hx hb hml hown hts (s_Ce l d aK aV x) sCe_ok sCe_l sCe_s sCe_p ⟨Nat.le_refl _, Nat.le_refl _⟩ (Nat.le_refl _) (Nat.le_refl _) hk hS hl.1 (Nat.zero_le _) (by decide +kernel) (fun H1 locs1 _ hS => ?_)
  refine lv_if_ne (tgt := 9) (off := 5) hx hb (by decide +kernel) rfl (fun h => ?_) (fun h => ?_)
  · have hv : sIxV x = sAt x.toInt8.toInt32 7 0 := if_neg h
    rw [hv]
    refine lv_iload_n (i := 2) (k := 2) hx hb (by decide +kernel) rfl (lv_at hl 2 rfl) ?_
    refine lv_iconst (n := 0) hx hb (by decide +kernel) rfl ?_
    refine va_mmax (index := 92) hx hb (by rw [hml]; exact hl.1.symm) hown (hts _ sMax_l) (hts _ sMax_s) (hts _ sMat_n) (hts _ sMax_c) (Nat.succ_le_succ (Nat.zero_le _)) (by show 0 + 13 ≤ 40 * (d + 1); omega) (Nat.le_refl _) (Nat.le_refl _) (by decide +kernel) ?_
    refine lv_istore_n (i := 2) (k := 2) hx hb (by decide +kernel) rfl hl (by decide) rfl (fun ls1 hl1 => ?_)
    refine lv_iload_n (i := 3) (k := 3) hx hb (by decide +kernel) rfl (lv_at hl1 3 rfl) ?_
    refine lv_aload_n (i := 0) (k := 0) hx hb (by decide +kernel) rfl (lv_at hl1 1 rfl) ?_
    refine va_tlen (v := 7) hx hb (hk.1.1 0 (by decide)).2.2.2 hS rfl (by decide +kernel) ?_
    refine va_mmin (index := 38) hx hb (by rw [hml]; exact hl1.1.symm) hown (hts _ sMin_l) (hts _ sMin_s) (hts _ sMat_n) (hts _ sMin_c) (Nat.succ_le_succ (Nat.zero_le _)) (by show 0 + 13 ≤ 40 * (d + 1); omega) (Nat.le_refl _) (Nat.le_refl _) (by decide +kernel) ?_
    refine lv_istore_n (i := 3) (k := 3) hx hb (by decide +kernel) rfl hl1 (by decide) rfl (fun ls2 hl2 => ?_)
    refine lv_iload_n (i := 2) (k := 2) hx hb (by decide +kernel) rfl (lv_at hl2 1 rfl) ?_
    refine lv_iload_n (i := 3) (k := 3) hx hb (by decide +kernel) rfl (lv_at hl2 0 rfl) ?_
    refine lv_icmp_lt (tgt := 29) (off := 5) hx hb (by decide +kernel) rfl (fun _ => ?_) (fun h => absurd (by decide) h)
    refine lv_aload_n (i := 0) (k := 0) hx hb (by decide +kernel) rfl (lv_at hl2 2 rfl) ?_
    refine lv_iload_n (i := 1) (k := 1) hx hb (by decide +kernel) rfl (lv_at hl2 3 rfl) ?_
    refine lv_iload_n (i := 2) (k := 2) hx hb (by decide +kernel) rfl (lv_at hl2 1 rfl) ?_
    refine lv_iload_n (i := 3) (k := 3) hx hb (by decide +kernel) rfl (lv_at hl2 0 rfl) ?_
    refine s_callS (As := [.ref (aV 0), .int x, .int 0, .int 7]) (rest := []) (y := sIc) (d' := d) (idx := 95) hx hb hml hown hts (s_Ic l d aK aV x) sIc_ok sIc_l sIc_s sIc_p ⟨Nat.le_refl _, Nat.le_refl _⟩ (Nat.le_refl _) (Nat.le_refl _) hk hS hl2.1 (Nat.zero_le _) (by decide +kernel) (fun H2 locs2 _ hS => ?_)
    exact s_iret hx hb hr hlocks hS (by decide +kernel)
  · have hv : sIxV x = -1 := if_pos h
    rw [hv]
    refine lv_iconst (n := -1) hx hb (by decide +kernel) rfl ?_
    exact s_iret hx hb hr hlocks hS (by decide +kernel)
theorem s_Ix2 (l : Launch) (d : Nat) (aK aV : Nat → Nat) (x : Int32) : sMet l sIx2 (d + 2) [.ref (aK 0), .int x, .int 0] aK aV (sIxV x) := by
  refine s_start (y := sIx2) (by decide +kernel) (Nat.le_of_ble_eq_true rfl) ?_
  intro p e s m args below meth c ls hx hb hml hown hts hr hlocks hk hl
  have hl : lv_has ls 3 [(0, .ref (aK 0)), (1, .int x), (2, .int 0)] := hl
  have hS : va_S sNo s.heap s.heap [] := va_S.rf
  refine lv_aload_n (i := 0) (k := 0) hx hb (by decide +kernel) rfl (lv_at hl 0 rfl) ?_
  refine s_callV (As := []) (rest := []) (y := sLa) (d' := d + 1) (idx := 492) hx hb hml hown hts rfl (s_La l (d + 1) aK aV) sLa_ok sLa_l sLa_i sLa_s (by decide +kernel) ⟨Nat.le_refl _, Nat.le_refl _⟩ (Nat.le_refl _) (Nat.le_refl _) hk hS hl.1 (Nat.zero_le _) (by decide +kernel) (fun H1 locs1 _ hS => ?_)
  refine lv_if_eq (tgt := 23) (off := 19) hx hb (by decide +kernel) rfl (fun h => absurd h (by decide)) (fun _ => ?_)
  refine lv_aload_n (i := 0) (k := 0) hx hb (by decide +kernel) rfl (lv_at hl 0 rfl) ?_
  refine vk_getf (o := "java/lang/String") (ref := "java/lang/String") (index := 9) hx hb (hk.1.1 0 (by decide)).2.2.1 hS hown (hts _ sVal_f) (fun _ h => h) (by decide +kernel) ?_
  refine lv_iload_n (i := 1) (k := 1) hx hb (by decide +kernel) rfl (lv_at hl 1 rfl) ?_
  refine lv_iload_n (i := 2) (k := 2) hx hb (by decide +kernel) rfl (lv_at hl 2 rfl) ?_
  refine lv_aload_n (i := 0) (k := 0) hx hb (by decide +kernel) rfl (lv_at hl 0 rfl) ?_
  refine s_callV (As := []) (rest := [.int 0, .int x, .ref (aV 0)]) (y := sLn) (d' := d + 1) (idx := 505) hx hb hml hown hts rfl (s_Ln l d aK aV) sLn_ok sLn_l sLn_i sLn_s (by decide +kernel) ⟨Nat.le_refl _, Nat.le_refl _⟩ (Nat.le_refl _) (Nat.le_refl _) hk hS hl.1 (Nat.le_of_ble_eq_true rfl) (by decide +kernel) (fun H2 locs2 _ hS => ?_)
  refine s_callS (As := [.ref (aV 0), .int x, .int 0, .int 7]) (rest := []) (y := sL1) (d' := d + 1) (idx := 637) hx hb hml hown hts (s_L1 l d aK aV x) sL1_ok sL1_l sL1_s sL1_p ⟨Nat.le_refl _, Nat.le_refl _⟩ (Nat.le_refl _) (Nat.le_refl _) hk hS hl.1 (Nat.zero_le _) (by decide +kernel) (fun H3 locs3 _ hS => ?_)
  refine lv_goto (off := 16) (tgt := 36) hx hb (by decide +kernel) rfl ?_
  exact s_iret hx hb hr hlocks hS (by decide +kernel)
theorem s_Ix (l : Launch) (d : Nat) (aK aV : Nat → Nat) (x : Int32) : sMet l sIx (d + 3) [.ref (aK 0), .int x] aK aV (sIxV x) := by
  refine s_start (y := sIx) (by decide +kernel) (Nat.le_of_ble_eq_true rfl) ?_
  intro p e s m args below meth c ls hx hb hml hown hts hr hlocks hk hl
  have hl : lv_has ls 2 [(0, .ref (aK 0)), (1, .int x)] := hl
  have hS : va_S sNo s.heap s.heap [] := va_S.rf
  refine lv_aload_n (i := 0) (k := 0) hx hb (by decide +kernel) rfl (lv_at hl 0 rfl) ?_
  refine lv_iload_n (i := 1) (k := 1) hx hb (by decide +kernel) rfl (lv_at hl 1 rfl) ?_
  refine lv_iconst (n := 0) hx hb (by decide +kernel) rfl ?_
  refine s_callV (As := [.int x, .int 0]) (rest := []) (y := sIx2) (d' := d + 2) (idx := 633) hx hb hml hown hts rfl (s_Ix2 l d aK aV x) sIx2_ok sIx2_l sIx2_i sIx2_s sIx2_p ⟨Nat.le_refl _, Nat.le_refl _⟩ (Nat.le_refl _) (Nat.le_refl _) hk hS hl.1 (Nat.zero_le _) (by decide +kernel) (fun H1 locs1 _ hS => ?_)
  exact s_iret hx hb hr hlocks hS (by decide +kernel)
end SW
