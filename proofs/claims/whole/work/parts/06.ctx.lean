/-! ===== the setting of a method, and one step of it ===== -/
/-- a method: name, code, locals, return type, how many arguments with the receiver -/
abbrev xMi : Type := MethodName × ByteArray × Nat × Option FieldType × Nat
/-- a class's constant pool as far as it is used: its name; fields; methods; classes made; rows of classes made; constants -/
abbrev xK : Type := String × List (Nat × Nat) × List (Nat × Nat × Nat) × List (Nat × Nat) × List (Nat × Nat) × List (Nat × Int) × List (Nat × Int)
def x_lk {α : Type} (l : List (Nat × α)) (i : Nat) : Option α := match l with
  | [] => none
  | (j, v) :: r => if i = j then some v else x_lk r i
theorem x_lk_mem {α : Type} : ∀ {l : List (Nat × α)} {i : Nat} {v : α}, x_lk l i = some v → (i, v) ∈ l
  | [], i, v, h => by cases h
  | (j, w) :: r, i, v, h => by
    unfold x_lk at h
    by_cases z : i = j
    · rw [if_pos z] at h
      cases h
      rw [z]
      exact List.mem_cons_self
    · rw [if_neg z] at h
      exact List.mem_cons_of_mem _ (x_lk_mem h)
/-- kinds of fields -/
def x_kty (t : Nat) (ty : FieldType) : Prop := match t with
  | 0 => ty = .int
  | 1 => ty = .boolean
  | 2 => (∃ n, ty = .object n) ∨ ∃ t, ty = .array t
  | 3 => ty = .long
  | _ => False
/-- what is known of a class -/
def x_Cok (ci : Nat) (r : vw_C) : Prop := (∀ w ∈ u_ws r.1 r.2.1 r.2.2, w ∈ xT) ∧ (∀ a, a < r.2.2 → ∀ b, b < r.2.2 → a ≠ b → (r.2.1 a).2.1 ≠ (r.2.1 b).2.1) ∧ (x_dd ci).length = r.2.2 ∧
  ∃ ty0 : Nat → FieldType, (∀ k, k < r.2.2 → parseFieldDescriptor (r.2.1 k).2.2.1 = some (ty0 k)) ∧ (∀ j, j < r.2.2 → ∀ ad, defaultValue (ty0 j) = vp_V ((x_dd ci).map (x_cv ad)) j) ∧ ∀ H, ∀ v ∈ x_dd ci, x_ok H v
def x_Fok (own : String) (idx code : Nat) : Prop := ∃ (r : vw_C) (ty : FieldType), vwCl[code / 64 % 64]? = some r ∧ x_Cok (code / 64 % 64) r ∧ code % 64 < r.2.2 ∧ Cond.fieldLink own idx (r.2.1 (code % 64)).1 (r.2.1 (code % 64)).2.1 (r.2.1 (code % 64)).2.2.1 ∈ xT ∧
  parseFieldDescriptor (r.2.1 (code % 64)).2.2.1 = some ty ∧ x_kty (code / 4096 % 4) ty ∧ if code < 16384 then (r.2.1 (code % 64)).2.2.2 = false else code < 32768 → (r.2.1 (code % 64)).2.2.2 = true ∧ (r.2.1 (code % 64)).1 = own
def x_Nok (own : String) (idx ci : Nat) : Prop := ∃ r : vw_C, vwCl[ci]? = some r ∧ x_Cok ci r ∧ Cond.classLink own idx r.1 ∈ xT ∧ Cond.instantiable r.1 r.2.2 ∈ xT ∧ Cond.initialized r.1 ∈ xT
def x_aos : List String := [RX0, RX3, RX5, RX7]
def x_Aok (own : String) (idx ci : Nat) : Prop := ∃ r : vw_C, vwCl[ci]? = some r ∧ Cond.classLink own idx r.1 ∈ xT ∧ r.1 ∈ x_aos
def x_Mok (q : xMi) : Prop := Cond.code q.1 q.2.1 q.2.2.1 q.2.2.2.1 ∈ xT ∧ Cond.initialized q.1.cls ∈ xT ∧ (q.1.cls ≠ "java/lang/invoke/MethodHandle" ∧ q.1.cls ≠ "java/lang/invoke/VarHandle") ∧ plainFor q.1 = true ∧ q.2.2.1 ≤ 21
/-- a link of a nest mate's: the caller's class, the index, the method -/
def x_host : String := RX11
/-- calls: 0 virtual, 1 virtual of a nest mate, 2 static, 3 static of a nest mate, 4 a constructor, 5 a nest mate's; q is 16 method + class -/
def x_Lok (xM : List xMi) (nest : List (String × Nat × MethodName)) (own : String) (idx kd q : Nat) : Prop := ∃ y : xMi, xM[q / 16]? = some y ∧ x_Mok y ∧
  match kd with
  | 0 => Cond.methodLink own idx y.1 ∈ xT ∧ Cond.instanceMethod y.1 ∈ xT ∧ Cond.selects y.1.cls y.1 y.1 ∈ xT ∧ (∃ r : vw_C, vwCl[q % 16]? = some r ∧ r.1 = y.1.cls) ∧ ∃ n, y.2.2.2.2 = n + 1 ∧ (parseMethodDescriptor y.1.desc).map (fun d => d.parameters.length) = some n
  | 1 => (own, idx, y.1) ∈ nest ∧ Cond.instanceMethod y.1 ∈ xT ∧ Cond.selects y.1.cls y.1 y.1 ∈ xT ∧ (∃ r : vw_C, vwCl[q % 16]? = some r ∧ r.1 = y.1.cls) ∧ ∃ n, y.2.2.2.2 = n + 1 ∧ (parseMethodDescriptor y.1.desc).map (fun d => d.parameters.length) = some n
  | 2 => Cond.methodLink own idx y.1 ∈ xT ∧ Cond.static y.1 ∈ xT ∧ (parseMethodDescriptor y.1.desc).map (fun d => d.parameters.length) = some y.2.2.2.2
  | 3 => (own, idx, y.1) ∈ nest ∧ Cond.static y.1 ∈ xT ∧ (parseMethodDescriptor y.1.desc).map (fun d => d.parameters.length) = some y.2.2.2.2
  | 4 => Cond.methodLink own idx y.1 ∈ xT ∧ Cond.instanceMethod y.1 ∈ xT ∧ y.1.name = "<init>" ∧ y.2.2.2.1 = none ∧ ∃ n, y.2.2.2.2 = n + 1 ∧ (parseMethodDescriptor y.1.desc).map (fun d => d.parameters.length) = some n
  | 5 => (own, idx, y.1) ∈ nest ∧ Cond.instanceMethod y.1 ∈ xT ∧ y.1.name = "<init>" ∧ y.2.2.2.1 = none ∧ ∃ n, y.2.2.2.2 = n + 1 ∧ (parseMethodDescriptor y.1.desc).map (fun d => d.parameters.length) = some n
  | _ => False
/-- Object's constructor: kind 6 -/
def x_Ook (own : String) (idx : Nat) : Prop := Cond.methodLink own idx Lib.objectInit ∈ xT ∧ Cond.instanceMethod Lib.objectInit ∈ xT ∧ Cond.code Lib.objectInit ⟨#[0xb1]⟩ 1 none ∈ xT
def x_Kok (xM : List xMi) (nest : List (String × Nat × MethodName)) (K : xK) : Prop :=
  (∀ q ∈ K.2.1, x_Fok K.1 q.1 q.2) ∧ (∀ q ∈ K.2.2.1, if q.2.1 = 6 then x_Ook K.1 q.1 else x_Lok xM nest K.1 q.1 q.2.1 q.2.2) ∧ (∀ q ∈ K.2.2.2.1, x_Nok K.1 q.1 q.2) ∧ (∀ q ∈ K.2.2.2.2.1, x_Aok K.1 q.1 q.2) ∧
  (∀ q ∈ K.2.2.2.2.2.1, Cond.constant K.1 q.1 (Int32.ofInt q.2) ∈ xT ∧ xin q.2) ∧ (∀ q ∈ K.2.2.2.2.2.2, Cond.constantLong K.1 q.1 (Int64.ofInt q.2) ∈ xT ∧ xlin q.2)
/-- rows of small kinds can be made -/
def x_arrs : Prop := Cond.arrayClass .int ∈ xT ∧ Cond.arrayClass .byte ∈ xT ∧ Cond.arrayClass .char ∈ xT ∧ Cond.arrayClass .long ∈ xT ∧ Cond.arrayClass .boolean ∈ xT
/-- what every method finds: nest mates' links, rows of objects -/
def x_env (nest : List (String × Nat × MethodName)) (U : State) : Prop := (∀ q ∈ nest, va_Nw (.methodLinkNest q.1 q.2.1 q.2.2 x_host) U) ∧ ∀ C ∈ x_aos, va_AO C U
theorem x_env.warm {nest : List (String × Nat × MethodName)} {s U : State} (h : x_env nest s) (hW : s.WarmedH U.vm) : x_env nest U := ⟨fun q hq => va_Nw.warmM hW (h.1 q hq), fun C hC => (h.2 C hC).moved hW.alike⟩
theorem x_env.same {nest : List (String × Nat × MethodName)} {s U : State} (h : x_env nest s) (hv : s.vm = U.vm) : x_env nest U := ⟨fun q hq => va_Nw.same rfl hv (h.1 q hq), fun C hC => (h.2 C hC).moved (by rw [hv]; exact Vm.Alike.refl _)⟩
/-- what lies in the heap from the start: the word that names things, how words are kept, what a new exception looks at -/
def x_byt : List Int32 := [112, 104, 100, 119, 115, 103, 108]
def x_str (A : Nat → Prop) (U : State) : Prop := (∃ aK aV : Nat → Nat, vk_R RX6 89 "phdwsgl" (aK 0) U ∧ vk_S 1 [7] [x_byt] aK aV A U U.heap) ∧ va_Z "java/lang/String" "COMPACT_STRINGS" "Z" (.int 1) A U U.heap ∧ vx_Zq Bundle.tN "UNASSIGNED_STACK" Bundle.steD A U U.heap ∧ vx_Zq Bundle.tN "SUPPRESSED_SENTINEL" Bundle.listD A U U.heap
theorem x_str.to {A B : Nat → Prop} {s U : State} {Hc : Heap} {locs : List Loc} (h : x_str A s) (hS : va_S A s.heap Hc locs) (hU : U.heap = Hc) (hW : s.WarmedH U.vm) (hAB : ∀ q, B q → A q) : x_str B U := by
  obtain ⟨⟨aK, aV, h1, h2⟩, h3, h4, h5⟩ := h
  unfold x_str
  rw [hU]
  exact ⟨⟨aK, aV, h1.warm hW, ((h2.moved hW.alike).kept hS.2.1).narrow hAB⟩, ((h3.moved hW.alike).kept hS.2.1).narrow hAB, ((h4.moved hW.alike).kept hS.2.1).narrow hAB, ((h5.moved hW.alike).kept hS.2.1).narrow hAB⟩
theorem x_str.same {A : Nat → Prop} {s U : State} (h : x_str A s) (hv : s.vm = U.vm) (hh : U.heap = s.heap) : x_str A U := by
  obtain ⟨⟨aK, aV, h1, h2⟩, h3, h4, h5⟩ := h
  have ha : s.vm.Alike U.vm := by rw [hv]; exact Vm.Alike.refl _
  unfold x_str
  rw [hh]
  exact ⟨⟨aK, aV, h1.same hv.symm, h2.moved ha⟩, h3.moved ha, h4.moved ha, h5.moved ha⟩
/-- the setting -/
def x_Ctx (xM : List xMi) (nest : List (String × Nat × MethodName)) (K : xK) (ini : Bool) (cc : ByteArray) (d : Nat) (p : Program) (R : Room) (s : State) (m : MethodId) (args : Array Value) (meth : Method) (c : Code) (A : Nat → Prop) (nL : Nat) : Prop :=
  p.tables.exec = Jvm.exec ∧ c.code = cc ∧ c.maxLocals = nL ∧ s.vm.findClass K.1 = some m.cls ∧ (∀ w ∈ xT, w.before args s = true) ∧ x_env nest s ∧ (∀ q, s.heap.size ≤ q → A q) ∧ (R.frames = d ∧ R.locals = 40 * d ∧ 1 ≤ d) ∧ (ini = true → meth.name = "<init>") ∧ x_Kok xM nest K ∧ x_arrs ∧ x_str A s
def x_fw (nL : Nat) (H0 : xH) (t : xS) : Prop := t.1.length = nL ∧ (∀ v ∈ t.1, v = .inr (.inr (.inr 2)) ∨ x_ok t.2.2 v) ∧ (∀ v ∈ t.2.1, x_ok t.2.2 v) ∧ x_gr H0 t.2.2
section AT
variable {p : Program} {l : Launch} {e : Env} {R : Room} {s : State} {m : MethodId} {args : Array Value} {below : List Frame} {meth : Method} {c : Code} {Q : State → Prop} {D : va_G} {A : Nat → Prop} {nL : Nat} {H0 : xH} {ad0 : Nat → Nat → Nat}
/-- the machine stands at pc with this small state: it goes on well -/
def x_At (p : Program) (l : Launch) (e : Env) (R : Room) (s : State) (m : MethodId) (args : Array Value) (below : List Frame) (meth : Method) (c : Code) (Q : State → Prop) (D : va_G) (A : Nat → Prop) (nL : Nat) (H0 : xH) (ad0 : Nat → Nat → Nat) (pc : Nat) (t : xS) : Prop :=
  (xnc t.2.2 - xnc H0 ≤ R.cells ∧ xns t.2.2 - xns H0 ≤ R.slots) ∧
  (x_fw nL H0 t → ∀ (ad pl : Nat → Nat → Nat) (tys : List (ClassId × FieldType)) (ws : va_W) (H : Heap) (locs : List Loc) (ls : Array Slot), x_W t.2.2 ad pl tys ws → (∀ k i, i < (xrg H0 k).length → ad k i = ad0 k i) →
    va_P D vwCl ws H → va_D A ws → va_K D vwCl tys s → va_S A s.heap H locs → x_L ad t.1 nL ls → W p l e R s m args below meth c H locs (xnc t.2.2 - xnc H0) (xns t.2.2 - xns H0) Q (F0 m pc ls (t.2.1.map (x_cv ad))))
/-- locals and heap stay -/
theorem x_mv {pc pc' : Nat} {L S S' : List xV} {H : xH} (k : x_At p l e R s m args below meth c Q D A nL H0 ad0 pc' (L, S', H)) (hok : (∀ v ∈ S, x_ok H v) → (∀ v ∈ L, v = .inr (.inr (.inr 2)) ∨ x_ok H v) → ∀ v ∈ S', x_ok H v)
    (hW : (∀ v ∈ S, x_ok H v) → ∀ (ad : Nat → Nat → Nat) (Hc : Heap) (locs : List Loc) (ls : Array Slot) (cells slots : Nat), x_L ad L nL ls → W p l e R s m args below meth c Hc locs cells slots Q (F0 m pc' ls (S'.map (x_cv ad))) → W p l e R s m args below meth c Hc locs cells slots Q (F0 m pc ls (S.map (x_cv ad)))) : x_At p l e R s m args below meth c Q D A nL H0 ad0 pc (L, S, H) := by
  refine ⟨k.1, fun hf ad pl tys ws Hc locs ls h1 h2 h3 h4 h5 h6 h7 => ?_⟩
  exact hW hf.2.2.1 ad Hc locs ls _ _ h7 (k.2 ⟨hf.1, hf.2.1, hok hf.2.2.1 hf.2.1, hf.2.2.2⟩ ad pl tys ws Hc locs ls h1 h2 h3 h4 h5 h6 h7)
/-- a local is written -/
theorem x_mvL {pc pc' : Nat} {L L' S S' : List xV} {H : xH} (k : x_At p l e R s m args below meth c Q D A nL H0 ad0 pc' (L', S', H)) (hlen : L'.length = L.length) (hok : (∀ v ∈ S, x_ok H v) → (∀ v ∈ L, v = .inr (.inr (.inr 2)) ∨ x_ok H v) → (∀ v ∈ S', x_ok H v) ∧ ∀ v ∈ L', v = .inr (.inr (.inr 2)) ∨ x_ok H v)
    (hW : L.length = nL → (∀ v ∈ S, x_ok H v) → ∀ (ad : Nat → Nat → Nat) (Hc : Heap) (locs : List Loc) (ls : Array Slot) (cells slots : Nat), x_L ad L nL ls → (∀ ls', x_L ad L' nL ls' → W p l e R s m args below meth c Hc locs cells slots Q (F0 m pc' ls' (S'.map (x_cv ad)))) → W p l e R s m args below meth c Hc locs cells slots Q (F0 m pc ls (S.map (x_cv ad)))) : x_At p l e R s m args below meth c Q D A nL H0 ad0 pc (L, S, H) := by
  refine ⟨k.1, fun hf ad pl tys ws Hc locs ls h1 h2 h3 h4 h5 h6 h7 => ?_⟩
  obtain ⟨g1, g2⟩ := hok hf.2.2.1 hf.2.1
  exact hW hf.1 hf.2.2.1 ad Hc locs ls _ _ h7 (fun ls' h7' => k.2 ⟨hlen.trans hf.1, g2, g1, hf.2.2.2⟩ ad pl tys ws Hc locs ls' h1 h2 h3 h4 h5 h6 h7')
/-- a cell is read -/
theorem x_mvR {pc pc' : Nat} {L S S' : List xV} {H : xH} (k : x_At p l e R s m args below meth c Q D A nL H0 ad0 pc' (L, S', H)) (hok : (∀ k i c, xcell H k i = some c → x_wf H c) → (∀ v ∈ S, x_ok H v) → ∀ v ∈ S', x_ok H v)
    (hW : (∀ v ∈ S, x_ok H v) → ∀ (ad pl : Nat → Nat → Nat) (tys : List (ClassId × FieldType)) (ws : va_W) (Hc : Heap) (locs : List Loc) (ls : Array Slot) (cells slots : Nat), x_W H ad pl tys ws → va_P D vwCl ws Hc → va_K D vwCl tys s → W p l e R s m args below meth c Hc locs cells slots Q (F0 m pc' ls (S'.map (x_cv ad))) → W p l e R s m args below meth c Hc locs cells slots Q (F0 m pc ls (S.map (x_cv ad)))) : x_At p l e R s m args below meth c Q D A nL H0 ad0 pc (L, S, H) := by
  refine ⟨k.1, fun hf ad pl tys ws Hc locs ls h1 h2 h3 h4 h5 h6 h7 => ?_⟩
  exact hW hf.2.2.1 ad pl tys ws Hc locs ls _ _ h1 h3 h5 (k.2 ⟨hf.1, hf.2.1, hok (fun k i c h => (h1.1 k i c h).1) hf.2.2.1, hf.2.2.2⟩ ad pl tys ws Hc locs ls h1 h2 h3 h4 h5 h6 h7)
/-- a cell is written -/
theorem x_mvP {pc pc' : Nat} {L S S' : List xV} {H : xH} {k0 i0 : Nat} {c0 c1 : xC} (hc : xcell H k0 i0 = some c0) (k : x_At p l e R s m args below meth c Q D A nL H0 ad0 pc' (L, S', xput H k0 i0 c1)) (hok : (∀ v ∈ S, x_ok H v) → x_wf H c0 → (∀ v ∈ S', x_ok H v) ∧ x_wf H c1)
    (hW : (∀ v ∈ S, x_ok H v) → ∀ (ad pl : Nat → Nat → Nat) (tys : List (ClassId × FieldType)) (ws : va_W) (e0 : va_E) (Hc : Heap) (locs : List Loc) (ls : Array Slot) (cells slots : Nat), x_W H ad pl tys ws → ws[pl k0 i0]? = some (ad k0 i0, e0) → x_cr ad tys c0 e0 → va_P D vwCl ws Hc → va_D A ws → va_K D vwCl tys s → va_S A s.heap Hc locs →
      (∀ (e1 : va_E) (H1 : Heap) (locs1 : List Loc), x_cr ad tys c1 e1 → va_P D vwCl (ws.set (pl k0 i0) (ad k0 i0, e1)) H1 → va_D A (ws.set (pl k0 i0) (ad k0 i0, e1)) → va_S A s.heap H1 locs1 → W p l e R s m args below meth c H1 locs1 cells slots Q (F0 m pc' ls (S'.map (x_cv ad)))) → W p l e R s m args below meth c Hc locs cells slots Q (F0 m pc ls (S.map (x_cv ad)))) : x_At p l e R s m args below meth c Q D A nL H0 ad0 pc (L, S, H) := by
  obtain ⟨k1, k2⟩ := k
  dsimp only at k1
  rw [x_nc_put, x_ns_put] at k1
  refine ⟨k1, fun hf ad pl tys ws Hc locs ls h1 h2 h3 h4 h5 h6 h7 => ?_⟩
  obtain ⟨g1, e0, g2, g3⟩ := h1.1 k0 i0 c0 hc
  obtain ⟨o1, o2⟩ := hok hf.2.2.1 g1
  refine hW hf.2.2.1 ad pl tys ws e0 Hc locs ls _ _ h1 g2 g3 h3 h4 h5 h6 (fun e1 H1 locs1 q1 q2 q3 q4 => ?_)
  have hg := x_gr.put H k0 i0 c1
  have := k2 ⟨hf.1, fun v hv => (hf.2.1 v hv).imp id (fun z => x_ok.gr z hg), fun v hv => (o1 v hv).gr hg, x_gr.tr hf.2.2.2 hg⟩ ad pl tys _ H1 locs1 ls (h1.put (x_lt hc) o2 q1) h2 q2 q3 h5 q4 h7
  dsimp only at this
  rw [x_nc_put, x_ns_put] at this
  exact this
/-- a cell is made -/
theorem x_mvN {pc pc' : Nat} {L S S' : List xV} {H : xH} {k0 n : Nat} {c1 : xC} (k : x_At p l e R s m args below meth c Q D A nL H0 ad0 pc' (L, .inr (.inr (.inl (k0, (xrg H k0).length))) :: S', xpush H k0 c1 n)) (hok : (∀ v ∈ S, x_ok H v) → (∀ v ∈ S', x_ok H v) ∧ x_wf H c1)
    (hW : (∀ v ∈ S, x_ok H v) → ∀ (ad pl : Nat → Nat → Nat) (tys : List (ClassId × FieldType)) (ws : va_W) (Hc : Heap) (locs : List Loc) (ls : Array Slot) (cells slots : Nat), x_W H ad pl tys ws → va_P D vwCl ws Hc → va_D A ws → va_K D vwCl tys s → va_S A s.heap Hc locs → cells + 1 ≤ R.cells → slots + n ≤ R.slots →
      (∀ (q : Nat) (tys1 : List (ClassId × FieldType)) (e1 : va_E) (H1 : Heap), x_cr ad (tys ++ tys1) c1 e1 → va_K D vwCl (tys ++ tys1) s → va_P D vwCl (ws ++ [(q, e1)]) H1 → va_D A (ws ++ [(q, e1)]) → va_S A s.heap H1 locs → W p l e R s m args below meth c H1 locs (cells + 1) (slots + n) Q (F0 m pc' ls (.ref q :: S'.map (x_cv ad)))) → W p l e R s m args below meth c Hc locs cells slots Q (F0 m pc ls (S.map (x_cv ad)))) : x_At p l e R s m args below meth c Q D A nL H0 ad0 pc (L, S, H) := by
  obtain ⟨⟨k1, k1'⟩, k2⟩ := k
  dsimp only at k1 k1'
  rw [x_nc_push] at k1
  rw [x_ns_push] at k1'
  refine ⟨⟨by show xnc H - _ ≤ _; omega, by show xns H - _ ≤ _; omega⟩, fun hf ad pl tys ws Hc locs ls h1 h2 h3 h4 h5 h6 h7 => ?_⟩
  obtain ⟨o1, o2⟩ := hok hf.2.2.1
  have hsl : xnc H0 ≤ xnc H := hf.2.2.2.1
  have hsl2 : xns H0 ≤ xns H := hf.2.2.2.2.1
  refine hW hf.2.2.1 ad pl tys ws Hc locs ls _ _ h1 h3 h4 h5 h6 (by show xnc H - _ + 1 ≤ _; omega) (by show xns H - _ + n ≤ _; omega) (fun q tys1 e1 H1 q1 q5 q2 q3 q4 => ?_)
  have hg := x_gr.push H k0 c1 n
  have ha : ∀ k i, i < (xrg H k).length → x_up2 ad k0 (xrg H k0).length q k i = ad k i := by
    intro k i hi
    unfold x_up2
    rw [if_neg]
    rintro ⟨rfl, rfl⟩
    omega
  have := k2 ⟨hf.1, fun v hv => (hf.2.1 v hv).imp id (fun z => x_ok.gr z hg), fun v hv => ?_, x_gr.tr hf.2.2.2 hg⟩ _ _ _ _ H1 locs ls (h1.push (tys' := tys ++ tys1) (fun t q h => by rw [List.getElem?_append_left (List.getElem?_eq_some_iff.mp h).1]; exact h) k0 n q o2 q1) (fun k i hi => by rw [ha k i (Nat.lt_of_lt_of_le hi (hf.2.2.2.2.2 k))]; exact h2 k i hi) q2 q3 q5 q4 (x_L.ad ha hf.2.1 h7)
  · dsimp only at this
    rw [x_nc_push, x_ns_push, List.map_cons, x_cv_map ha o1, show xnc H + 1 - xnc H0 = xnc H - xnc H0 + 1 by omega, show xns H + n - xns H0 = xns H - xns H0 + n by omega] at this
    have hq : x_cv (x_up2 ad k0 (xrg H k0).length q) (.inr (.inr (.inl (k0, (xrg H k0).length)))) = .ref q := by
      show Value.ref (x_up2 _ _ _ _ _ _) = _
      unfold x_up2
      rw [if_pos ⟨rfl, rfl⟩]
    rw [hq] at this
    exact this
  · rcases List.mem_cons.mp hv with rfl | hv
    · show _ < (xrg (xpush H k0 c1 n) k0).length
      rw [x_len_push, if_pos rfl]
      exact Nat.lt_succ_self _
    · exact (o1 v hv).gr hg
end AT
