/-! ===== the start ===== -/
theorem Rel00 : Rel r00 c00 := by
  have h0 : ∀ (P : Prop) (i : Nat), i < 0 → P := fun P i h => absurd h (Nat.not_lt_zero i)
  refine ⟨⟨⟨by decide, by decide⟩, ⟨by decide, by decide⟩, fun g hg => h0 _ g hg, ⟨by decide, by decide⟩, Or.inl rfl, fun g _ => ⟨by show (0 : Int) ≤ 0; decide, by show (0 : Int) < 6; decide⟩, fun g hg => h0 _ g hg⟩,
    ⟨⟨rfl, rfl, fun g hg => h0 _ g hg, ⟨0, by decide, rfl, fun i hi => ?_, fun g hg => h0 _ g hg⟩, ⟨fun b hb => h0 _ b hb, fun g hg => h0 _ g hg⟩, ⟨fun b hb => h0 _ b hb, fun g hg => h0 _ g hg⟩⟩, rfl, rfl⟩,
    ⟨0, 0, by decide, by decide, rfl, rfl, rfl, fun i hi => h0 _ i hi⟩, fun i _ => ⟨rfl, Or.inl rfl⟩, ⟨0, by decide, rfl, rfl, fun i hi => h0 _ i hi⟩,
    ⟨by decide, 0, by decide, rfl, ⟨fun _ => by show (0 : Int) ≤ 0; decide, fun _ => rfl⟩, fun q S h => absurd rfl h⟩, ⟨0, by decide, rfl, rfl, fun i hi => h0 _ i hi⟩, ⟨0, by decide, rfl, rfl, fun i hi => h0 _ i hi⟩⟩
  have hi : kLv 0 0 0 i := hi
  unfold kLv at hi
  show z00 i = 0
  unfold z00
  rw [if_neg (by omega)]
/-- the law's first steps: the class, the reference, the row for the answer -/
theorem lw_st {n z : Nat} : xIs x_dd (gg (n + 900)) 2 [.new 88, .dup, .invokespecial 1627, .astore 1, .new 97, .dup, .invokespecial 2716, .astore 2, .iconst 1, .newarray .long, .astore 3, .iconst 0, .istore 4] ([.inr (.inr (.inr (z + 3))), .inr (.inr (.inr 2)), .inr (.inr (.inr 2)), .inr (.inr (.inr 2)), .inr (.inr (.inr 2)), .inr (.inr (.inr 2)), .inr (.inr (.inr 2))], [], hN (hM [] [] 0) 0 [] 0 0) =
    some (lwL z 0 (.inr (.inr (.inr 2))) (.inr (.inr (.inr 2))), [], lwH (fun _ => 0) 546 6374 r00 c00) := by
  rw [n_new (q := 88) (k := 0) (L := [.inr (.inr (.inr (z + 3))), .inr (.inr (.inr 2)), .inr (.inr (.inr 2)), .inr (.inr (.inr 2)), .inr (.inr (.inr 2)), .inr (.inr (.inr 2)), .inr (.inr (.inr 2))]) (by decide) rfl, e_dupr, e_sp1 (ga101 _) (by decide)]
  refine (congrArg (fun q => Option.bind q _) (c_init (n := n + 896) (h1 := []) (h2 := []) (a := 0 + 1) (b := 0 + 17))).trans ?_
  rw [Option.bind_some, Option.toList_none, List.nil_append, e_astore]
  have e1 : hN (hM [] [] 17) 0 (c_lay c00) (0 + 1 + 521) (0 + 17 + 3837) = hN (c_lay c00, [], [], fun k => if k < 17 then z_lay k z00 else [], 17, 0, 0) 1 [] 522 3854 := rfl
  dsimp only
  rw [e1, n_new (q := 97) (k := 1) (by decide) (show x_reg (97 % 8) _ = 1 from rfl), e_dupr, e_sp1 (ga169 _) (by decide)]
  refine (congrArg (fun q => Option.bind q _) (r_init (n := n + 899) (H := (c_lay c00, [], [], fun k => if k < 17 then z_lay k z00 else [], 17, 0, 0)) (a := 522 + 1) (b := 3854 + 48))).trans ?_
  rw [Option.bind_some, Option.toList_none, List.nil_append, e_astore, e_iconst]
  have e2 : hN (c_lay c00, [], [], fun k => if k < 17 then z_lay k z00 else [], 17, 0, 0) 1 (xr_lay r00) (522 + 1 + 22) (3854 + 48 + 2471) = hN (c_lay c00, xr_lay r00, [], fun k => if k < 17 then z_lay k z00 else [], 17, 0, 0) 2 [] 545 6373 := rfl
  dsimp only
  rw [e2, n_long (n := 1) (k := 2) (show x_reg 2 _ = 2 from rfl) (by decide) (by decide)]
  rfl
theorem lw_run {n z len : Nat} {xf : Nat → Int} (hx : ∀ j, xin (xf j)) (hl : len ≤ 2560) : ∃ (i' : Nat) (j5' j6' : xV) (g' : Nat → Int) (a' b' : Nat) (r' : xR) (c' : xQ), a' ≤ 546 + 2560 ∧ b' ≤ 6374 + 6 * 2560 ∧
    lw_f (n + 899) (gg (n + 900)) z len xf ([.inr (.inr (.inr (z + 3))), .inr (.inr (.inr 2)), .inr (.inr (.inr 2)), .inr (.inr (.inr 2)), .inr (.inr (.inr 2)), .inr (.inr (.inr 2)), .inr (.inr (.inr 2))], [], hN (hM [] [] 0) 0 [] 0 0) = some (.inl 1, (lwL z i' j5' j6', [], lwH g' a' b' r' c')) := by
  obtain ⟨i', j5', j6', g', a', b', r', c', h1, h2, h3⟩ := lw_loop (n := n) (z := z) hx hl 2560 0 (.inr (.inr (.inr 2))) (.inr (.inr (.inr 2))) (fun _ => 0) 546 6374 r00 c00 (by omega) Rel00
  refine ⟨i', j5', j6', g', a', b', r', c', h1, h2, ?_⟩
  unfold lw_f
  rw [lw_sqo lw_st]
  exact h3
theorem x_Gok.mono {l : Launch} {D : va_G} {G : xG} {d d2 : Nat} (h : x_Gok xM xN l D G d) (hd : d ≤ d2) : x_Gok xM xN l D G d2 := ⟨h.1, fun mi y hy => by
  obtain ⟨h1, d', h2, h3⟩ := h.2 mi y hy
  exact ⟨h1, d', by omega, h3⟩⟩
theorem x_roomle {s : State} {pl : Platform} {R R' : Room} (h : s.hasRoom pl R = true) (hf : R'.frames ≤ R.frames) (hl : R'.locals ≤ R.locals) (hc : R'.cells ≤ R.cells) (hs : R'.slots ≤ R.slots) : s.hasRoom pl R' = true := by
  simp only [State.hasRoom, Bool.and_eq_true, decide_eq_true_eq] at h ⊢
  obtain ⟨⟨⟨⟨h1, h2, h3, h4, h5, h6⟩, h7⟩, h8⟩, h9⟩ := h
  exact ⟨⟨⟨⟨by omega, by omega, by omega, by omega, by omega, h6⟩, by omega⟩, by omega⟩, h9⟩
set_option maxRecDepth 100000 in
theorem w_nest : ∀ q ∈ xN, Cond.methodLinkNest q.1 q.2.1 q.2.2 x_host ∈ lw_tbl := List.forall_mem_cons.mpr ⟨List.mem_of_getElem? (i := 125) rfl, List.forall_mem_cons.mpr ⟨List.mem_of_getElem? (i := 148) rfl, List.forall_mem_cons.mpr ⟨List.mem_of_getElem? (i := 182) rfl, List.forall_mem_cons.mpr ⟨List.mem_of_getElem? (i := 218) rfl, List.forall_mem_cons.mpr ⟨List.mem_of_getElem? (i := 264) rfl, List.forall_mem_cons.mpr ⟨List.mem_of_getElem? (i := 370) rfl, List.forall_mem_cons.mpr ⟨List.mem_of_getElem? (i := 394) rfl, List.forall_mem_cons.mpr ⟨List.mem_of_getElem? (i := 414) rfl, List.forall_mem_cons.mpr ⟨List.mem_of_getElem? (i := 442) rfl, List.forall_mem_cons.mpr ⟨List.mem_of_getElem? (i := 451) rfl, List.forall_mem_cons.mpr ⟨List.mem_of_getElem? (i := 892) rfl, List.forall_mem_cons.mpr ⟨List.mem_of_getElem? (i := 1095) rfl, fun _ h => absurd h List.not_mem_nil⟩⟩⟩⟩⟩⟩⟩⟩⟩⟩⟩⟩
set_option maxRecDepth 100000 in
theorem w_aos : ∀ C ∈ x_aos, Cond.arrayOver (.object C) ∈ lw_tbl := List.forall_mem_cons.mpr ⟨List.mem_of_getElem? (i := 176) rfl, List.forall_mem_cons.mpr ⟨List.mem_of_getElem? (i := 178) rfl, List.forall_mem_cons.mpr ⟨List.mem_of_getElem? (i := 180) rfl, List.forall_mem_cons.mpr ⟨List.mem_of_getElem? (i := 356) rfl, fun _ h => absurd h List.not_mem_nil⟩⟩⟩⟩
set_option maxRecDepth 100000 in
theorem w_str : Cond.stringRef RX6 89 "phdwsgl" ∈ lw_tbl ∧ Cond.laysStatic "java/lang/String" "COMPACT_STRINGS" "Z" ∈ lw_tbl ∧ Cond.laysStatic Bundle.tN "UNASSIGNED_STACK" Bundle.steD ∈ lw_tbl ∧ Cond.laysStatic Bundle.tN "SUPPRESSED_SENTINEL" Bundle.listD ∈ lw_tbl ∧ Cond.initialized "java/lang/String" ∈ lw_tbl ∧ Cond.initialized Bundle.tN ∈ lw_tbl := ⟨List.mem_of_getElem? (i := 664) rfl, List.mem_of_getElem? (i := 678) rfl, List.mem_of_getElem? (i := 1303) rfl, List.mem_of_getElem? (i := 1305) rfl, List.mem_of_getElem? (i := 103) rfl, List.mem_of_getElem? (i := 109) rfl⟩
set_option maxRecDepth 100000 in
theorem w_iX0 : Cond.instantiable RX0 6 ∈ xT := x_in 181 rfl rfl
set_option maxRecDepth 100000 in
theorem w_iX1 : Cond.instantiable RX1 4 ∈ xT := x_in 369 rfl rfl
set_option maxRecDepth 100000 in
theorem w_iX2 : Cond.instantiable RX2 1 ∈ xT := x_in 441 rfl rfl
set_option maxRecDepth 100000 in
theorem w_iX3 : Cond.instantiable RX3 8 ∈ xT := x_in 217 rfl rfl
set_option maxRecDepth 100000 in
theorem w_iX4 : Cond.instantiable RX4 3 ∈ xT := x_in 350 rfl rfl
set_option maxRecDepth 100000 in
theorem w_iX5 : Cond.instantiable RX5 3 ∈ xT := x_in 263 rfl rfl
set_option maxRecDepth 100000 in
theorem w_iX6 : Cond.instantiable RX6 5 ∈ xT := x_in 147 rfl rfl
set_option maxRecDepth 100000 in
theorem w_iX7 : Cond.instantiable RX7 16 ∈ xT := x_in 170 rfl rfl
set_option maxRecDepth 100000 in
theorem w_iX8 : Cond.instantiable RX8 4 ∈ xT := x_in 393 rfl rfl
set_option maxRecDepth 100000 in
theorem w_iX9 : Cond.instantiable RX9 5 ∈ xT := x_in 124 rfl rfl
set_option maxRecDepth 100000 in
theorem w_iX10 : Cond.instantiable RX10 6 ∈ xT := x_in 413 rfl rfl
set_option maxRecDepth 100000 in
theorem w_iX11 : Cond.instantiable RX11 17 ∈ xT := x_in 116 rfl rfl
set_option maxRecDepth 100000 in
theorem w_iX12 : Cond.instantiable RX12 48 ∈ xT := x_in 1364 rfl rfl
theorem w_known {s : State} {args : Array Value} (hT : ∀ w ∈ xT, w.before args s = true) : ∀ c : Nat, ∃ q : ClassId × (Nat → Nat), ∀ r : vw_C, vwCl[c]? = some r → u_Kn s r.1 r.2.1 r.2.2 q.1 q.2
  | 0 => by
    obtain ⟨c, iS, h⟩ := u_known (C := RX0) (T := TX0) (N := 6) (n := 6) hT ckX0.1 (hT _ w_iX0)
    exact ⟨(c, iS), fun r hr => by cases hr; exact h⟩
  | 1 => by
    obtain ⟨c, iS, h⟩ := u_known (C := RX1) (T := TX1) (N := 4) (n := 4) hT ckX1.1 (hT _ w_iX1)
    exact ⟨(c, iS), fun r hr => by cases hr; exact h⟩
  | 2 => by
    obtain ⟨c, iS, h⟩ := u_known (C := RX2) (T := TX2) (N := 1) (n := 1) hT ckX2.1 (hT _ w_iX2)
    exact ⟨(c, iS), fun r hr => by cases hr; exact h⟩
  | 3 => by
    obtain ⟨c, iS, h⟩ := u_known (C := RX3) (T := TX3) (N := 8) (n := 8) hT ckX3.1 (hT _ w_iX3)
    exact ⟨(c, iS), fun r hr => by cases hr; exact h⟩
  | 4 => by
    obtain ⟨c, iS, h⟩ := u_known (C := RX4) (T := TX4) (N := 3) (n := 3) hT ckX4.1 (hT _ w_iX4)
    exact ⟨(c, iS), fun r hr => by cases hr; exact h⟩
  | 5 => by
    obtain ⟨c, iS, h⟩ := u_known (C := RX5) (T := TX5) (N := 3) (n := 3) hT ckX5.1 (hT _ w_iX5)
    exact ⟨(c, iS), fun r hr => by cases hr; exact h⟩
  | 6 => by
    obtain ⟨c, iS, h⟩ := u_known (C := RX6) (T := TX6) (N := 5) (n := 5) hT ckX6.1 (hT _ w_iX6)
    exact ⟨(c, iS), fun r hr => by cases hr; exact h⟩
  | 7 => by
    obtain ⟨c, iS, h⟩ := u_known (C := RX7) (T := TX7) (N := 16) (n := 16) hT ckX7.1 (hT _ w_iX7)
    exact ⟨(c, iS), fun r hr => by cases hr; exact h⟩
  | 8 => by
    obtain ⟨c, iS, h⟩ := u_known (C := RX8) (T := TX8) (N := 4) (n := 4) hT ckX8.1 (hT _ w_iX8)
    exact ⟨(c, iS), fun r hr => by cases hr; exact h⟩
  | 9 => by
    obtain ⟨c, iS, h⟩ := u_known (C := RX9) (T := TX9) (N := 5) (n := 5) hT ckX9.1 (hT _ w_iX9)
    exact ⟨(c, iS), fun r hr => by cases hr; exact h⟩
  | 10 => by
    obtain ⟨c, iS, h⟩ := u_known (C := RX10) (T := TX10) (N := 6) (n := 6) hT ckX10.1 (hT _ w_iX10)
    exact ⟨(c, iS), fun r hr => by cases hr; exact h⟩
  | 11 => by
    obtain ⟨c, iS, h⟩ := u_known (C := RX11) (T := TX11) (N := 17) (n := 17) hT ckX11.1 (hT _ w_iX11)
    exact ⟨(c, iS), fun r hr => by cases hr; exact h⟩
  | 12 => by
    obtain ⟨c, iS, h⟩ := u_known (C := RX12) (T := TX12) (N := 48) (n := 48) hT ckX12.1 (hT _ w_iX12)
    exact ⟨(c, iS), fun r hr => by cases hr; exact h⟩
  | n + 13 => ⟨(0, fun _ => 0), fun r hr => by cases hr⟩
theorem w_start {s : State} {b : Nat} (hts : ∀ w ∈ lw_tbl, w.before #[Value.ref b] s = true) (hgv : (Jvm.Cond.and given_1 narrow_1).before #[Value.ref b] s = true) : x_env xN s ∧ x_str (fun q => s.heap.size ≤ q) s := by
  have hs := flat_of_before _ hgv
  have hA : ∀ a : Nat, a < s.heap.size → ¬ s.heap.size ≤ a := fun a h z => absurd h (Nat.not_lt.mpr z)
  refine ⟨⟨fun q hq => va_Nw.of rfl (hts _ (w_nest q hq)), fun C hC => va_AO.of (hts _ (w_aos C hC))⟩, ?_, ?_, ?_, ?_⟩
  · obtain ⟨aK, aV, h1, h2⟩ := vk_Sof (args := #[Value.ref b]) (s := s) (N := 1) (tm := fun _ => .string RX6 89) (len := [7]) (byt := [x_byt]) (A := fun q => s.heap.size ≤ q)
      (fun i hi => by obtain rfl : i = 0 := by omega
                      decide)
      (fun i hi => hs _ (by decide +kernel)) (fun i hi => hs _ (by decide +kernel)) (fun i hi => hs _ (by decide +kernel))
      (fun i hi => by obtain rfl : i = 0 := by omega
                      exact hs _ (by decide +kernel))
      (fun i hi j hj => by
        obtain rfl : i = 0 := by omega
        have hj : j < 7 := hj
        have hc : j = 0 ∨ j = 1 ∨ j = 2 ∨ j = 3 ∨ j = 4 ∨ j = 5 ∨ j = 6 := by omega
        rcases hc with rfl | rfl | rfl | rfl | rfl | rfl | rfl <;> exact hs _ (by decide +kernel))
      (fun i j hi hj hij => by omega) hA
    exact ⟨aK, aV, vk_R.of (hts _ w_str.1) (h2 0 (by decide)), h1⟩
  · exact va_Zof (hts _ w_str.2.1) (hts _ w_str.2.2.2.2.1) (va_eqt (hs _ (by decide +kernel))) hA
  · exact vx_Zqof (hts _ w_str.2.2.1) (hts _ w_str.2.2.2.2.2) (hs _ (by decide +kernel)) hA
  · exact vx_Zqof (hts _ w_str.2.2.2.1) (hts _ w_str.2.2.2.2.2) (hs _ (by decide +kernel)) hA
def R_law : String := "OneGullToABoatLaw"
def lw_P (b : Addr) (xs : List Int32) (args : Array Value) (s : State) : Prop := args = #[.ref b] ∧ s.IntsAt b xs ∧ xs.length ≤ 2560 ∧ (Jvm.Cond.and given_1 narrow_1).before args s = true
def lw_Q (_ : Array Value) (s : State) (o : Outcome) (t : State) : Prop := o = .returned (some (.int 1)) ∧ Framed s o t [] 601024 7293033
def lw_Z (below : List Frame) (a : Array Value) (s : State) : State → Prop := fun t => ∃ o, t.status = .running ∧ Ended t below o ∧ lw_Q a s o t
/-- the law's own end, with 1 on the stack, nothing written that was there before, its room as the claim has it -/
theorem lw_ret {p : Program} {l : Launch} {e : Env} {R : Room} {s : State} {m : MethodId} {below : List Frame} {meth : Method} {c : Code} {b : Nat} (hx : p.tables.exec = Jvm.exec) (hb : c.code = code) (hr : meth.sig.returnType = ret) (hlocks : meth.locks = false) {pc : Nat} {H : Heap} {ls : Array Slot} (hdg : decode code pc = .ok (.ireturn, 1)) : W p l e R s m #[Value.ref b] below meth c H [] 601024 7293033 (lw_Z below #[Value.ref b] s) (F0 m pc ls [.int 1]) := by
  intro T hT X
  obtain ⟨fs, hret, hrun, hended, hW, hframe⟩ := X.leave (v := some (.int 1)) (hlocks := hlocks) (fun h => by rw [hr] at h; cases h)
  have hmeth' : T.vm.method? m = some meth := X.method'
  refine ⟨T.setFrames fs, ?_, .returned (some (.int 1)), hrun, hended, rfl, ⟨_, rfl⟩, hW, hframe⟩
  jvm_step X.here [X.here.top, hx, hb, hdg, hmeth', hr, ret, narrow_b1]
  (try refine ⟨rfl, ?_⟩); (try refine ⟨rfl, ?_⟩)
  first | (intro acts; rw [hret _ acts rfl rfl rfl]) | rw [hret _ _ rfl rfl rfl]
  exact Steps.refl _
/-- what holds at the law's entry: the machine, the code, the tables' words (any of lw_tbl by 'hts w (by decide +kernel)'), the script of L ints xs at the cell b, what the Statement gives of the start (any of its parts by flat_of_before) -/
def lw_At (p : Program) (s : State) (m : MethodId) (meth : Method) (c : Code) (b L : Nat) (xs : Nat → Int32) : Prop :=
  p.tables.exec = Jvm.exec ∧ c.code = code ∧ meth.sig.returnType = ret ∧ c.maxLocals = 7 ∧ s.vm.findClass R_law = some m.cls ∧ (∀ w ∈ lw_tbl, w.before #[Value.ref b] s = true) ∧ va_X b L xs s s.heap ∧ b < s.heap.size ∧ meth.locks = false ∧ (Jvm.Cond.and given_1 narrow_1).before #[Value.ref b] s = true
-- ===== YOUR PART BEGINS =====
/-- YOUR PART: from the entry, for every script of at most 2560 ints, the law comes to its end with true -/
theorem whole_start {p : Program} {e : Env} {s : State} {m : MethodId} {below : List Frame} {meth : Method} {c : Code} (l : Launch) (hfl : l.stackTraces = false) {b L : Nat} {xs : Nat → Int32} (hL : L ≤ 2560) (C0 : lw_At p s m meth c b L xs) : W p l e room_1 s m #[Value.ref b] below meth c s.heap [] 0 0 (lw_Z below #[Value.ref b] s) (entryFrame m ([Value.ref b] : List Value).toArray 7) := by
  obtain ⟨hx, hb, hr, hml, hown, hts, hX, hbl, hlocks, hgv⟩ := C0
  have hT : ∀ w ∈ xT, w.before #[Value.ref b] s = true := fun w hw => hts w (List.mem_filter.mp hw).1
  obtain ⟨q, hq⟩ := Classical.axiomOfChoice (w_known hT)
  obtain ⟨henv, hstr⟩ := w_start hts hgv
  have hA : ¬ s.heap.size ≤ b := Nat.not_le.mpr hbl
  have X : x_Ctx xM xN KW false code 2048 p { frames := 2048, locals := 40 * 2048, cells := 601024, slots := 7293033 } s m #[Value.ref b] meth c (fun q => s.heap.size ≤ q) 7 :=
    ⟨hx, hb, hml, hown, hT, henv, fun _ h => h, ⟨rfl, rfl, by decide⟩, (fun z => by cases z), kkW, x_arr, hstr⟩
  have hG : x_Gok xM xN l (fun c => (q c).1, fun c => (q c).2) (gg (1141 + 900)) 2048 := (gg_ok l _ (1141 + 900)).mono (by decide)
  have hxf : ∀ j, xin ((fun j => (xs j).toInt) j) := fun j => ⟨Int32.le_toInt _, Int32.toInt_lt _⟩
  obtain ⟨i', j5', j6', g', a', b', r', c', ha, hbb, hrun⟩ := lw_run (n := 1141) (z := b) hxf hL
  have kE : x_At p l e { frames := 2048, locals := 40 * 2048, cells := 601024, slots := 7293033 } s m #[Value.ref b] below meth c (lw_Z below #[Value.ref b] s) (fun c => (q c).1, fun c => (q c).2) (fun q => s.heap.size ≤ q) 7 (hN (hM [] [] 0) 0 [] 0 0) (fun _ _ => 0) 1679 (lwL b i' j5' j6', [], lwH g' a' b' r' c') := by
    refine ⟨⟨by show a' - 0 ≤ 601024; omega, by show b' - 0 ≤ 7293033; omega⟩, fun hf ad pl tys ws Hc locs ls w1 w2 w3 w4 w5 w6 w7 => ?_⟩
    refine lv_iconst hx hb (n := 1) (v := 1) (by decide +kernel) rfl ?_
    intro T hT9 X9
    have Y : Stand p l e { frames := 2048, locals := 40 * 2048, cells := 601024, slots := 7293033 } s m #[Value.ref b] below meth c T [] 601024 7293033 :=
      { X9 with same := X9.same.weaken (fun x hx9 hlt => absurd (w6.2.2 x hx9) (Nat.not_le.mpr hlt)) (by show a' - 0 ≤ 601024; omega) (by show b' - 0 ≤ 7293033; omega) }
    exact lw_ret hx hb hr hlocks (by decide +kernel) T hT9 Y
  have fin := (lw_if (Q := lw_Z below #[Value.ref b] s) (H0 := hN (hM [] [] 0) 0 [] 0 0) (ad0 := fun _ _ => 0) (e := e) (below := below) (N := 1141 + 899) X hG hX hbl hA hL hfl (by decide) (by decide) _ _ _ hrun).2 ⟨1679, rfl, kE⟩
  have hl9 := lv_entry ([Value.ref b] : List Value) (n := 7) (Nat.le_of_ble_eq_true rfl)
  have he : ∀ k, xrg (hN (hM [] [] 0) 0 [] 0 0) k = [] := fun k => match k with
    | 0 => rfl
    | 1 => rfl
    | 2 => rfl
    | k + 3 => by
      show (if k < 0 then z_lay k z00 else []) = []
      rw [if_neg (Nat.not_lt_zero k)]
  rw [lg_entry_eq]
  generalize (lg_sl ([Value.ref b] : List Value) ++ List.replicate (7 - (lg_sl ([Value.ref b] : List Value)).length) Slot.unset).toArray = ls at hl9 ⊢
  have K := fin.2 ⟨rfl, (fun v hv => ?_), (fun v hv => by cases hv), x_gr.rf _⟩ (fun _ _ => 0) (fun _ _ => 0) [] [] s.heap [] ls ⟨fun k i c h => ?_, fun k i k' i' h1 _ _ => ?_⟩ (fun _ _ _ => rfl) (fun k q h => by cases h) ⟨(fun i j p q h => by cases h), (fun k q h => by cases h)⟩ ⟨fun c r h => hq c r h, (fun k q h => by cases h)⟩ va_S.rf ⟨hl9.1, hl9.2.1, fun i v hv hn => ?_⟩
  · intro T hT9 X9
    exact K T hT9 { X9 with room := x_roomle X9.room (by decide) (by decide) (by decide) (by decide) }
  · simp only [List.mem_cons, List.not_mem_nil, or_false] at hv
    rcases hv with rfl | rfl | rfl | rfl | rfl | rfl | rfl
    · exact Or.inr rfl
    all_goals exact Or.inl rfl
  · unfold xcell at h
    rw [he] at h
    cases h
  · rw [he] at h1
    exact absurd h1 (Nat.not_lt_zero _)
  · match i, hv with
    | 0, hv => cases hv; exact hl9.2.2 (0, Value.ref b) List.mem_cons_self
    | 1, hv => cases hv; exact absurd rfl hn
    | 2, hv => cases hv; exact absurd rfl hn
    | 3, hv => cases hv; exact absurd rfl hn
    | 4, hv => cases hv; exact absurd rfl hn
    | 5, hv => cases hv; exact absurd rfl hn
    | 6, hv => cases hv; exact absurd rfl hn
    | i + 7, hv => cases hv
-- ===== YOUR PART ENDS =====
set_option maxHeartbeats 4000000 in
theorem lw_walk (l : Launch) (hfl : l.stackTraces = false) (b : Addr) (xs : List Int32) : MetFree l x (headSpec (Jvm.Cond.code x code maxLocals ret :: tables_1) room_1) (lw_P b xs) (fun _ _ _ _ _ => True) lw_Q := by
  refine MetFree.of_bodyS (code := code) (maxLocals := maxLocals) (ret := ret) (by decide) ?_ ?_
  · intro args s m h hn
    obtain ⟨meth, c, h1, h2, h3, h4, h5, h6, -, -⟩ := Cond.code_spec hn (atoms_spec (ws := Jvm.Cond.code x code maxLocals ret :: tables_1) h _ List.mem_cons_self)
    exact ⟨meth, c, h1, h2, h3, h4, h5, h6⟩
  · intro p e s m args below meth c s₁ B hml0 hP _
    obtain ⟨rfl, hx, hbd, hgv⟩ := hP
    obtain ⟨scr, harrAt, hlist, hof, hsmall⟩ := hx
    obtain ⟨hcb, hkn, -, -⟩ := State.arrayAt?_spec harrAt
    have hown : s.vm.findClass R_law = some m.cls := findClass_of_methodNamed B.named
    have hts0 : ∀ c ∈ (Jvm.Cond.code x code maxLocals ret :: tables_1), c.before #[Value.ref b] s = true := atoms_spec (ws := Jvm.Cond.code x code maxLocals ret :: tables_1) B.pre
    have hts : ∀ w ∈ lw_tbl, w.before #[Value.ref b] s = true := k2_hts_sels lw_privs (fun w hw => hts0 w (List.mem_cons_of_mem _ hw)) lw_privs_ok
    have hml : c.maxLocals = 7 := B.maxLocals_eq (hts0 _ List.mem_cons_self)
    have X₀ : Stand p l e room_1 s m #[Value.ref b] below meth c s₁ [] 0 0 := Stand.of_body B
    have hh0 : s₁.heap = s.heap := by rw [B.state]; rfl
    have hsz : scr.slots.size = xs.length := by rw [← Array.length_toList, hlist, List.length_map]
    have hval : ∀ j : Nat, j < xs.length → scr.slots[j]? = some (.int (xs.getD j 0)) := fun j hj => by
      rw [← Array.getElem?_toList, hlist]
      simp [hj]
    have hbl : b < s.heap.size := (Array.getElem?_eq_some_iff.mp hcb).1
    have hX : va_X b xs.length (fun j => xs.getD j 0) s s.heap := ⟨scr, hcb, hof, hkn, hsz, hval⟩
    have K : W p l e room_1 s m #[Value.ref b] below meth c s₁.heap [] 0 0 (lw_Z below #[Value.ref b] s) (entryFrame m ([Value.ref b] : List Value).toArray 7) := by
      rw [hh0]
      exact whole_start l hfl hbd ⟨B.exec, B.bytes, B.returns, hml, hown, hts, hX, hbl, B.notSynchronized, hgv⟩
    obtain ⟨t, a1, o, b1, b2, b3⟩ := K s₁ rfl X₀
    exact ⟨t, o, a1, b1, b2, b3⟩
theorem lw_pre_spec {args : Array Value} {s : State} (h : (Jvm.Cond.and given_1 narrow_1).before args s = true) (hr : rest_1_c.before args s = true) : ∃ (b : Addr) (xs : List Int32), lw_P b xs args s := by
  have hs := flat_of_before _ h
  have hq := flat_of_before _ hr
  have hc : (Cond.count 1).before args s = true := hs _ (by decide +kernel)
  have harr : (Cond.arrayOf (.arg 0) .int).before args s = true := hs _ (by decide +kernel)
  have hle : (Cond.le (.length (.arg 0)) (.int 2560)).before args s = true := hs _ (by decide +kernel)
  have hlen : (Cond.isInt (.length (.arg 0))).before args s = true := hq _ (by decide +kernel)
  have hall : (Cond.all (.arg 0) (.isInt (.elem (.arg 0) (.index 0)))).before args s = true := hq _ (by decide +kernel)
  obtain ⟨b, xs, hb, hx⟩ := State.ints_of_pre rfl harr hlen hall
  have hsm : xs.length < 2 ^ 31 := hx.choose_spec.2.2.2
  have hev : (Term.length (.arg 0)).eval args s none [] s = some (.int xs.length.toInt32) := hx.length_eval hb
  have hv := Cond.le_ints hev (show (Term.int 2560).eval args s none [] s = some (.int 2560) from rfl)
  have hd : xs.length.toInt32 ≤ 2560 := by
    simpa [Cond.before, Cond.holds, hv] using hle
  have hN : xs.length ≤ 2560 := (Int32.ofNat_le_ofNat hsm (by decide)).mp (show Int32.ofNat xs.length ≤ Int32.ofNat 2560 from hd)
  exact ⟨b, xs, Cond.one_arg hc (show args[0]? = some (.ref b) from hb), hx, hN, h⟩
theorem lw_comes (l : Launch) (hfl : l.stackTraces = false) : Comes l x (Jvm.Cond.code x code maxLocals ret :: tables_1) room_1 (fun tb e args s => Calls_1 tb e args s ∧ rest_1 tb e args s ∧ Pre_1 tb e args s)
    (fun _ _ args s o t => lw_Q args s o t) := by
  intro p e ha hc hk s m args below hf hfit hheap happ hpre
  obtain ⟨b, xs, hP⟩ := lw_pre_spec hpre.2.2 hpre.2.1
  obtain ⟨k, o, h1, h2, h3, hQ⟩ := lw_walk l hfl b xs p e ha hc hk s m args below hf ((Spec.applies_iff_loose hf).mp happ).1 hP trivial
  exact ⟨k, o, h1, h2, h3, hQ⟩
theorem lw_frame {s t : State} {o : Outcome} {args : Array Value} (h : Framed s o t [] 601024 7293033) :
    Framed s o t (fieldLocs frame_1_writes args s ++ arrayLocs frame_1_arrays args s ++ staticLocs frame_1_statics s) 601024 7293033 := h
theorem lw_limb (L : Cond) (hL : ∀ (args : Array Value) (s t : State), L.after args s (.returned (some (.int 1))) t = true) :
    ArmFor flags0 classFile x code maxLocals ret World_1 tables_1 room_1 Calls_1 rest_1 Pre_1
      (fun tb e a s o t => postC L tb e a s o t ∧ Framed s o t (fieldLocs frame_1_writes a s ++ arrayLocs frame_1_arrays a s ++ staticLocs frame_1_statics s) 601024 7293033) := by
  intro l hfg _ _ p e ha hc hk s m args below hf hfit hheap happ hpre
  obtain ⟨k, o, h1, h2, h3, rfl, hF⟩ := lw_comes l (by unfold Launch.stackTraces; rw [hfg]; decide +kernel) p e ha hc hk s m args below hf hfit hheap happ hpre
  exact ⟨k, _, h1, h2, h3, hL args s _, lw_frame hF⟩
theorem i_vc : Claimed_1_1 ∧ Claimed_1_2 := ⟨lw_limb limb_1_1 (fun args s t => by simp [limb_1_1, Cond.after, Cond.holds, Cond.value]), lw_limb limb_1_2 (fun args s t => Cond.after_iff.mpr (by
  first | (rw [show limb_1_2 = Cond.eq .result (.int 1) from rfl, Cond.eq_ints (x := 1) (y := 1) rfl rfl]; simp; done) | (simp [limb_1_2, Cond.value, Term.eval]; done)))⟩

