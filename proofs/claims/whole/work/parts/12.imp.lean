/-! ===== programs: where a piece of code lies, and what it does ===== -/
theorem x_gr_un {f : Int → Int} {t t' : xS} (h : x_un f t = some t') : x_gr t.2.2 t'.2.2 := by
  unfold x_un at h; split at h <;> cases h; exact x_gr.rf _
theorem x_gr_bin {f : Int → Int → Int} {t t' : xS} (h : x_bin f t = some t') : x_gr t.2.2 t'.2.2 := by
  unfold x_bin at h; split at h <;> cases h; exact x_gr.rf _
theorem x_gr_lbin {f : Int → Int → Int} {t t' : xS} (h : x_lbin f t = some t') : x_gr t.2.2 t'.2.2 := by
  unfold x_lbin at h; split at h <;> cases h; exact x_gr.rf _
theorem x_gr_rd {ty : Nat} {t : xS} {q : Int × xS} (h : x_rd ty t = some q) : t.2.2 = q.2.2.2 := by
  unfold x_rd at h
  split at h
  · split at h
    · split at h <;> cases h
      rfl
    · cases h
  · cases h
theorem x_gr_ald {ty : Nat} {t t' : xS} (h : x_ald ty t = some t') : x_gr t.2.2 t'.2.2 := by
  unfold x_ald at h
  obtain ⟨q, h1, h2⟩ := Option.map_eq_some_iff.mp h
  subst h2
  rw [x_gr_rd h1]
  exact x_gr.rf _
theorem x_gr_ast {ty : Nat} {g : Int → Int} {t t' : xS} (h : x_ast ty g t = some t') : x_gr t.2.2 t'.2.2 := by
  unfold x_ast at h
  split at h
  · split at h
    · split at h <;> cases h
      exact x_gr.put _ _ _ _
    · cases h
  · cases h
theorem x_gr_last {t t' : xS} (h : x_last t = some t') : x_gr t.2.2 t'.2.2 := by
  unfold x_last at h
  split at h
  · split at h
    · split at h <;> cases h
      exact x_gr.put _ _ _ _
    · cases h
  · cases h
theorem x_gr_call {G : xG} (hG : ∀ mi a H r H', (G mi).2 a H = some (r, H') → x_gr H H') {n mi : Nat} {t t' : xS} (h : x_call n (G mi).2 t = some t') : x_gr t.2.2 t'.2.2 := by
  obtain ⟨L, S, H⟩ := t
  obtain ⟨-, -, r, H', h1, rfl⟩ := x_call_inv h
  exact hG _ _ _ _ _ h1
theorem x_gr_beg (H : xH) : x_gr H (xbegin H) := ⟨Nat.le_refl _, Nat.le_refl _, fun k => by rw [xrg_xbegin]; exact Nat.le_refl _⟩
set_option maxHeartbeats 4000000 in
theorem x_gr_I {dd : xD} {G : xG} {rg : Nat} {op : Instr} {t t' : xS} (hG : ∀ mi a H r H', (G mi).2 a H = some (r, H') → x_gr H H') (h : xI dd G rg op t = some t') : x_gr t.2.2 t'.2.2 := by
  unfold xI at h
  split at h
  all_goals first
    | exact x_gr_bin h
    | exact x_gr_un h
    | exact x_gr_lbin h
    | exact x_gr_ald h
    | exact x_gr_ast h
    | exact x_gr_last h
    | exact x_gr_call hG h
    | (rcases x_orx h with h | h <;> first | exact x_gr_ald h | exact x_gr_ast h)
    | (obtain ⟨q, h1, h2⟩ := Option.map_eq_some_iff.mp h; subst h2; rw [x_gr_rd h1]; exact x_gr.rf _)
    | (cases h; exact x_gr.rf _)
    | (split at h <;> first | (cases h; done) | (cases h; exact x_gr.rf _) | exact x_gr_call hG h | (cases h; exact (x_gr_beg _).tr (x_gr.push _ _ _ _)) | (cases h; exact x_gr.push _ _ _ _) | (split at h <;> first | (cases h; done) | (cases h; exact x_gr.rf _) | (cases h; exact x_gr.push _ _ _ _) | (obtain ⟨q, h1, h2⟩ := Option.map_eq_some_iff.mp h; subst h2; exact x_gr.push _ _ _ _) | (split at h <;> first | (cases h; done) | (cases h; exact x_gr.rf _) | (cases h; exact x_gr.put _ _ _ _) | (split at h <;> first | (cases h; done) | (cases h; exact x_gr.rf _)))))
    | (cases h; done)
def x_chk (K : xK) (ini : Bool) (nL : Nat) (cc : ByteArray) : List Instr → Nat → Option Nat
  | [], pc => some pc
  | op :: l, pc => match decode cc pc with
    | .ok (ins, len) => if x_mt K ini nL ins len op = true then x_chk K ini nL cc l (pc + len) else none
    | .error _ => none
/-- at pc, or by jumps from there, the machine comes to nx -/
def x_land (cc : ByteArray) : Nat → Nat → Nat → Bool
  | 0, pc, nx => decide (pc = nx)
  | n + 1, pc, nx => decide (pc = nx) || match decode cc pc with
    | .ok (.goto off, 3) => decide (0 ≤ (pc : Int) + off) && x_land cc n ((pc : Int) + off).toNat nx
    | _ => false
/-- where a piece goes on -/
def x_tg (nx : Nat) (brs : List Nat) (k : Nat) : Option Nat := match k with
  | 0 => some nx
  | k + 1 => brs[k]?
/-- how the method's own end looks: what is returned, the last heap -/
def x_Fin (ret : Option FieldType) (R : Room) (s : State) (args : Array Value) (below : List Frame) (meth : Method) (Q : State → Prop) (D : va_G) (A : Nat → Prop) (H0 : xH) (ad0 : Nat → Nat → Nat) (rf : Option xV) (Hf : xH) : Prop :=
  ∃ (ws0 : va_W), A = va_A ws0 s.heap.size ∧ Q = MQ below (x_Q D rf H0 Hf ad0 ws0 s.heap.size) args s R.cells R.slots A ∧ R.cells = xnc Hf - xnc H0 ∧ R.slots = xns Hf - xns H0 ∧ meth.sig.returnType = ret ∧ meth.locks = false
/-- what stays the same in a program: methods, nest mates, the class's pool, constructor or not, code, frames, locals, return type, launch, classes, calls -/
abbrev xE : Type := List xMi × List (String × Nat × MethodName) × xK × Bool × ByteArray × Nat × Nat × Option FieldType × Launch × va_G × xG
/-- the code from pc on does f: it ends at nx, at one of brs, or returns -/
def x_Imp (E : xE) (f : xP) (pc nx : Nat) (brs : List Nat) : Prop :=
  x_Gok E.1 E.2.1 E.2.2.2.2.2.2.2.2.1 E.2.2.2.2.2.2.2.2.2.1 E.2.2.2.2.2.2.2.2.2.2 E.2.2.2.2.2.1 →
  ∀ t fl t', f t = some (fl, t') → x_gr t.2.2 t'.2.2 ∧ ∀ (p : Program) (e : Env) (R : Room) (s : State) (m : MethodId) (args : Array Value) (below : List Frame) (meth : Method) (c : Code) (Q : State → Prop) (A : Nat → Prop) (H0 : xH) (ad0 : Nat → Nat → Nat),
    x_Ctx E.1 E.2.1 E.2.2.1 E.2.2.2.1 E.2.2.2.2.1 E.2.2.2.2.2.1 p R s m args meth c A E.2.2.2.2.2.2.1 →
    (match fl with
     | .inl k => ∃ q, x_tg nx brs k = some q ∧ x_At p E.2.2.2.2.2.2.2.2.1 e R s m args below meth c Q E.2.2.2.2.2.2.2.2.2.1 A E.2.2.2.2.2.2.1 H0 ad0 q t'
     | .inr v => x_Fin E.2.2.2.2.2.2.2.1 R s args below meth Q E.2.2.2.2.2.2.2.2.2.1 A H0 ad0 v t'.2.2) →
    x_At p E.2.2.2.2.2.2.2.2.1 e R s m args below meth c Q E.2.2.2.2.2.2.2.2.2.1 A E.2.2.2.2.2.2.1 H0 ad0 pc t
section IMP
variable {p : Program} {l : Launch} {e : Env} {R : Room} {s : State} {m : MethodId} {args : Array Value} {below : List Frame} {meth : Method} {c : Code} {Q : State → Prop} {D : va_G} {A : Nat → Prop} {nL : Nat} {H0 : xH} {ad0 : Nat → Nat → Nat}
variable {xM : List xMi} {nest : List (String × Nat × MethodName)} {K : xK} {ini : Bool} {cc : ByteArray} {d rg : Nat} {ret : Option FieldType} {G : xG} {pc nx : Nat} {brs : List Nat}
theorem x_goto (hx : p.tables.exec = Jvm.exec) (hb : c.code = cc) : ∀ (n pc nx : Nat) (t : xS), x_land cc n pc nx = true → x_At p l e R s m args below meth c Q D A nL H0 ad0 nx t → x_At p l e R s m args below meth c Q D A nL H0 ad0 pc t
  | 0, pc, nx, t, h, k => by
    simp only [x_land, decide_eq_true_eq] at h
    rw [h]; exact k
  | n + 1, pc, nx, t, h, k => by
    simp only [x_land, Bool.or_eq_true, decide_eq_true_eq] at h
    rcases h with h | h
    · rw [h]; exact k
    · split at h
      · rename_i off hd
        simp only [Bool.and_eq_true, decide_eq_true_eq] at h
        obtain ⟨L, S, H⟩ := t
        exact x_mv (x_goto hx hb n _ nx _ h.2 k) (fun h _ => h) fun _ ad Hc locs ls cells slots _ kk => lv_goto hx hb hd (by omega) kk
      · cases h
theorem x_iops {l0 : Launch} {D0 : va_G} {l : List Instr} {pc' : Nat} (hc : x_chk K ini nL cc l pc = some pc') (hl : x_land cc 3 pc' nx = true) : x_Imp (xM, nest, K, ini, cc, d, nL, ret, l0, D0, G) (p_ops x_dd G rg l) pc nx brs := by
  intro hG t fl t' h
  unfold p_ops at h
  obtain ⟨t1, h1, h2⟩ := Option.map_eq_some_iff.mp h
  simp only [Prod.mk.injEq] at h2
  obtain ⟨rfl, rfl⟩ := h2
  have key : ∀ (l : List Instr) (pc : Nat) (t : xS), x_chk K ini nL cc l pc = some pc' → xIs x_dd G rg l t = some t1 → x_gr t.2.2 t1.2.2 ∧ ∀ (p : Program) (e : Env) (R : Room) (s : State) (m : MethodId) (args : Array Value) (below : List Frame) (meth : Method) (c : Code) (Q : State → Prop) (A : Nat → Prop) (H0 : xH) (ad0 : Nat → Nat → Nat),
      x_Ctx xM nest K ini cc d p R s m args meth c A nL → x_At p l0 e R s m args below meth c Q D0 A nL H0 ad0 pc' t1 → x_At p l0 e R s m args below meth c Q D0 A nL H0 ad0 pc t := by
    intro l
    induction l with
    | nil =>
      intro pc t hc h1
      cases hc
      cases h1
      exact ⟨x_gr.rf _, fun _ _ _ _ _ _ _ _ _ _ _ _ _ _ k => k⟩
    | cons op l ih =>
      intro pc t hc h1
      unfold x_chk at hc
      split at hc
      · rename_i ins len hd
        split at hc
        · rename_i hm
          unfold xIs at h1
          obtain ⟨t2, a1, a2⟩ := Option.bind_eq_some_iff.mp h1
          obtain ⟨g1, g2⟩ := ih _ t2 hc a2
          have st := fun (p : Program) (e : Env) (R : Room) (s : State) (m : MethodId) (args : Array Value) (below : List Frame) (meth : Method) (c : Code) (Q : State → Prop) (A : Nat → Prop) (H0 : xH) (ad0 : Nat → Nat → Nat) (X : x_Ctx xM nest K ini cc d p R s m args meth c A nL) (k : x_At p l0 e R s m args below meth c Q D0 A nL H0 ad0 (pc + len) t2) => x_step (rg := rg) X hG hd hm a1 k
          exact ⟨(x_gr_I hG.1 a1).tr g1, fun p e R s m args below meth c Q A H0 ad0 X k => (st p e R s m args below meth c Q A H0 ad0 X (g2 p e R s m args below meth c Q A H0 ad0 X k)).2⟩
        · cases hc
      · cases hc
  obtain ⟨g1, g2⟩ := key l pc t hc h1
  refine ⟨g1, fun p e R s m args below meth c Q A H0 ad0 X k => ?_⟩
  obtain ⟨q, hq, k⟩ := k
  cases hq
  exact g2 p e R s m args below meth c Q A H0 ad0 X (x_goto X.1 X.2.1 3 _ _ _ hl k)
end IMP
