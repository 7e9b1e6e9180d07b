/-! ===== pieces put together ===== -/
section COMB
variable {p : Program} {l : Launch} {e : Env} {R : Room} {s : State} {m : MethodId} {args : Array Value} {below : List Frame} {meth : Method} {c : Code} {Q : State → Prop} {D : va_G} {A : Nat → Prop} {nL : Nat} {H0 : xH} {ad0 : Nat → Nat → Nat}
variable {xM : List xMi} {nest : List (String × Nat × MethodName)} {K : xK} {ini : Bool} {cc : ByteArray} {d rg : Nat} {ret : Option FieldType} {l0 : Launch} {D0 : va_G} {G : xG} {pc nx mid : Nat} {brs : List Nat} {E : xE} {a b f : xP}
theorem x_ibr {k q : Nat} (ht : x_tg nx brs k = some q) (hl : x_land cc 3 pc q = true) : x_Imp (xM, nest, K, ini, cc, d, nL, ret, l0, D0, G) (p_br k) pc nx brs := by
  intro hG t fl t' h
  cases h
  refine ⟨x_gr.rf _, fun p e R s m args below meth c Q A H0 ad0 X k => ?_⟩
  obtain ⟨q', hq, k⟩ := k
  cases ht.symm.trans hq
  exact x_goto X.1 X.2.1 3 _ _ _ hl k
theorem x_isq (mid : Nat) (ha : x_Imp E a pc mid brs) (hb : x_Imp E b mid nx brs) : x_Imp E (p_sq a b) pc nx brs := by
  intro hG t fl t' h
  unfold p_sq at h
  split at h
  · rename_i t1 h1
    obtain ⟨g1, w1⟩ := ha hG _ _ _ h1
    obtain ⟨g2, w2⟩ := hb hG _ _ _ h
    exact ⟨g1.tr g2, fun p e R s m args below meth c Q A H0 ad0 X k => w1 p e R s m args below meth c Q A H0 ad0 X ⟨mid, rfl, w2 p e R s m args below meth c Q A H0 ad0 X k⟩⟩
  · rename_i j t1 h1
    cases h
    obtain ⟨g1, w1⟩ := ha hG _ _ _ h1
    exact ⟨g1, fun p e R s m args below meth c Q A H0 ad0 X k => w1 p e R s m args below meth c Q A H0 ad0 X k⟩
  · rename_i v t1 h1
    cases h
    obtain ⟨g1, w1⟩ := ha hG _ _ _ h1
    exact ⟨g1, fun p e R s m args below meth c Q A H0 ad0 X k => w1 p e R s m args below meth c Q A H0 ad0 X k⟩
  · cases h
theorem x_iblk (ha : x_Imp E a pc nx (nx :: brs)) : x_Imp E (p_blk a) pc nx brs := by
  intro hG t fl t' h
  unfold p_blk at h
  split at h
  · rename_i t1 h1
    cases h
    obtain ⟨g1, w1⟩ := ha hG _ _ _ h1
    exact ⟨g1, fun p e R s m args below meth c Q A H0 ad0 X k => w1 p e R s m args below meth c Q A H0 ad0 X k⟩
  · rename_i j t1 h1
    cases h
    obtain ⟨g1, w1⟩ := ha hG _ _ _ h1
    refine ⟨g1, fun p e R s m args below meth c Q A H0 ad0 X k => w1 p e R s m args below meth c Q A H0 ad0 X ?_⟩
    cases j with
    | zero => exact k
    | succ j => exact k
  · rename_i v t1 h1
    cases h
    obtain ⟨g1, w1⟩ := ha hG _ _ _ h1
    exact ⟨g1, fun p e R s m args below meth c Q A H0 ad0 X k => w1 p e R s m args below meth c Q A H0 ad0 X k⟩
  · cases h
theorem x_ilop (ha : x_Imp E a pc nx (pc :: brs)) : x_Imp E (p_lop a) pc nx brs := by
  intro hG t fl t' h
  obtain ⟨n, hn⟩ := p_lop_ex h
  clear h
  induction n generalizing t with
  | zero => cases hn
  | succ n ih =>
    unfold p_it at hn
    split at hn
    · rename_i t1 h1
      cases hn
      obtain ⟨g1, w1⟩ := ha hG _ _ _ h1
      exact ⟨g1, fun p e R s m args below meth c Q A H0 ad0 X k => w1 p e R s m args below meth c Q A H0 ad0 X k⟩
    · rename_i t1 h1
      obtain ⟨g1, w1⟩ := ha hG _ _ _ h1
      obtain ⟨g2, w2⟩ := ih t1 hn
      exact ⟨g1.tr g2, fun p e R s m args below meth c Q A H0 ad0 X k => w1 p e R s m args below meth c Q A H0 ad0 X ⟨pc, rfl, w2 p e R s m args below meth c Q A H0 ad0 X k⟩⟩
    · rename_i j t1 h1
      cases hn
      obtain ⟨g1, w1⟩ := ha hG _ _ _ h1
      exact ⟨g1, fun p e R s m args below meth c Q A H0 ad0 X k => w1 p e R s m args below meth c Q A H0 ad0 X k⟩
    · rename_i v t1 h1
      cases hn
      obtain ⟨g1, w1⟩ := ha hG _ _ _ h1
      exact ⟨g1, fun p e R s m args below meth c Q A H0 ad0 X k => w1 p e R s m args below meth c Q A H0 ad0 X k⟩
    · cases hn
/-- a branch on one number -/
theorem x_br1 (hx : p.tables.exec = Jvm.exec) (hb : c.code = cc) {cd : Jvm.ClassFile.Cond} {off : Int} {tgt : Nat} (hdg : decode cc pc = .ok (.ifCond cd off, 3)) (ht : (pc : Int) + off = (tgt : Int)) {y : Int} (hy : xin y) {Hc : Heap} {locs : List Loc} {ls : Array Slot} {cells slots : Nat} {rest : List Value}
    (k : W p l e R s m args below meth c Hc locs cells slots Q (F0 m (if x_cmp cd y 0 = true then tgt else pc + 3) ls rest)) : W p l e R s m args below meth c Hc locs cells slots Q (F0 m pc ls (.int (Int32.ofInt y) :: rest)) := by
  have z0 : Int32.ofInt 0 = (0 : Int32) := rfl
  have e1 := x_eq0 hy
  have e2 : Int32.ofInt y < 0 ↔ y < 0 := by rw [← z0]; exact x_lt32 hy (by unfold xin; omega)
  have e3 : (0 : Int32) < Int32.ofInt y ↔ 0 < y := by rw [← z0]; exact x_lt32 (by unfold xin; omega) hy
  have e4 : Int32.ofInt y ≤ 0 ↔ y ≤ 0 := by rw [← z0]; exact x_le32 hy (by unfold xin; omega)
  have e5 : (0 : Int32) ≤ Int32.ofInt y ↔ 0 ≤ y := by rw [← z0]; exact x_le32 (by unfold xin; omega) hy
  cases cd with
  | eq => exact lv_if_eq hx hb hdg ht (fun h => by rw [if_pos (by simpa [x_cmp] using e1.mp h)] at k; exact k) (fun h => by rw [if_neg (by simpa [x_cmp] using fun q => h (e1.mpr q))] at k; exact k)
  | ne => exact lv_if_ne hx hb hdg ht (fun h => by rw [if_pos (by simpa [x_cmp] using fun q => h (e1.mpr q))] at k; exact k) (fun h => by rw [if_neg (by simpa [x_cmp] using e1.mp h)] at k; exact k)
  | lt => exact lv_if_lt hx hb hdg ht (fun h => by rw [if_pos (by simpa [x_cmp] using e2.mp h)] at k; exact k) (fun h => by rw [if_neg (by simpa [x_cmp] using fun q => h (e2.mpr q))] at k; exact k)
  | ge => exact lv_if_ge hx hb hdg ht (fun h => by rw [if_pos (by simpa [x_cmp] using e5.mp h)] at k; exact k) (fun h => by rw [if_neg (by simpa [x_cmp] using fun q => h (e5.mpr q))] at k; exact k)
  | gt => exact lv_if_gt hx hb hdg ht (fun h => by rw [if_pos (by simpa [x_cmp] using e3.mp h)] at k; exact k) (fun h => by rw [if_neg (by simpa [x_cmp] using fun q => h (e3.mpr q))] at k; exact k)
  | le => exact lv_if_le hx hb hdg ht (fun h => by rw [if_pos (by simpa [x_cmp] using e4.mp h)] at k; exact k) (fun h => by rw [if_neg (by simpa [x_cmp] using fun q => h (e4.mpr q))] at k; exact k)
theorem x_br2 (hx : p.tables.exec = Jvm.exec) (hb : c.code = cc) {cd : Jvm.ClassFile.Cond} {off : Int} {tgt : Nat} (hdg : decode cc pc = .ok (.if_icmp cd off, 3)) (ht : (pc : Int) + off = (tgt : Int)) {y z : Int} (hy : xin y) (hz : xin z) {Hc : Heap} {locs : List Loc} {ls : Array Slot} {cells slots : Nat} {rest : List Value}
    (k : W p l e R s m args below meth c Hc locs cells slots Q (F0 m (if x_cmp cd y z = true then tgt else pc + 3) ls rest)) : W p l e R s m args below meth c Hc locs cells slots Q (F0 m pc ls (.int (Int32.ofInt z) :: .int (Int32.ofInt y) :: rest)) := by
  have e1 := x_eq hy hz
  have e2 := x_lt32 hy hz
  have e3 := x_lt32 hz hy
  have e4 := x_le32 hy hz
  have e5 := x_le32 hz hy
  cases cd with
  | eq => exact lv_icmp_eq hx hb hdg ht (fun h => by rw [if_pos (by simpa [x_cmp] using e1.mp h)] at k; exact k) (fun h => by rw [if_neg (by simpa [x_cmp] using fun q => h (e1.mpr q))] at k; exact k)
  | ne => exact lv_icmp_ne hx hb hdg ht (fun h => by rw [if_pos (by simpa [x_cmp] using fun q => h (e1.mpr q))] at k; exact k) (fun h => by rw [if_neg (by simpa [x_cmp] using e1.mp h)] at k; exact k)
  | lt => exact lv_icmp_lt hx hb hdg ht (fun h => by rw [if_pos (by simpa [x_cmp] using e2.mp h)] at k; exact k) (fun h => by rw [if_neg (by simpa [x_cmp] using fun q => h (e2.mpr q))] at k; exact k)
  | ge => exact lv_icmp_ge hx hb hdg ht (fun h => by rw [if_pos (by simpa [x_cmp] using e5.mp h)] at k; exact k) (fun h => by rw [if_neg (by simpa [x_cmp] using fun q => h (e5.mpr q))] at k; exact k)
  | gt => exact lv_icmp_gt hx hb hdg ht (fun h => by rw [if_pos (by simpa [x_cmp] using e3.mp h)] at k; exact k) (fun h => by rw [if_neg (by simpa [x_cmp] using fun q => h (e3.mpr q))] at k; exact k)
  | le => exact lv_icmp_le hx hb hdg ht (fun h => by rw [if_pos (by simpa [x_cmp] using e4.mp h)] at k; exact k) (fun h => by rw [if_neg (by simpa [x_cmp] using fun q => h (e4.mpr q))] at k; exact k)
/-- is there a branch, and where it goes -/
def x_ck1 (cc : ByteArray) (pc : Nat) (cd : Jvm.ClassFile.Cond) (tgt : Nat) : Bool := match decode cc pc with
  | .ok (.ifCond c off, 3) => decide (c = cd ∧ (pc : Int) + off = (tgt : Int))
  | _ => false
def x_ck2 (cc : ByteArray) (pc : Nat) (cd : Jvm.ClassFile.Cond) (tgt : Nat) : Bool := match decode cc pc with
  | .ok (.if_icmp c off, 3) => decide (c = cd ∧ (pc : Int) + off = (tgt : Int))
  | _ => false
theorem x_if1 {cd : Jvm.ClassFile.Cond} (tgt : Nat) (hc : x_ck1 cc pc cd tgt = true) (ha : x_Imp (xM, nest, K, ini, cc, d, nL, ret, l0, D0, G) a (pc + 3) nx brs) (hb : x_Imp (xM, nest, K, ini, cc, d, nL, ret, l0, D0, G) b tgt nx brs) : x_Imp (xM, nest, K, ini, cc, d, nL, ret, l0, D0, G) (p_if1 cd a b) pc nx brs := by
  intro hG t fl t' h
  unfold x_ck1 at hc
  split at hc
  · rename_i cd' off hd
    simp only [decide_eq_true_eq] at hc
    obtain ⟨rfl, ht⟩ := hc
    unfold p_if1 at h
    split at h
    · rename_i L y S H
      split at h
      · rename_i hy
        obtain ⟨g1, w1⟩ := hb hG _ _ _ h
        refine ⟨g1, fun p e R s m args below meth c Q A H0 ad0 X k => ?_⟩
        exact x_mv (w1 p e R s m args below meth c Q A H0 ad0 X k) (fun h _ => x_tl h) fun h ad Hc locs ls cells slots _ kk => x_br1 X.1 X.2.1 hd ht (x_hd h) (by rw [if_pos hy]; exact kk)
      · rename_i hy
        obtain ⟨g1, w1⟩ := ha hG _ _ _ h
        refine ⟨g1, fun p e R s m args below meth c Q A H0 ad0 X k => ?_⟩
        exact x_mv (w1 p e R s m args below meth c Q A H0 ad0 X k) (fun h _ => x_tl h) fun h ad Hc locs ls cells slots _ kk => x_br1 X.1 X.2.1 hd ht (x_hd h) (by rw [if_neg hy]; exact kk)
    · cases h
  · cases hc
theorem x_if2 {cd : Jvm.ClassFile.Cond} (tgt : Nat) (hc : x_ck2 cc pc cd tgt = true) (ha : x_Imp (xM, nest, K, ini, cc, d, nL, ret, l0, D0, G) a (pc + 3) nx brs) (hb : x_Imp (xM, nest, K, ini, cc, d, nL, ret, l0, D0, G) b tgt nx brs) : x_Imp (xM, nest, K, ini, cc, d, nL, ret, l0, D0, G) (p_if2 cd a b) pc nx brs := by
  intro hG t fl t' h
  unfold x_ck2 at hc
  split at hc
  · rename_i cd' off hd
    simp only [decide_eq_true_eq] at hc
    obtain ⟨rfl, ht⟩ := hc
    unfold p_if2 at h
    split at h
    · rename_i L z y S H
      split at h
      · rename_i hy
        obtain ⟨g1, w1⟩ := hb hG _ _ _ h
        refine ⟨g1, fun p e R s m args below meth c Q A H0 ad0 X k => ?_⟩
        exact x_mv (w1 p e R s m args below meth c Q A H0 ad0 X k) (fun h _ => x_tl (x_tl h)) fun h ad Hc locs ls cells slots _ kk => x_br2 X.1 X.2.1 hd ht (x_hd (x_tl h)) (x_hd h) (by rw [if_pos hy]; exact kk)
      · rename_i hy
        obtain ⟨g1, w1⟩ := ha hG _ _ _ h
        refine ⟨g1, fun p e R s m args below meth c Q A H0 ad0 X k => ?_⟩
        exact x_mv (w1 p e R s m args below meth c Q A H0 ad0 X k) (fun h _ => x_tl (x_tl h)) fun h ad Hc locs ls cells slots _ kk => x_br2 X.1 X.2.1 hd ht (x_hd (x_tl h)) (x_hd h) (by rw [if_neg hy]; exact kk)
    · cases h
  · cases hc
end COMB
