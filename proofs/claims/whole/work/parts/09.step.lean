/-! ===== one instruction: what the small machine does, the machine does ===== -/
/-- an instruction with its operand looked up, and its length -/
def x_nrm (K : xK) (ini : Bool) (nL : Nat) (i : Instr) : Option (Instr × Nat) := match i with
  | .iconst n => if -2147483648 ≤ n ∧ n < 2147483648 then some (.iconst n, 1) else none
  | .bipush n => if -128 ≤ n ∧ n < 128 then some (.iconst n, 2) else none
  | .sipush n => if -32768 ≤ n ∧ n < 32768 then some (.iconst n, 3) else none
  | .ldc i => (x_lk K.2.2.2.2.2.1 i).map fun n => (.iconst n, 2)
  | .ldc_w i => (x_lk K.2.2.2.2.2.1 i).map fun n => (.iconst n, 3)
  | .ldc2_w i => (x_lk K.2.2.2.2.2.2 i).map fun n => (.jsr n, 3)
  | .lconst n => some (.jsr (n : Nat), 1)
  | .iload_n i => some (.iload i, 1)
  | .iload i => some (.iload i, 2)
  | .aload_n i => some (.aload i, 1)
  | .aload i => some (.aload i, 2)
  | .lload_n i => some (.lload i, 1)
  | .lload i => some (.lload i, 2)
  | .istore_n i => if (i : Nat) < nL then some (.istore i, 1) else none
  | .istore i => if i < nL then some (.istore i, 2) else none
  | .astore_n i => if (i : Nat) < nL then some (.astore i, 1) else none
  | .astore i => if i < nL then some (.astore i, 2) else none
  | .lstore_n i => if (i : Nat) + 1 < nL then some (.lstore i, 1) else none
  | .lstore i => if i + 1 < nL then some (.lstore i, 2) else none
  | .iinc i n => if i < nL then some (.iinc i n, 3) else none
  | .iadd => some (.iadd, 1)
  | .isub => some (.isub, 1)
  | .imul => some (.imul, 1)
  | .iand => some (.iand, 1)
  | .ior => some (.ior, 1)
  | .ixor => some (.ixor, 1)
  | .ishl => some (.ishl, 1)
  | .ishr => some (.ishr, 1)
  | .iushr => some (.iushr, 1)
  | .ineg => some (.ineg, 1)
  | .i2b => some (.i2b, 1)
  | .i2s => some (.i2s, 1)
  | .i2c => some (.i2c, 1)
  | .idiv => some (.idiv, 1)
  | .irem => some (.irem, 1)
  | .i2l => some (.i2l, 1)
  | .l2i => some (.l2i, 1)
  | .lmul => some (.lmul, 1)
  | .lsub => some (.lsub, 1)
  | .ldiv => some (.ldiv, 1)
  | .lcmp => some (.lcmp, 1)
  | .dup => some (.dup, 1)
  | .dup_x1 => some (.dup_x1, 1)
  | .dup2 => some (.dup2, 1)
  | .pop => some (.pop, 1)
  | .getfield i => (x_lk K.2.1 i).map fun q => (.getfield (q % 4096), 3)
  | .putfield i => (x_lk K.2.1 i).bind fun q => if q < 16384 ∨ (ini = true ∧ q < 32768) then some (.putfield (q % 16384), 3) else none
  | .iaload => some (.iaload, 1)
  | .baload => some (.baload, 1)
  | .caload => some (.caload, 1)
  | .laload => some (.laload, 1)
  | .aaload => some (.aaload, 1)
  | .iastore => some (.iastore, 1)
  | .bastore => some (.bastore, 1)
  | .castore => some (.castore, 1)
  | .lastore => some (.lastore, 1)
  | .aastore => some (.aastore, 1)
  | .arraylength => some (.arraylength, 1)
  | .newarray t => some (.newarray t, 2)
  | .anewarray i => (x_lk K.2.2.2.2.1 i).map fun ci => (.anewarray ci, 3)
  | .invokestatic i => (x_lk K.2.2.1 i).bind fun q => if q.1 = 2 ∨ q.1 = 3 then some (.invokestatic q.2, 3) else none
  | .invokevirtual i => (x_lk K.2.2.1 i).bind fun q => if q.1 = 0 ∨ q.1 = 1 then some (.invokevirtual q.2, 3) else none
  | .invokespecial i => (x_lk K.2.2.1 i).bind fun q => if q.1 = 4 ∨ q.1 = 5 then some (.invokespecial q.2, 3) else if q.1 = 6 then some (.pop2, 3) else none
  | _ => none
/-- a new object goes to any region -/
def x_mt (K : xK) (ini : Bool) (nL : Nat) (i : Instr) (len : Nat) (op : Instr) : Bool := match i with
  | .new j => match op with
    | .new q => decide (x_lk K.2.2.2.1 j = some (q / 8) ∧ len = 3)
    | _ => false
  | i => decide (x_nrm K ini nL i = some (op, len))
theorem x_c16_in (a : Int) : xin (xc16 a) := x_rI _
theorem x_mc {α : Type} {v w : α} {l : List α} (h : v ∈ w :: l) : v = w ∨ v ∈ l := List.mem_cons.mp h
theorem x_f1 {H : xH} {v w : xV} {S : List xV} (h : ∀ v ∈ S, x_ok H v) (hw : x_ok H w) (hv : v ∈ w :: S) : x_ok H v := by
  rcases x_mc hv with rfl | hv
  · exact hw
  · exact h v hv
theorem x_f1' {H : xH} {w : xV} {S : List xV} (h : ∀ v ∈ S, x_ok H v) (hw : x_ok H w) : ∀ v ∈ w :: S, x_ok H v := fun _ hv => x_f1 h hw hv
theorem x_hd {H : xH} {w : xV} {S : List xV} (h : ∀ v ∈ w :: S, x_ok H v) : x_ok H w := h w List.mem_cons_self
theorem x_tl {H : xH} {w : xV} {S : List xV} (h : ∀ v ∈ w :: S, x_ok H v) : ∀ v ∈ S, x_ok H v := fun v hv => h v (List.mem_cons_of_mem _ hv)
theorem x_st_in {L : List xV} {i : Nat} {v w : xV} (h : w ∈ xst L i v) : w = v ∨ w = .inr (.inr (.inr 2)) ∨ w ∈ L := by
  match i with
  | 0 =>
    simp only [xst] at h
    rcases List.mem_or_eq_of_mem_set h with h | h
    · exact Or.inr (Or.inr h)
    · exact Or.inl h
  | j + 1 =>
    simp only [xst] at h
    split at h
    · rcases List.mem_or_eq_of_mem_set h with h | h
      · rcases List.mem_or_eq_of_mem_set h with h | h
        · exact Or.inr (Or.inr h)
        · exact Or.inr (Or.inl h)
      · exact Or.inl h
    · rcases List.mem_or_eq_of_mem_set h with h | h
      · exact Or.inr (Or.inr h)
      · exact Or.inl h
theorem x_st_ok {H : xH} {L : List xV} {i : Nat} {v : xV} (h : ∀ v ∈ L, v = .inr (.inr (.inr 2)) ∨ x_ok H v) (hv : x_ok H v) : ∀ w ∈ xst L i v, w = .inr (.inr (.inr 2)) ∨ x_ok H w := by
  intro w hw
  rcases x_st_in hw with rfl | h1 | h1
  · exact Or.inr hv
  · exact Or.inl h1
  · exact h w h1
theorem x_st2_ok {H : xH} {L : List xV} {i : Nat} {v : xV} (h : ∀ v ∈ L, v = .inr (.inr (.inr 2)) ∨ x_ok H v) (hv : x_ok H v) : ∀ w ∈ xst2 L i v, w = .inr (.inr (.inr 2)) ∨ x_ok H w := by
  intro w hw
  unfold xst2 at hw
  rcases List.mem_or_eq_of_mem_set hw with h1 | h1
  · exact x_st_ok h hv w h1
  · exact Or.inl h1
section STEP
variable {p : Program} {l : Launch} {e : Env} {R : Room} {s : State} {m : MethodId} {args : Array Value} {below : List Frame} {meth : Method} {c : Code} {Q : State → Prop} {D : va_G} {A : Nat → Prop} {nL : Nat} {H0 : xH} {ad0 : Nat → Nat → Nat}
variable {xM : List xMi} {nest : List (String × Nat × MethodName)} {K : xK} {ini : Bool} {cc : ByteArray} {d rg : Nat} {G : xG} {pc : Nat} {t t' : xS}
theorem x_s1 {f : Int → Int} {n : Nat} (row : ∀ (z : Int), xin z → ∀ (Hc : Heap) (locs : List Loc) (ls : Array Slot) (cells slots : Nat) (rest : List Value), W p l e R s m args below meth c Hc locs cells slots Q (F0 m (pc + n) ls (.int (Int32.ofInt (f z)) :: rest)) → W p l e R s m args below meth c Hc locs cells slots Q (F0 m pc ls (.int (Int32.ofInt z) :: rest)))
    (hf : ∀ z, xin z → xin (f z)) (h : x_un f t = some t') (k : x_At p l e R s m args below meth c Q D A nL H0 ad0 (pc + n) t') : x_gr t.2.2 t'.2.2 ∧ x_At p l e R s m args below meth c Q D A nL H0 ad0 pc t := by
  unfold x_un at h
  split at h
  · cases h
    exact ⟨x_gr.rf _, x_mv k (fun h _ => x_f1' (x_tl h) (hf _ (x_hd h))) fun h ad Hc locs ls cells slots _ kk => row _ (x_hd h) Hc locs ls cells slots _ kk⟩
  · cases h
theorem x_s2 {f : Int → Int → Int} {n : Nat} (row : ∀ (x y : Int), xin x → xin y → ∀ (Hc : Heap) (locs : List Loc) (ls : Array Slot) (cells slots : Nat) (rest : List Value), W p l e R s m args below meth c Hc locs cells slots Q (F0 m (pc + n) ls (.int (Int32.ofInt (f x y)) :: rest)) → W p l e R s m args below meth c Hc locs cells slots Q (F0 m pc ls (.int (Int32.ofInt y) :: .int (Int32.ofInt x) :: rest)))
    (hf : ∀ x y, xin x → xin y → xin (f x y)) (h : x_bin f t = some t') (k : x_At p l e R s m args below meth c Q D A nL H0 ad0 (pc + n) t') : x_gr t.2.2 t'.2.2 ∧ x_At p l e R s m args below meth c Q D A nL H0 ad0 pc t := by
  unfold x_bin at h
  split at h
  · cases h
    exact ⟨x_gr.rf _, x_mv k (fun h _ => x_f1' (x_tl (x_tl h)) (hf _ _ (x_hd (x_tl h)) (x_hd h))) fun h ad Hc locs ls cells slots _ kk => row _ _ (x_hd (x_tl h)) (x_hd h) Hc locs ls cells slots _ kk⟩
  · cases h
theorem x_s2l {f : Int → Int → Int} {n : Nat} (row : ∀ (x y : Int), xlin x → xlin y → ∀ (Hc : Heap) (locs : List Loc) (ls : Array Slot) (cells slots : Nat) (rest : List Value), W p l e R s m args below meth c Hc locs cells slots Q (F0 m (pc + n) ls (.long (Int64.ofInt (f x y)) :: rest)) → W p l e R s m args below meth c Hc locs cells slots Q (F0 m pc ls (.long (Int64.ofInt y) :: .long (Int64.ofInt x) :: rest)))
    (hf : ∀ x y, xlin x → xlin y → xlin (f x y)) (h : x_lbin f t = some t') (k : x_At p l e R s m args below meth c Q D A nL H0 ad0 (pc + n) t') : x_gr t.2.2 t'.2.2 ∧ x_At p l e R s m args below meth c Q D A nL H0 ad0 pc t := by
  unfold x_lbin at h
  split at h
  · cases h
    exact ⟨x_gr.rf _, x_mv k (fun h _ => x_f1' (x_tl (x_tl h)) (hf _ _ (x_hd (x_tl h)) (x_hd h))) fun h ad Hc locs ls cells slots _ kk => row _ _ (x_hd (x_tl h)) (x_hd h) Hc locs ls cells slots _ kk⟩
  · cases h
/-- a constant -/
theorem x_sC {n : Int} {len : Nat} (hn : xin n) (row : ∀ (Hc : Heap) (locs : List Loc) (ls : Array Slot) (cells slots : Nat) (rest : List Value), W p l e R s m args below meth c Hc locs cells slots Q (F0 m (pc + len) ls (.int (Int32.ofInt n) :: rest)) → W p l e R s m args below meth c Hc locs cells slots Q (F0 m pc ls rest))
    (h : xI x_dd G rg (.iconst n) t = some t') (k : x_At p l e R s m args below meth c Q D A nL H0 ad0 (pc + len) t') : x_gr t.2.2 t'.2.2 ∧ x_At p l e R s m args below meth c Q D A nL H0 ad0 pc t := by
  obtain ⟨L, S, H⟩ := t
  cases h
  exact ⟨x_gr.rf _, x_mv k (fun h _ => x_f1' h hn) fun _ ad Hc locs ls cells slots _ kk => row Hc locs ls cells slots _ kk⟩
theorem x_sCl {n : Int} {len : Nat} (hn : xlin n) (row : ∀ (Hc : Heap) (locs : List Loc) (ls : Array Slot) (cells slots : Nat) (rest : List Value), W p l e R s m args below meth c Hc locs cells slots Q (F0 m (pc + len) ls (.long (Int64.ofInt n) :: rest)) → W p l e R s m args below meth c Hc locs cells slots Q (F0 m pc ls rest))
    (h : xI x_dd G rg (.jsr n) t = some t') (k : x_At p l e R s m args below meth c Q D A nL H0 ad0 (pc + len) t') : x_gr t.2.2 t'.2.2 ∧ x_At p l e R s m args below meth c Q D A nL H0 ad0 pc t := by
  obtain ⟨L, S, H⟩ := t
  cases h
  exact ⟨x_gr.rf _, x_mv k (fun h _ => x_f1' h hn) fun _ ad Hc locs ls cells slots _ kk => row Hc locs ls cells slots _ kk⟩
theorem x_sIl {i len : Nat} (row : ∀ (z : Int) (Hc : Heap) (locs : List Loc) (ls : Array Slot) (cells slots : Nat) (rest : List Value), ls[i]? = some (.val (.int (Int32.ofInt z))) → W p l e R s m args below meth c Hc locs cells slots Q (F0 m (pc + len) ls (.int (Int32.ofInt z) :: rest)) → W p l e R s m args below meth c Hc locs cells slots Q (F0 m pc ls rest))
    (h : xI x_dd G rg (.iload i) t = some t') (k : x_At p l e R s m args below meth c Q D A nL H0 ad0 (pc + len) t') : x_gr t.2.2 t'.2.2 ∧ x_At p l e R s m args below meth c Q D A nL H0 ad0 pc t := by
  obtain ⟨L, S, H⟩ := t
  unfold xI at h
  dsimp only at h
  split at h
  · rename_i n hn
    cases h
    exact ⟨x_gr.rf _, x_mv k (fun h hL => x_f1' h ((hL _ (List.mem_of_getElem? hn)).resolve_left (fun q => by cases q))) fun _ ad Hc locs ls cells slots h7 kk => row n Hc locs ls cells slots _ (h7.2.2 i _ hn (fun q => by cases q)) kk⟩
  · cases h
theorem x_sLl {i len : Nat} (row : ∀ (z : Int) (Hc : Heap) (locs : List Loc) (ls : Array Slot) (cells slots : Nat) (rest : List Value), ls[i]? = some (.val (.long (Int64.ofInt z))) → W p l e R s m args below meth c Hc locs cells slots Q (F0 m (pc + len) ls (.long (Int64.ofInt z) :: rest)) → W p l e R s m args below meth c Hc locs cells slots Q (F0 m pc ls rest))
    (h : xI x_dd G rg (.lload i) t = some t') (k : x_At p l e R s m args below meth c Q D A nL H0 ad0 (pc + len) t') : x_gr t.2.2 t'.2.2 ∧ x_At p l e R s m args below meth c Q D A nL H0 ad0 pc t := by
  obtain ⟨L, S, H⟩ := t
  unfold xI at h
  dsimp only at h
  split at h
  · rename_i n hn
    cases h
    exact ⟨x_gr.rf _, x_mv k (fun h hL => x_f1' h ((hL _ (List.mem_of_getElem? hn)).resolve_left (fun q => by cases q))) fun _ ad Hc locs ls cells slots h7 kk => row n Hc locs ls cells slots _ (h7.2.2 i _ hn (fun q => by cases q)) kk⟩
  · cases h
theorem x_sAl {i len : Nat} (row : ∀ (z : Nat) (Hc : Heap) (locs : List Loc) (ls : Array Slot) (cells slots : Nat) (rest : List Value), ls[i]? = some (.val (.ref z)) → W p l e R s m args below meth c Hc locs cells slots Q (F0 m (pc + len) ls (.ref z :: rest)) → W p l e R s m args below meth c Hc locs cells slots Q (F0 m pc ls rest))
    (h : xI x_dd G rg (.aload i) t = some t') (k : x_At p l e R s m args below meth c Q D A nL H0 ad0 (pc + len) t') : x_gr t.2.2 t'.2.2 ∧ x_At p l e R s m args below meth c Q D A nL H0 ad0 pc t := by
  obtain ⟨L, S, H⟩ := t
  unfold xI at h
  dsimp only at h
  split at h
  · rename_i n hn
    cases h
    exact ⟨x_gr.rf _, x_mv k (fun h hL => x_f1' h ((hL _ (List.mem_of_getElem? hn)).resolve_left (fun q => by cases q))) fun _ ad Hc locs ls cells slots h7 kk => row _ Hc locs ls cells slots _ (h7.2.2 i _ hn (fun q => by cases q)) kk⟩
  · cases h
theorem x_sIs {i len : Nat} (hi : i < nL) (row : ∀ (z : Int) (lv : List (Nat × Value)) (Hc : Heap) (locs : List Loc) (ls : Array Slot) (cells slots : Nat) (rest : List Value), lv_has ls nL lv → (∀ ls' : Array Slot, lv_has ls' nL ((i, .int (Int32.ofInt z)) :: lv.filter (fun q => !(q.1 == i) && !(q.1 + 1 == i && q.2.category == 2))) → W p l e R s m args below meth c Hc locs cells slots Q (F0 m (pc + len) ls' rest)) → W p l e R s m args below meth c Hc locs cells slots Q (F0 m pc ls (.int (Int32.ofInt z) :: rest)))
    (h : xI x_dd G rg (.istore i) t = some t') (k : x_At p l e R s m args below meth c Q D A nL H0 ad0 (pc + len) t') : x_gr t.2.2 t'.2.2 ∧ x_At p l e R s m args below meth c Q D A nL H0 ad0 pc t := by
  unfold xI at h
  dsimp only at h
  split at h
  · rename_i L n S H
    cases h
    exact ⟨x_gr.rf _, x_mvL k (x_len_st _ _ _) (fun h hL => ⟨x_tl h, x_st_ok hL (x_hd h)⟩) fun hl h ad Hc locs ls cells slots h7 kk => row n _ Hc locs ls cells slots _ h7.has (fun ls' h' => kk ls' (x_L.st hl hi h'))⟩
  · cases h
theorem x_sAs {i len : Nat} (hi : i < nL) (row : ∀ (z : Nat) (lv : List (Nat × Value)) (Hc : Heap) (locs : List Loc) (ls : Array Slot) (cells slots : Nat) (rest : List Value), lv_has ls nL lv → (∀ ls' : Array Slot, lv_has ls' nL ((i, .ref z) :: lv.filter (fun q => !(q.1 == i) && !(q.1 + 1 == i && q.2.category == 2))) → W p l e R s m args below meth c Hc locs cells slots Q (F0 m (pc + len) ls' rest)) → W p l e R s m args below meth c Hc locs cells slots Q (F0 m pc ls (.ref z :: rest)))
    (h : xI x_dd G rg (.astore i) t = some t') (k : x_At p l e R s m args below meth c Q D A nL H0 ad0 (pc + len) t') : x_gr t.2.2 t'.2.2 ∧ x_At p l e R s m args below meth c Q D A nL H0 ad0 pc t := by
  unfold xI at h
  dsimp only at h
  split at h
  · rename_i L n S H
    cases h
    exact ⟨x_gr.rf _, x_mvL k (x_len_st _ _ _) (fun h hL => ⟨x_tl h, x_st_ok hL (x_hd h)⟩) fun hl h ad Hc locs ls cells slots h7 kk => row _ _ Hc locs ls cells slots _ h7.has (fun ls' h' => kk ls' (x_L.st hl hi h'))⟩
  · cases h
theorem x_sLs {i len : Nat} (hi : i + 1 < nL) (row : ∀ (z : Int) (lv : List (Nat × Value)) (Hc : Heap) (locs : List Loc) (ls : Array Slot) (cells slots : Nat) (rest : List Value), lv_has ls nL lv → (∀ ls' : Array Slot, lv_has ls' nL ((i, .long (Int64.ofInt z)) :: lv.filter (fun q => !(q.1 == i) && (!(q.1 == i + 1) && !(q.1 + 1 == i && q.2.category == 2)))) → W p l e R s m args below meth c Hc locs cells slots Q (F0 m (pc + len) ls' rest)) → W p l e R s m args below meth c Hc locs cells slots Q (F0 m pc ls (.long (Int64.ofInt z) :: rest)))
    (h : xI x_dd G rg (.lstore i) t = some t') (k : x_At p l e R s m args below meth c Q D A nL H0 ad0 (pc + len) t') : x_gr t.2.2 t'.2.2 ∧ x_At p l e R s m args below meth c Q D A nL H0 ad0 pc t := by
  unfold xI at h
  dsimp only at h
  split at h
  · rename_i L n S H
    cases h
    exact ⟨x_gr.rf _, x_mvL k (by unfold xst2; rw [List.length_set, x_len_st]) (fun h hL => ⟨x_tl h, x_st2_ok hL (x_hd h)⟩) fun hl h ad Hc locs ls cells slots h7 kk => row _ _ Hc locs ls cells slots _ h7.has (fun ls' h' => kk ls' (x_L.st2 hl hi h'))⟩
  · cases h
/-- a number out of a row -/
theorem x_sRd {ty n : Nat} {v : Int} (hty : ty ≠ 3) (row : ∀ (z : Int) (N : Nat) (f : Nat → Int) (cA : ClassId) (t0 a q0 : Nat) (tys : List (ClassId × FieldType)) (ws : va_W) (Hc : Heap) (locs : List Loc) (ls : Array Slot) (cells slots : Nat) (rest : List Value), va_K D vwCl tys s → va_P D vwCl ws Hc → ws[q0]? = some (a, .inl (cA, N, .inl (fun j => Int32.ofInt (f j)))) → tys[t0]? = some (cA, x_ty ty) → vp_in (Int32.ofInt z) N → (Int32.ofInt z).toNatClampNeg = z.toNat →
      W p l e R s m args below meth c Hc locs cells slots Q (F0 m (pc + n) ls (.int (Int32.ofInt (f z.toNat)) :: rest)) → W p l e R s m args below meth c Hc locs cells slots Q (F0 m pc ls (.int (Int32.ofInt z) :: .ref a :: rest)))
    (h : x_ald ty t = some t') (k : x_At p l e R s m args below meth c Q D A nL H0 ad0 (pc + n) t') : x_gr t.2.2 t'.2.2 ∧ x_At p l e R s m args below meth c Q D A nL H0 ad0 pc t := by
  unfold x_ald x_rd at h
  split at h
  · rename_i L z kk jj S H
    split at h
    · rename_i ty' N f hc
      by_cases hz : ty' = ty ∧ 0 ≤ z ∧ z < N
      · obtain ⟨rfl, hz⟩ := hz
        simp only [true_and, if_pos hz, Option.map_some, Option.some.injEq] at h
        subst h
        refine ⟨x_gr.rf _, x_mvR k (fun hw h => x_f1' (x_tl (x_tl h)) ?_) fun h ad pl tys ws Hc locs ls cells slots h1 h3 h5 kk1 => ?_⟩
        · have h9 : ∀ j, if ty' = 3 then xlin (f j) else xin (f j) := hw kk jj _ hc
          have h8 := h9 z.toNat
          rw [if_neg hty] at h8
          exact h8
        · obtain ⟨-, e0, g2, g3⟩ := h1.1 kk jj _ hc
          obtain ⟨-, cA, t0, ht, g4⟩ := g3
          dsimp only at g4 ht
          rw [if_neg hty] at g4
          subst g4
          exact row z N f cA t0 _ _ tys ws Hc locs ls cells slots _ h5 h3 g2 ht (x_vin (x_hd h) hz.1 hz.2) (x_cl (x_hd h)) kk1
      · simp only [if_neg hz, Option.map_none, reduceCtorEq] at h
    · cases h
  · cases h
/-- a number into a row -/
theorem x_sWr {ty n : Nat} {g : Int → Int} (hty : ty < 5 ∧ ty ≠ 3) (hgi : ∀ z, xin z → xin (g z)) (row : ∀ (x z : Int) (N : Nat) (f : Nat → Int) (cA : ClassId) (t0 a q0 : Nat) (tys : List (ClassId × FieldType)) (ws : va_W) (Hc : Heap) (locs : List Loc) (ls : Array Slot) (cells slots : Nat) (rest : List Value), va_K D vwCl tys s → va_P D vwCl ws Hc → va_D A ws → va_S A s.heap Hc locs → ws[q0]? = some (a, .inl (cA, N, .inl (fun j => Int32.ofInt (f j)))) → tys[t0]? = some (cA, x_ty ty) → vp_in (Int32.ofInt z) N → (Int32.ofInt z).toNatClampNeg = z.toNat →
      (∀ (H1 : Heap) (locs1 : List Loc), va_P D vwCl (ws.set q0 (a, .inl (cA, N, .inl (fun j => Int32.ofInt (xfu f z.toNat (g x) j))))) H1 → va_D A (ws.set q0 (a, .inl (cA, N, .inl (fun j => Int32.ofInt (xfu f z.toNat (g x) j))))) → va_S A s.heap H1 locs1 → W p l e R s m args below meth c H1 locs1 cells slots Q (F0 m (pc + n) ls rest)) → W p l e R s m args below meth c Hc locs cells slots Q (F0 m pc ls (.int (Int32.ofInt x) :: .int (Int32.ofInt z) :: .ref a :: rest)))
    (h : x_ast ty g t = some t') (k : x_At p l e R s m args below meth c Q D A nL H0 ad0 (pc + n) t') : x_gr t.2.2 t'.2.2 ∧ x_At p l e R s m args below meth c Q D A nL H0 ad0 pc t := by
  unfold x_ast at h
  split at h
  · rename_i L x z kk jj S H
    split at h
    · rename_i ty' N f hc
      by_cases hz : ty' = ty ∧ 0 ≤ z ∧ z < N
      · obtain ⟨rfl, hz⟩ := hz
        simp only [true_and, if_pos hz, Option.some.injEq] at h
        subst h
        refine ⟨x_gr.put _ _ _ _, x_mvP hc k (fun h hw => ⟨x_tl (x_tl (x_tl h)), fun j => ?_⟩) fun h ad pl tys ws e0 Hc locs ls cells slots h1 g2 g3 h3 h4 h5 h6 kk1 => ?_⟩
        · rw [if_neg hty.2]
          dsimp only
          unfold xfu
          split
          · exact hgi _ (x_hd h)
          · have := hw j
            rw [if_neg hty.2] at this
            exact this
        · obtain ⟨-, cA, t0, ht, g4⟩ := g3
          dsimp only at g4 ht
          rw [if_neg hty.2] at g4
          subst g4
          refine row x z N f cA t0 _ _ tys ws Hc locs ls cells slots _ h5 h3 h4 h6 g2 ht (x_vin (x_hd (x_tl h)) hz.1 hz.2) (x_cl (x_hd (x_tl h))) (fun H1 locs1 a1 a2 a3 => ?_)
          refine kk1 _ H1 locs1 ⟨hty.1, cA, t0, ht, ?_⟩ a1 a2 a3
          dsimp only
          rw [if_neg hty.2]
      · simp only [if_neg hz, reduceCtorEq] at h
    · cases h
  · cases h
end STEP
