/-! ===== returning; a whole method ===== -/
section RET
variable {p : Program} {l : Launch} {e : Env} {R : Room} {s : State} {m : MethodId} {args : Array Value} {below : List Frame} {meth : Method} {c : Code} {Q : State → Prop} {D : va_G} {A : Nat → Prop} {nL : Nat} {H0 : xH} {ad0 : Nat → Nat → Nat}
variable {xM : List xMi} {nest : List (String × Nat × MethodName)} {K : xK} {ini : Bool} {cc : ByteArray} {d : Nat} {ret : Option FieldType} {l0 : Launch} {D0 : va_G} {G : xG}
variable {pc nx : Nat} {brs : List Nat} {E : xE} {f : xP}
/-- the end of a method -/
theorem x_end {ret : Option FieldType} {rf : Option xV} {Hf : xH} (F : x_Fin ret R s args below meth Q D A H0 ad0 rf Hf) {L S : List xV}
    (hok : (∀ v ∈ S, x_ok Hf v) → ∀ v, rf = some v → x_ok Hf v)
    (row : (∀ v ∈ S, x_ok Hf v) → ∀ (ad : Nat → Nat → Nat) (Hc : Heap) (locs : List Loc) (ls : Array Slot) (cells slots : Nat) (Qc : Array Value → State → Outcome → State → Prop), meth.sig.returnType = ret → meth.locks = false → (∀ q ∈ locs, A q.base) → (∀ u : State, u.heap = Hc → s.WarmedH u.vm → Qc args s (.returned (rf.map (x_cv ad))) u) → W p l e R s m args below meth c Hc locs cells slots (MQ below Qc args s cells slots A) (F0 m pc ls (S.map (x_cv ad)))) : x_At p l e R s m args below meth c Q D A nL H0 ad0 pc (L, S, Hf) := by
  obtain ⟨ws0, hA, hQ, hc, hs, hr, hl⟩ := F
  refine ⟨⟨by rw [hc]; exact Nat.le_refl _, by rw [hs]; exact Nat.le_refl _⟩, fun hf ad pl tys ws Hc locs ls h1 h2 h3 h4 h5 h6 h7 => ?_⟩
  rw [hQ, hc, hs]
  refine row hf.2.2.1 ad Hc locs ls _ _ _ hr hl h6.2.2 (fun u hu hW => ?_)
  refine ⟨⟨ad, pl, tys, ws, rfl, h1, hok hf.2.2.1, h2, by rw [hu]; exact h3, va_K.moved hW.alike h5, by rw [← hA]; exact h4⟩, ?_⟩
  rw [← hA]
  exact h6.F hu
theorem x_irv (hc : decode cc pc = .ok (.return_, 1)) (hr : ret = none) : x_Imp (xM, nest, K, ini, cc, d, nL, ret, l0, D0, G) p_rv pc nx brs := by
  intro hG t fl t' h
  unfold p_rv at h
  split at h
  · cases h
    refine ⟨x_gr.rf _, fun p e R s m args below meth c Q A H0 ad0 X k => ?_⟩
    refine x_end k (fun _ v h => by cases h) (fun _ ad Hc locs ls cells slots Qc h1 h2 h3 h4 => ?_)
    exact W.vret X.1 X.2.1 (h1.trans hr) h4 h3 hc h2
  · cases h
theorem x_iri (hc : decode cc pc = .ok (.ireturn, 1)) (hr : ret = some .int) : x_Imp (xM, nest, K, ini, cc, d, nL, ret, l0, D0, G) p_ri pc nx brs := by
  intro hG t fl t' h
  unfold p_ri at h
  split at h
  · cases h
    refine ⟨x_gr.rf _, fun p e R s m args below meth c Q A H0 ad0 X k => ?_⟩
    refine x_end k (fun h v hv => by cases hv; exact x_hd h) (fun _ ad Hc locs ls cells slots Qc h1 h2 h3 h4 => ?_)
    exact W.iret X.1 X.2.1 (h1.trans hr) h4 h3 hc h2
  · cases h
theorem x_irz (hc : decode cc pc = .ok (.ireturn, 1)) (hr : ret = some .boolean) : x_Imp (xM, nest, K, ini, cc, d, nL, ret, l0, D0, G) p_rz pc nx brs := by
  intro hG t fl t' h
  unfold p_rz at h
  split at h
  · split at h
    · rename_i hn
      cases h
      refine ⟨x_gr.rf _, fun p e R s m args below meth c Q A H0 ad0 X k => ?_⟩
      refine x_end k (fun h v hv => by cases hv; exact x_hd h) (fun _ ad Hc locs ls cells slots Qc h1 h2 h3 h4 => ?_)
      exact W.zret X.1 X.2.1 (h1.trans hr) (by rcases hn with rfl | rfl <;> rfl) h4 h3 hc h2
    · cases h
  · cases h
theorem x_irl (hc : decode cc pc = .ok (.lreturn, 1)) (hr : ret = some .long) : x_Imp (xM, nest, K, ini, cc, d, nL, ret, l0, D0, G) p_rl pc nx brs := by
  intro hG t fl t' h
  unfold p_rl at h
  split at h
  · cases h
    refine ⟨x_gr.rf _, fun p e R s m args below meth c Q A H0 ad0 X k => ?_⟩
    refine x_end k (fun h v hv => by cases hv; exact x_hd h) (fun _ ad Hc locs ls cells slots Qc h1 h2 h3 h4 => ?_)
    exact W.lret X.1 X.2.1 (h1.trans hr) h4 h3 hc h2
  · cases h
theorem x_key_out {ks : List (Int × Nat)} {d : Nat} {n : Int} (h : ∀ q ∈ ks, n ≠ q.1) : x_key ks d n = d := by
  induction ks with
  | nil => rfl
  | cons q r ih =>
    obtain ⟨k, t⟩ := q
    unfold x_key
    rw [if_neg (h (k, t) List.mem_cons_self)]
    exact ih fun q hq => h q (List.mem_cons_of_mem _ hq)
/-- a switch by a table: its keys are lo .. hi, its targets are those of the blocks -/
def x_ckT (cc : ByteArray) (pc nx : Nat) (brs : List Nat) (ks : List (Int × Nat)) (dk : Nat) : Bool := match decode cc pc with
  | .ok (.tableswitch dflt lo hi offs, _) => decide ((x_tg nx brs dk).map (fun q => (q : Int)) = some ((pc : Int) + dflt)) && decide (hi - lo < 1000) && (ks.all fun q => decide (lo ≤ q.1 ∧ q.1 ≤ hi)) &&
      ((List.range (hi - lo + 1).toNat).all fun i => match offs[i]? with
        | some off => decide ((x_tg nx brs (x_key ks dk (lo + i))).map (fun q => (q : Int)) = some ((pc : Int) + off))
        | none => false)
  | _ => false
theorem x_isw {ks : List (Int × Nat)} {dk : Nat} (hc : x_ckT cc pc nx brs ks dk = true) : x_Imp (xM, nest, K, ini, cc, d, nL, ret, l0, D0, G) (p_sw ks dk) pc nx brs := by
  intro hG t fl t' h
  unfold x_ckT at hc
  split at hc
  · rename_i dflt lo hi offs len hd
    simp only [Bool.and_eq_true, decide_eq_true_eq, List.all_eq_true, List.mem_range] at hc
    obtain ⟨⟨⟨c1, -⟩, c2⟩, c3⟩ := hc
    unfold p_sw at h
    split at h
    · rename_i L n S H
      cases h
      refine ⟨x_gr.rf _, fun p e R s m args below meth c Q A H0 ad0 X k => ?_⟩
      obtain ⟨q, hq, k⟩ := k
      refine x_mv k (fun h _ => x_tl h) fun h ad Hc locs ls cells slots _ kk => ?_
      have hn : (Int32.ofInt n).toInt = n := x_tI (x_hd h)
      by_cases hlo : n < lo ∨ hi < n
      · have hk : x_key ks dk n = dk := x_key_out fun q hq z => by
          have := c2 q hq
          omega
        rw [hk] at hq
        rw [hq] at c1
        exact lv_tableOut X.1 X.2.1 hd (by rw [hn]; exact hlo) (Option.some.inj c1).symm kk
      · have h9 := c3 (n - lo).toNat (by omega)
        split at h9
        · rename_i off hoff
          rw [show lo + ((n - lo).toNat : Int) = n by omega] at h9
          simp only [decide_eq_true_eq] at h9
          rw [hq] at h9
          exact lv_tableIn X.1 X.2.1 hd (by rw [hn]; omega) (by rw [hn]; omega) (by rw [hn]; exact hoff) (Option.some.inj h9).symm kk
        · cases h9
    · cases h
  · cases hc
theorem x_entry {H : xH} (ad : Nat → Nat → Nat) : ∀ (a : List xV) (i : Nat) (v : xV) (off : Nat), (x_args a)[i]? = some v → v ≠ .inr (.inr (.inr 2)) → (off + i, x_cv ad v) ∈ lv_args off (a.map (x_cv ad))
  | [], i, v, off, h, hn => by simp [x_args] at h
  | w :: a, i, v, off, h, hn => by
    have one : ∀ w : xV, xcat w = 1 → (w :: x_args a)[i]? = some v → (off + i, x_cv ad v) ∈ lv_args off ((w :: a).map (x_cv ad)) := by
      intro w hw h
      rw [List.map_cons]
      unfold lv_args
      rw [x_cat, hw]
      cases i with
      | zero => cases h; exact List.mem_cons_self
      | succ i =>
        rw [List.getElem?_cons_succ] at h
        have := x_entry (H := H) ad a i v (off + 1) h hn
        rw [if_neg (by decide), show off + (i + 1) = off + 1 + i by omega]
        exact List.mem_cons_of_mem _ this
    match w, h with
    | .inr (.inl n), h =>
      simp only [x_args] at h
      rw [List.map_cons]
      unfold lv_args
      rw [x_cat]
      match i, h with
      | 0, h => cases h; exact List.mem_cons_self
      | 1, h => exact absurd (Option.some.inj h).symm hn
      | i + 2, h =>
        rw [List.getElem?_cons_succ, List.getElem?_cons_succ] at h
        have := x_entry (H := H) ad a i v (off + 2) h hn
        rw [show off + (i + 2) = off + 2 + i by omega]
        exact List.mem_cons_of_mem _ this
    | .inl n, h => exact one _ rfl h
    | .inr (.inr (.inl r)), h => exact one _ rfl h
    | .inr (.inr (.inr z)), h => exact one _ rfl h
theorem x_sl (ad : Nat → Nat → Nat) : ∀ a : List xV, (lg_sl (a.map (x_cv ad))).length = (x_args a).length
  | [] => rfl
  | w :: a => by
    have ih := x_sl ad a
    unfold lg_sl at ih ⊢
    rw [List.map_cons, List.flatMap_cons, List.length_append, x_cat, ih]
    match w with
    | .inr (.inl n) => simp only [x_args, xcat]; simp; omega
    | .inl n => simp only [x_args, xcat]; simp; omega
    | .inr (.inr (.inl r)) => simp only [x_args, xcat]; simp; omega
    | .inr (.inr (.inr z)) => simp only [x_args, xcat]; simp; omega
theorem x_args_in : ∀ {a : List xV} {v : xV}, v ∈ x_args a → v ∈ a ∨ v = .inr (.inr (.inr 2))
  | [], v, h => by simp [x_args] at h
  | w :: a, v, h => by
    match w, h with
    | .inr (.inl n), h =>
      simp only [x_args] at h
      rcases List.mem_cons.mp h with rfl | h
      · exact Or.inl List.mem_cons_self
      · rcases List.mem_cons.mp h with rfl | h
        · exact Or.inr rfl
        · exact (x_args_in h).imp (List.mem_cons_of_mem _) id
    | .inl n, h =>
      simp only [x_args] at h
      rcases List.mem_cons.mp h with rfl | h
      · exact Or.inl List.mem_cons_self
      · exact (x_args_in h).imp (List.mem_cons_of_mem _) id
    | .inr (.inr (.inl r)), h =>
      simp only [x_args] at h
      rcases List.mem_cons.mp h with rfl | h
      · exact Or.inl List.mem_cons_self
      · exact (x_args_in h).imp (List.mem_cons_of_mem _) id
    | .inr (.inr (.inr z)), h =>
      simp only [x_args] at h
      rcases List.mem_cons.mp h with rfl | h
      · exact Or.inl List.mem_cons_self
      · exact (x_args_in h).imp (List.mem_cons_of_mem _) id
end RET
/-- a method that a program implements -/
theorem x_snd {xM : List xMi} {nest : List (String × Nat × MethodName)} {K : xK} {ini : Bool} {d nL : Nat} {l : Launch} {D : va_G} {G : xG} {f : xP} {y : xMi} (hI : x_Imp (xM, nest, K, ini, y.2.1, d, nL, y.2.2.2.1, l, D, G) f 0 0 []) (hG : x_Gok xM nest l D G d)
    (hM : x_Mok y) (hown : K.1 = y.1.cls) (hnL : nL = y.2.2.1) (hini : ini = true → y.1.name = "<init>") (hd : 1 ≤ d) (hK : x_Kok xM nest K) (hArr : x_arrs) : x_Snd nest l D y (x_run nL f) d := by
  intro a H r H' h
  unfold x_run at h
  split at h
  · rename_i hlen
    split at h
    · rename_i v t hv
      cases h
      obtain ⟨g1, w1⟩ := hI hG _ _ _ hv
      refine ⟨g1, fun ad pl tys ws sz h1 hok => ?_⟩
      refine va_MetF (cc := y.2.1) (maxL := y.2.2.1) (ret := y.2.2.2.1) hM.2.2.2.1 rfl ?_
      intro p e s m args below meth c s₁ B hml hv
      obtain ⟨rfl, hsz, hP, hKc, hD0, henv, hstr⟩ := hv
      have hts := atoms_spec (ws := x_wds y) B.pre
      have hl := lv_entry (a.map (x_cv ad)) (n := y.2.2.1) (by rw [x_sl, ← hnL]; exact hlen)
      rw [lg_entry_eq]
      generalize (lg_sl (a.map (x_cv ad)) ++ List.replicate (y.2.2.1 - (lg_sl (a.map (x_cv ad))).length) Slot.unset).toArray = ls at hl ⊢
      subst hsz
      have X : x_Ctx xM nest K ini y.2.1 d p (headSpec (x_wds y) { frames := d, cells := xnc t.2.2 - xnc H, slots := xns t.2.2 - xns H, locals := 40 * d }).room s m (a.map (x_cv ad)).toArray meth c (va_A ws s.heap.size) nL :=
        ⟨B.exec, B.bytes, hml.trans hnL.symm, by rw [hown]; exact findClass_of_methodNamed B.named, fun w hw => hts w (List.mem_cons_of_mem _ hw), henv, fun q h => Or.inr h, ⟨rfl, rfl, hd⟩, fun z => by rw [(name_of_methodNamed B.named B.method).1]; exact hini z, hK, hArr, hstr⟩
      have F : x_Fin y.2.2.2.1 (headSpec (x_wds y) { frames := d, cells := xnc t.2.2 - xnc H, slots := xns t.2.2 - xns H, locals := 40 * d }).room s (a.map (x_cv ad)).toArray below meth (MQ below (x_Q D r H t.2.2 ad ws s.heap.size) (a.map (x_cv ad)).toArray s (xnc t.2.2 - xnc H) (xns t.2.2 - xns H) (va_A ws s.heap.size)) D (va_A ws s.heap.size) H ad r t.2.2 :=
        ⟨ws, rfl, rfl, rfl, rfl, B.returns, B.notSynchronized⟩
      have fin := w1 p e _ s m _ below meth c _ _ H ad X F
      have := fin.2 ⟨?_, ?_, (fun w hw => by cases hw), x_gr.rf _⟩ ad pl tys ws s.heap [] ls h1 (fun _ _ _ => rfl) hP (hD0.self (sz := s.heap.size)) hKc va_S.rf ⟨hl.1.trans hnL.symm, hl.2.1, fun i w hw hn => ?_⟩
      · dsimp only at this
        rw [Nat.sub_self, Nat.sub_self] at this
        exact this
      · dsimp only
        rw [List.length_append, List.length_replicate]
        omega
      · intro w hw
        rcases List.mem_append.mp hw with hw | hw
        · rcases x_args_in hw with h9 | h9
          · exact Or.inr (hok w h9)
          · exact Or.inl h9
        · exact Or.inl (List.mem_replicate.mp hw).2
      · by_cases z : i < (x_args a).length
        · rw [List.getElem?_append_left z] at hw
          have := x_entry (H := H) ad a i w 0 hw hn
          rw [Nat.zero_add] at this
          exact hl.2.2 _ this
        · rw [List.getElem?_append_right (by omega)] at hw
          exact absurd (List.eq_of_mem_replicate (List.mem_of_getElem? hw)) hn
    · cases h
  · cases h
