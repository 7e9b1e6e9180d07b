/-! ===== calls ===== -/
/-- how a method ends: its answer, its heap, the frame -/
def x_Q (D : va_G) (r : Option xV) (H H' : xH) (ad : Nat → Nat → Nat) (ws : va_W) (sz : Nat) : Array Value → State → Outcome → State → Prop := fun _ st oc t =>
  (∃ (ad' pl' : Nat → Nat → Nat) (tys' : List (ClassId × FieldType)) (ws' : va_W), oc = .returned (r.map (x_cv ad')) ∧ x_W H' ad' pl' tys' ws' ∧ (∀ v, r = some v → x_ok H' v) ∧ (∀ k i, i < (xrg H k).length → ad' k i = ad k i) ∧
    va_P D vwCl ws' t.heap ∧ va_K D vwCl tys' t ∧ va_D (va_A ws sz) ws') ∧ va_F (va_A ws sz) st t
def x_Pc (nest : List (String × Nat × MethodName)) (D : va_G) (a : List xV) (ad : Nat → Nat → Nat) (tys : List (ClassId × FieldType)) (ws : va_W) (sz : Nat) : Array Value → State → Prop := va_Pc (a.map (x_cv ad)) (fun U => U.heap.size = sz ∧ va_P D vwCl ws U.heap ∧ va_K D vwCl tys U ∧ va_D (fun _ => True) ws ∧ x_env nest U ∧ x_str (va_A ws sz) U)
def x_wds (y : xMi) : List Cond := Cond.code y.1 y.2.1 y.2.2.1 y.2.2.2.1 :: xT
/-- the method y does as f says, in d frames -/
def x_Snd (nest : List (String × Nat × MethodName)) (l : Launch) (D : va_G) (y : xMi) (f : List xV → xH → Option (Option xV × xH)) (d : Nat) : Prop :=
  ∀ a H r H', f a H = some (r, H') → x_gr H H' ∧ ∀ (ad pl : Nat → Nat → Nat) (tys : List (ClassId × FieldType)) (ws : va_W) (sz : Nat), x_W H ad pl tys ws → (∀ v ∈ a, x_ok H v) →
    Met l y.1 (x_wds y) ({ frames := d, cells := xnc H' - xnc H, slots := xns H' - xns H, locals := 40 * d }) (x_Pc nest D a ad tys ws sz) (x_Q D r H H' ad ws sz) (xnc H' - xnc H) (xns H' - xns H) (va_A ws sz)
def x_Gok (xM : List xMi) (nest : List (String × Nat × MethodName)) (l : Launch) (D : va_G) (G : xG) (d : Nat) : Prop :=
  (∀ mi a H r H', (G mi).2 a H = some (r, H') → x_gr H H') ∧ ∀ mi y, xM[mi]? = some y → (G mi).1 = y.2.2.2.2 ∧ ∃ d', d' + 1 ≤ d ∧ x_Snd nest l D y (G mi).2 d'
theorem x_goodIn {y : xMi} (h : x_Mok y) {Ts : List Cond} (hT : ∀ w ∈ xT, w ∈ Ts) : GoodIn Ts (x_wds y) := by
  intro w hw
  rcases List.mem_cons.mp hw with rfl | hw
  · exact ⟨hT _ h.1, x_good h.1⟩
  · exact ⟨hT _ hw, x_good hw⟩
theorem x_blind (nest : List (String × Nat × MethodName)) (D : va_G) (a : List xV) (ad : Nat → Nat → Nat) (tys : List (ClassId × FieldType)) (ws : va_W) (sz : Nat) : FrameBlind (x_Pc nest D a ad tys ws sz) := by
  intro av U g mk q
  obtain ⟨q0, q1, qP, qK, qD, qE, qS⟩ := q
  exact ⟨q0, q1, qP, va_K.moved (u := U) (U := U.calling g mk av) (Vm.Alike.refl U.vm) qK, qD, qE.same rfl, qS.same rfl rfl⟩
section CALL
variable {p : Program} {l : Launch} {e : Env} {R : Room} {s : State} {m : MethodId} {args : Array Value} {below : List Frame} {meth : Method} {c : Code} {Q : State → Prop} {D : va_G} {A : Nat → Prop} {nL : Nat} {H0 : xH} {ad0 : Nat → Nat → Nat}
theorem x_mvC {pc : Nat} {L S rest : List xV} {H H' : xH} {r : Option xV} (hA : ∀ q, s.heap.size ≤ q → A q) (hg : x_gr H H') (k : x_At p l e R s m args below meth c Q D A nL H0 ad0 (pc + 3) (L, r.toList ++ rest, H')) (hrest : ∀ v ∈ rest, v ∈ S)
    (hrun : (∀ v ∈ S, x_ok H v) → ∀ (ad pl : Nat → Nat → Nat) (tys : List (ClassId × FieldType)) (ws : va_W) (Hc : Heap) (locs : List Loc) (ls : Array Slot) (cells slots : Nat), x_W H ad pl tys ws → va_P D vwCl ws Hc → va_D A ws → va_K D vwCl tys s → va_S A s.heap Hc locs → (∀ q, va_A ws Hc.size q → A q) → x_L ad L nL ls →
      cells + (xnc H' - xnc H) ≤ R.cells → slots + (xns H' - xns H) ≤ R.slots → ∃ av, va_Run p l e R s m args below meth c Hc locs cells slots (xnc H' - xnc H) (xns H' - xns H) (F0 m pc ls (S.map (x_cv ad))) (rest.map (x_cv ad)) (x_Q D r H H' ad ws Hc.size av) (va_A ws Hc.size)) : x_At p l e R s m args below meth c Q D A nL H0 ad0 pc (L, S, H) := by
  obtain ⟨⟨k1, k1'⟩, k2⟩ := k
  dsimp only at k1 k1'
  have g1 := hg.1
  have g2 := hg.2.1
  refine ⟨⟨by show xnc H - _ ≤ _; omega, by show xns H - _ ≤ _; omega⟩, fun hf ad pl tys ws Hc locs ls h1 h2 h3 h4 h5 h6 h7 => ?_⟩
  have f1 : xnc H0 ≤ xnc H := hf.2.2.2.1
  have f2 : xns H0 ≤ xns H := hf.2.2.2.2.1
  have hAA : ∀ q, va_A ws Hc.size q → A q := by
    rintro q (⟨j, e9, hj⟩ | hj)
    · exact h4.2 j _ hj
    · exact hA q (Nat.le_trans h6.1 hj)
  obtain ⟨av, hr⟩ := hrun hf.2.2.1 ad pl tys ws Hc locs ls (xnc H - xnc H0) (xns H - xns H0) h1 h3 h4 h5 h6 hAA h7 (by omega) (by omega)
  intro T hT X
  obtain ⟨v, st₀, t, T', L1, e0, X', hL, e1, e2, ⟨⟨ad', pl', tys', ws', hv, w1, w2, w3, w4, w5, w6⟩, hz, hk⟩, st⟩ := hr T hT X
  rw [e0] at hz hk
  have hv' : v = r.map (x_cv ad') := by cases hv; rfl
  have hW := k2 ⟨hf.1, fun v hv => (hf.2.1 v hv).imp id (fun z => x_ok.gr z hg), fun v hv => ?_, x_gr.tr hf.2.2.2 hg⟩ ad' pl' tys' ws' T'.heap (locs ++ L1) ls w1 (fun k i hi => by rw [w3 k i (Nat.lt_of_lt_of_le hi (hf.2.2.2.2.2 k))]; exact h2 k i hi) (by rw [e1]; exact w4)
    (w6.weaken (fun _ q _ z => hAA q.1 z)) (va_K.moved (by rw [← e2]; exact X'.warmed.alike.symm) w5)
    ⟨Nat.le_trans h6.1 (by rw [e1]; exact hz), fun q h1 h2 => by rw [e1, hk q (Nat.lt_of_lt_of_le h1 h6.1) (fun z => h2 (hAA q z))]; exact h6.2.1 q h1 h2, fun q hq => by
      rcases List.mem_append.mp hq with h | h
      · exact h6.2.2 q h
      · exact hAA _ (hL q h)⟩ (x_L.ad w3 hf.2.1 h7)
  · have e3 : xnc H' - xnc H0 = xnc H - xnc H0 + (xnc H' - xnc H) := by omega
    have e4 : xns H' - xns H0 = xns H - xns H0 + (xns H' - xns H) := by omega
    dsimp only at hW
    rw [e3, e4] at hW
    obtain ⟨t2, a1, b1⟩ := hW T' rfl X'
    refine ⟨t2, st t2 ?_, b1⟩
    have e5 : (r.toList ++ rest).map (x_cv ad') = v.toList ++ rest.map (x_cv ad) := by
      rw [List.map_append, x_cv_map w3 (fun v hv => hf.2.2.1 v (hrest v hv)), hv']
      cases r <;> rfl
    rw [e5] at a1
    exact a1
  · rcases List.mem_append.mp hv with h | h
    · exact w2 v (by simpa using h)
    · exact (hf.2.2.1 v (hrest v h)).gr hg
end CALL
