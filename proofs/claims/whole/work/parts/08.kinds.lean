/-! ===== the six kinds of calls ===== -/
theorem x_call_inv {n : Nat} {f : List xV → xH → Option (Option xV × xH)} {L S : List xV} {H : xH} {t : xS} (h : x_call n f (L, S, H) = some t) :
    n ≤ S.length ∧ ((S.drop n).map xcat).sum ≤ 8 ∧ ∃ r H', f (S.take n).reverse H = some (r, H') ∧ t = (L, r.toList ++ S.drop n, H') := by
  unfold x_call at h
  split at h
  · rename_i hc
    split at h
    · rename_i r H' hr
      cases h
      exact ⟨hc.1, hc.2, r, H', hr, rfl⟩
    · cases h
  · cases h
theorem x_take {S : List xV} {n : Nat} {v : xV} (hv : S[n]? = some v) : (S.take (n + 1)).reverse = v :: (S.take n).reverse ∧ S = S.take n ++ v :: S.drop (n + 1) := by
  have hlt := (List.getElem?_eq_some_iff.mp hv).1
  have he : S[n] = v := (List.getElem?_eq_some_iff.mp hv).2
  constructor
  · rw [List.take_succ_eq_append_getElem hlt, List.reverse_append, he]
    rfl
  · rw [← he, List.getElem_cons_drop, List.take_append_drop]
theorem x_goodV {own : String} {idx : Nat} {y : xMi} (hM : x_Mok y) (h1 : Cond.methodLink own idx y.1 ∈ xT) (h2 : Cond.instanceMethod y.1 ∈ xT) (h3 : Cond.selects y.1.cls y.1 y.1 ∈ xT) : GoodIn xT (wsV own idx y.1.cls y.1 (x_wds y)) := by
  intro w hw
  unfold wsV at hw
  rcases List.mem_append.mp hw with hw | hw
  · simp only [List.mem_cons, List.not_mem_nil, or_false] at hw
    rcases hw with rfl | rfl | rfl | rfl
    · exact ⟨h1, x_good h1⟩
    · exact ⟨h2, x_good h2⟩
    · exact ⟨h3, x_good h3⟩
    · exact ⟨hM.2.1, x_good hM.2.1⟩
  · exact x_goodIn hM (fun _ h => h) w hw
theorem x_goodS {own : String} {idx : Nat} {y : xMi} (hM : x_Mok y) (h1 : Cond.methodLink own idx y.1 ∈ xT) (h2 : Cond.static y.1 ∈ xT) : GoodIn xT (va_wsS own idx y.1 (x_wds y)) := by
  intro w hw
  unfold va_wsS at hw
  rcases List.mem_append.mp hw with hw | hw
  · simp only [List.mem_cons, List.not_mem_nil, or_false] at hw
    rcases hw with rfl | rfl | rfl
    · exact ⟨h1, x_good h1⟩
    · exact ⟨h2, x_good h2⟩
    · exact ⟨hM.2.1, x_good hM.2.1⟩
  · exact x_goodIn hM (fun _ h => h) w hw
theorem x_recv_inv {ci n : Nat} {L S : List xV} {H : xH} (h : x_recv ci (L, S, H) (n + 1) = true) : ∃ k j fs, S[n]? = some (.inr (.inr (.inl (k, j)))) ∧ xcell H k j = some (.inl (ci, fs)) := by
  unfold x_recv at h
  dsimp only [Nat.add_sub_cancel] at h
  split at h
  · rename_i k j hk
    split at h
    · rename_i ci' fs hc
      simp only [decide_eq_true_eq] at h
      exact ⟨k, j, fs, hk, by rw [hc, h.1]⟩
    · cases h
  · cases h
theorem x_isr_inv {n : Nat} {L S : List xV} {H : xH} (h : x_isr (L, S, H) (n + 1) = true) : ∃ q, S[n]? = some (.inr (.inr (.inl q))) := by
  unfold x_isr at h
  dsimp only [Nat.add_sub_cancel] at h
  split at h
  · rename_i q hk
    exact ⟨q, hk⟩
  · cases h
section KINDS
variable {p : Program} {l : Launch} {e : Env} {R : Room} {s : State} {m : MethodId} {args : Array Value} {below : List Frame} {meth : Method} {c : Code} {Q : State → Prop} {D : va_G} {A : Nat → Prop} {nL : Nat} {H0 : xH} {ad0 : Nat → Nat → Nat}
variable {xM : List xMi} {nest : List (String × Nat × MethodName)} {K : xK} {ini : Bool} {cc : ByteArray} {d : Nat} {G : xG} {pc idx q : Nat} {L S : List xV} {H : xH} {t : xS}
theorem x_room {R : Room} {d d' ml : Nat} (hR : R.frames = d ∧ R.locals = 40 * d ∧ 1 ≤ d) (hd : d' + 1 ≤ d) (hm : ml ≤ 21) : d' + 1 ≤ R.frames ∧ 8 + (ml + 11) + 40 * d' ≤ R.locals := by
  obtain ⟨h1, h2, -⟩ := hR
  rw [h1, h2]
  omega
theorem x_k01 (X : x_Ctx xM nest K ini cc d p R s m args meth c A nL) (hG : x_Gok xM nest l D G d) {kd : Nat} (hkd : kd = 0 ∨ kd = 1) (hL : x_Lok xM nest K.1 idx kd q) (hdg : decode cc pc = .ok (.invokevirtual idx, 3))
    (hr : x_recv (q % 16) (L, S, H) (G (q / 16)).1 = true) (h : x_call (G (q / 16)).1 (G (q / 16)).2 (L, S, H) = some t) (k : x_At p l e R s m args below meth c Q D A nL H0 ad0 (pc + 3) t) : x_gr H t.2.2 ∧ x_At p l e R s m args below meth c Q D A nL H0 ad0 pc (L, S, H) := by
  obtain ⟨y, hy, hM, hL⟩ := hL
  obtain ⟨hn, d', hd, hS⟩ := hG.2 (q / 16) y hy
  obtain ⟨hx, hb, hml, hown, hts, henv, hA, hR, -, -, -, hstr⟩ := X
  obtain ⟨i1, i2, r, H', hf, rfl⟩ := x_call_inv h
  obtain ⟨hg, hMet⟩ := hS _ H r H' hf
  refine ⟨hg, ?_⟩
  have hw : (∃ r : vw_C, vwCl[q % 16]? = some r ∧ r.1 = y.1.cls) ∧ ∃ n, y.2.2.2.2 = n + 1 ∧ (parseMethodDescriptor y.1.desc).map (fun d => d.parameters.length) = some n := by
    rcases hkd with rfl | rfl
    · exact hL.2.2.2
    · exact hL.2.2.2
  obtain ⟨⟨rc, hrc, hcls⟩, n, hnn, hpar⟩ := hw
  rw [hn, hnn] at hr i1 i2 hf
  obtain ⟨kk, jj, fs, hSn, hcell⟩ := x_recv_inv hr
  obtain ⟨e1, e2⟩ := x_take hSn
  rw [hn, hnn] at k
  refine x_mvC hA hg k (fun v hv => List.mem_of_mem_drop hv) (fun hok ad pl tys ws Hc locs ls cells slots h1 h3 h4 h5 h6 hAA h7 hc1 hc2 => ?_)
  obtain ⟨-, e0, g2, g3⟩ := h1.1 kk jj _ hcell
  have g3 : e0 = .inr (q % 16, fs.map (x_cv ad)) := g3
  subst g3
  have hm1 := hMet ad pl tys ws Hc.size h1 (fun v hv => hok v (by
    rw [hn, hnn] at hv
    exact List.mem_of_mem_take (List.mem_reverse.mp hv)))
  rw [hn, hnn, e1] at hm1
  have hrecv := va_recv h5 h3 hrc g2
  rw [hcls] at hrecv
  have hst : S.map (x_cv ad) = ((S.take n).reverse.map (x_cv ad)).reverse ++ .ref (ad kk jj) :: (S.drop (n + 1)).map (x_cv ad) := by
    conv => lhs; rw [e2]
    rw [List.map_append, List.map_cons, List.map_reverse, List.reverse_reverse]
    rfl
  have hlen : ((S.take n).reverse.map (x_cv ad)).length = n := by
    rw [List.length_map, List.length_reverse, List.length_take]
    omega
  have hcat : 2 * (F0 m pc ls (S.map (x_cv ad))).monitorRoom + (((S.drop (n + 1)).map (x_cv ad)).map fun v => v.category).sum ≤ 8 := by
    rw [x_cats]
    exact Nat.le_trans (by show 2 * 0 + _ ≤ _; omega) i2
  have hpre : PreV s Hc y.1.cls (ad kk jj) (x_Pc nest D (.inr (.inr (.inl (kk, jj))) :: (S.take n).reverse) ad tys ws Hc.size) ((S.take n).reverse.map (x_cv ad)) :=
    ⟨x_blind _ _ _ _ _ _ _, hrecv, fun U hU hW => ⟨rfl, by rw [hU], by rw [hU]; exact h3, va_K.moved hW.alike h5, h4.weaken (fun _ _ _ _ => trivial), henv.warm hW, hstr.to h6 hU hW hAA⟩⟩
  rcases hkd with rfl | rfl
  · exact ⟨_, va_runV (As := (S.take n).reverse.map (x_cv ad)) (rest := (S.drop (n + 1)).map (x_cv ad)) ⟨hx, hb, hml, hown, hts⟩ hm1 (cwV n hts (x_goodV hM hL.1 hL.2.1 hL.2.2.1) rfl rfl rfl ⟨rfl, hM.2.2.1.1, hM.2.2.1.2, hpar⟩ (x_room hR hd hM.2.2.2.2)) hpre rfl hlen h7.1 hst hcat hdg ⟨hc1, hc2⟩⟩
  · exact ⟨_, va_runVN (As := (S.take n).reverse.map (x_cv ad)) (rest := (S.drop (n + 1)).map (x_cv ad)) ⟨hx, hb, hml, hown, hts⟩ hm1 ⟨va_cnB n hts (x_goodIn hM (fun _ h => h)) rfl rfl rfl (henv.1 _ hL.1) (hts _ hM.2.1) ⟨hM.2.2.1.1, hM.2.2.1.2, hpar⟩ (x_room hR hd hM.2.2.2.2), hts _ hL.2.1, hts _ hL.2.2.1⟩ hpre rfl hlen h7.1 hst hcat hdg ⟨hc1, hc2⟩⟩
theorem x_k23 (X : x_Ctx xM nest K ini cc d p R s m args meth c A nL) (hG : x_Gok xM nest l D G d) {kd : Nat} (hkd : kd = 2 ∨ kd = 3) (hL : x_Lok xM nest K.1 idx kd q) (hdg : decode cc pc = .ok (.invokestatic idx, 3))
    (h : x_call (G (q / 16)).1 (G (q / 16)).2 (L, S, H) = some t) (k : x_At p l e R s m args below meth c Q D A nL H0 ad0 (pc + 3) t) : x_gr H t.2.2 ∧ x_At p l e R s m args below meth c Q D A nL H0 ad0 pc (L, S, H) := by
  obtain ⟨y, hy, hM, hL⟩ := hL
  obtain ⟨hn, d', hd, hS⟩ := hG.2 (q / 16) y hy
  obtain ⟨hx, hb, hml, hown, hts, henv, hA, hR, -, -, -, hstr⟩ := X
  obtain ⟨i1, i2, r, H', hf, rfl⟩ := x_call_inv h
  obtain ⟨hg, hMet⟩ := hS _ H r H' hf
  refine ⟨hg, ?_⟩
  have hpar : (parseMethodDescriptor y.1.desc).map (fun d => d.parameters.length) = some y.2.2.2.2 := by
    rcases hkd with rfl | rfl
    · exact hL.2.2
    · exact hL.2.2
  rw [hn] at i1 i2 hf k
  refine x_mvC hA hg k (fun v hv => List.mem_of_mem_drop hv) (fun hok ad pl tys ws Hc locs ls cells slots h1 h3 h4 h5 h6 hAA h7 hc1 hc2 => ?_)
  have hm1 := hMet ad pl tys ws Hc.size h1 (fun v hv => hok v (by
    rw [hn] at hv
    exact List.mem_of_mem_take (List.mem_reverse.mp hv)))
  rw [hn] at hm1
  have hst : S.map (x_cv ad) = ((S.take y.2.2.2.2).reverse.map (x_cv ad)).reverse ++ (S.drop y.2.2.2.2).map (x_cv ad) := by
    rw [List.map_reverse, List.reverse_reverse, ← List.map_append, List.take_append_drop]
  have hlen : ((S.take y.2.2.2.2).reverse.map (x_cv ad)).length = y.2.2.2.2 := by
    rw [List.length_map, List.length_reverse, List.length_take]
    omega
  have hcat : 2 * (F0 m pc ls (S.map (x_cv ad))).monitorRoom + (((S.drop y.2.2.2.2).map (x_cv ad)).map fun v => v.category).sum ≤ 8 := by
    rw [x_cats]
    exact Nat.le_trans (by show 2 * 0 + _ ≤ _; omega) i2
  have hpre : PreS s Hc (x_Pc nest D (S.take y.2.2.2.2).reverse ad tys ws Hc.size) ((S.take y.2.2.2.2).reverse.map (x_cv ad)) :=
    ⟨x_blind _ _ _ _ _ _ _, fun U hU hW => ⟨rfl, by rw [hU], by rw [hU]; exact h3, va_K.moved hW.alike h5, h4.weaken (fun _ _ _ _ => trivial), henv.warm hW, hstr.to h6 hU hW hAA⟩⟩
  rcases hkd with rfl | rfl
  · exact ⟨_, va_runS (As := (S.take y.2.2.2.2).reverse.map (x_cv ad)) (rest := (S.drop y.2.2.2.2).map (x_cv ad)) ⟨hx, hb, hml, hown, hts⟩ hm1 (va_cwS y.2.2.2.2 hts (x_goodS hM hL.1 hL.2.1) rfl rfl rfl ⟨hM.2.2.1.1, hM.2.2.1.2, hpar⟩ (x_room hR hd hM.2.2.2.2)) hpre rfl hlen h7.1 hst hcat hdg ⟨hc1, hc2⟩⟩
  · exact ⟨_, va_runSN (As := (S.take y.2.2.2.2).reverse.map (x_cv ad)) (rest := (S.drop y.2.2.2.2).map (x_cv ad)) ⟨hx, hb, hml, hown, hts⟩ hm1 ⟨va_cnB y.2.2.2.2 hts (x_goodIn hM (fun _ h => h)) rfl rfl rfl (henv.1 _ hL.1) (hts _ hM.2.1) ⟨hM.2.2.1.1, hM.2.2.1.2, hpar⟩ (x_room hR hd hM.2.2.2.2), hts _ hL.2.1, trivial⟩ hpre rfl hlen h7.1 hst hcat hdg ⟨hc1, hc2⟩⟩
theorem x_k45 (X : x_Ctx xM nest K ini cc d p R s m args meth c A nL) (hG : x_Gok xM nest l D G d) {kd : Nat} (hkd : kd = 4 ∨ kd = 5) (hL : x_Lok xM nest K.1 idx kd q) (hdg : decode cc pc = .ok (.invokespecial idx, 3))
    (hr : x_isr (L, S, H) (G (q / 16)).1 = true) (h : x_call (G (q / 16)).1 (G (q / 16)).2 (L, S, H) = some t) (k : x_At p l e R s m args below meth c Q D A nL H0 ad0 (pc + 3) t) : x_gr H t.2.2 ∧ x_At p l e R s m args below meth c Q D A nL H0 ad0 pc (L, S, H) := by
  obtain ⟨y, hy, hM, hL⟩ := hL
  obtain ⟨hn, d', hd, hS⟩ := hG.2 (q / 16) y hy
  obtain ⟨hx, hb, hml, hown, hts, henv, hA, hR, -, -, -, hstr⟩ := X
  obtain ⟨i1, i2, r, H', hf, rfl⟩ := x_call_inv h
  obtain ⟨hg, hMet⟩ := hS _ H r H' hf
  refine ⟨hg, ?_⟩
  have hw : y.1.name = "<init>" ∧ y.2.2.2.1 = none ∧ ∃ n, y.2.2.2.2 = n + 1 ∧ (parseMethodDescriptor y.1.desc).map (fun d => d.parameters.length) = some n := by
    rcases hkd with rfl | rfl
    · exact hL.2.2
    · exact hL.2.2
  obtain ⟨hini, hret, n, hnn, hpar⟩ := hw
  rw [hn, hnn] at hr i1 i2 hf
  obtain ⟨z, hSn⟩ := x_isr_inv hr
  obtain ⟨e1, e2⟩ := x_take hSn
  rw [hn, hnn] at k
  refine x_mvC hA hg k (fun v hv => List.mem_of_mem_drop hv) (fun hok ad pl tys ws Hc locs ls cells slots h1 h3 h4 h5 h6 hAA h7 hc1 hc2 => ?_)
  have hm1 := hMet ad pl tys ws Hc.size h1 (fun v hv => hok v (by
    rw [hn, hnn] at hv
    exact List.mem_of_mem_take (List.mem_reverse.mp hv)))
  rw [hn, hnn, e1] at hm1
  have hst : S.map (x_cv ad) = ((S.take n).reverse.map (x_cv ad)).reverse ++ .ref (ad z.1 z.2) :: (S.drop (n + 1)).map (x_cv ad) := by
    conv => lhs; rw [e2]
    rw [List.map_append, List.map_cons, List.map_reverse, List.reverse_reverse]
    rfl
  have hlen : ((S.take n).reverse.map (x_cv ad)).length = n := by
    rw [List.length_map, List.length_reverse, List.length_take]
    omega
  have hcat : 2 * (F0 m pc ls (S.map (x_cv ad))).monitorRoom + (((S.drop (n + 1)).map (x_cv ad)).map fun v => v.category).sum ≤ 8 := by
    rw [x_cats]
    exact Nat.le_trans (by show 2 * 0 + _ ≤ _; omega) i2
  have hpre : PreS s Hc (x_Pc nest D (.inr (.inr (.inl z)) :: (S.take n).reverse) ad tys ws Hc.size) (.ref (ad z.1 z.2) :: (S.take n).reverse.map (x_cv ad)) :=
    ⟨x_blind _ _ _ _ _ _ _, fun U hU hW => ⟨rfl, by rw [hU], by rw [hU]; exact h3, va_K.moved hW.alike h5, h4.weaken (fun _ _ _ _ => trivial), henv.warm hW, hstr.to h6 hU hW hAA⟩⟩
  have hwds : x_wds y = Cond.code y.1 y.2.1 y.2.2.1 none :: xT := by unfold x_wds; rw [hret]
  rcases hkd with rfl | rfl
  · exact ⟨_, va_runI (As := (S.take n).reverse.map (x_cv ad)) (rest := (S.drop (n + 1)).map (x_cv ad)) ⟨hx, hb, hml, hown, hts⟩ hm1 (cwI n hts (x_goodIn hM (fun _ h => h)) hwds rfl rfl (hts _ hM.2.1) (hts _ hL.1) (hts _ hL.2.1) hini ⟨hM.2.2.1.1, hM.2.2.1.2, hpar⟩ (x_room hR hd hM.2.2.2.2)) hpre rfl hlen h7.1 hst hcat hdg ⟨hc1, hc2⟩⟩
  · exact ⟨_, va_runIN (As := (S.take n).reverse.map (x_cv ad)) (rest := (S.drop (n + 1)).map (x_cv ad)) ⟨hx, hb, hml, hown, hts⟩ hm1 ⟨va_cnB n hts (x_goodIn hM (fun _ h => h)) hwds rfl rfl (henv.1 _ hL.1) (hts _ hM.2.1) ⟨hM.2.2.1.1, hM.2.2.1.2, hpar⟩ (x_room hR hd hM.2.2.2.2), hini, hts _ hL.2.1⟩ hpre rfl hlen h7.1 hst hcat hdg ⟨hc1, hc2⟩⟩
end KINDS
