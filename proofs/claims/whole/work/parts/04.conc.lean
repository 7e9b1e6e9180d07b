/-! ===== what a small state says of the machine's state ===== -/
/-- a value that is no cell of ours: nothing, or from 3 on what lies outside at an address -/
def x_ext (z : Nat) : Value := match z with
  | z + 3 => .ref z
  | _ => .null
def x_okz (z : Nat) : Bool := match z with
  | 0 => true
  | 1 => false
  | 2 => false
  | _ + 3 => true
theorem x_extc (z : Nat) : (x_ext z).category = 1 := match z with
  | 0 => rfl
  | 1 => rfl
  | 2 => rfl
  | _ + 3 => rfl
/-- a value, the addresses given -/
def x_cv (ad : Nat → Nat → Nat) (v : xV) : Value := match v with
  | .inl n => .int (Int32.ofInt n)
  | .inr (.inl n) => .long (Int64.ofInt n)
  | .inr (.inr (.inl r)) => .ref (ad r.1 r.2)
  | .inr (.inr (.inr z)) => x_ext z
def x_ok (H : xH) (v : xV) : Prop := match v with
  | .inl n => xin n
  | .inr (.inl n) => xlin n
  | .inr (.inr (.inl r)) => r.2 < (xrg H r.1).length
  | .inr (.inr (.inr z)) => x_okz z = true
/-- kinds of rows -/
def x_ty (t : Nat) : FieldType := match t with
  | 0 => .int
  | 1 => .byte
  | 2 => .char
  | 3 => .long
  | _ => .boolean
def x_cr (ad : Nat → Nat → Nat) (tys : List (ClassId × FieldType)) (c : xC) (e : va_E) : Prop := match c with
  | .inl q => e = .inr (q.1, q.2.map (x_cv ad))
  | .inr (.inl q) => q.1 < 5 ∧ ∃ (cA : ClassId) (t0 : Nat), tys[t0]? = some (cA, x_ty q.1) ∧ e = .inl (cA, q.2.1, if q.1 = 3 then .inr (.inl (fun j => Int64.ofInt (q.2.2 j))) else .inl (fun j => Int32.ofInt (q.2.2 j)))
  | .inr (.inr q) => ∃ (cA : ClassId) (t0 : Nat) (r : vw_C), vwCl[q.1]? = some r ∧ tys[t0]? = some (cA, .object r.1) ∧ e = .inl (cA, q.2.1, .inr (.inr (.inr (.inr (fun j => (q.2.2 j).map (fun z => ad z.1 z.2))))))
def x_wf (H : xH) (c : xC) : Prop := match c with
  | .inl q => ∀ v ∈ q.2, x_ok H v
  | .inr (.inl q) => ∀ j, if q.1 = 3 then xlin (q.2.2 j) else xin (q.2.2 j)
  | .inr (.inr q) => ∀ j z, q.2.2 j = some z → z.2 < (xrg H z.1).length
/-- the cells lie in the list ws, each at its own place -/
def x_W (H : xH) (ad pl : Nat → Nat → Nat) (tys : List (ClassId × FieldType)) (ws : va_W) : Prop :=
  (∀ k i c, xcell H k i = some c → x_wf H c ∧ ∃ e, ws[pl k i]? = some (ad k i, e) ∧ x_cr ad tys c e) ∧
  ∀ k i k' i', i < (xrg H k).length → i' < (xrg H k').length → pl k i = pl k' i' → k = k' ∧ i = i'
/-- grown: no region is shorter, the counts are no less -/
def x_gr (H H' : xH) : Prop := xnc H ≤ xnc H' ∧ xns H ≤ xns H' ∧ ∀ k, (xrg H k).length ≤ (xrg H' k).length
theorem x_gr.rf (H : xH) : x_gr H H := ⟨Nat.le_refl _, Nat.le_refl _, fun _ => Nat.le_refl _⟩
theorem x_gr.tr {H H1 H2 : xH} (h : x_gr H H1) (h2 : x_gr H1 H2) : x_gr H H2 := ⟨Nat.le_trans h.1 h2.1, Nat.le_trans h.2.1 h2.2.1, fun k => Nat.le_trans (h.2.2 k) (h2.2.2 k)⟩
theorem x_ok.gr {H H' : xH} {v : xV} (h : x_ok H v) (g : x_gr H H') : x_ok H' v := by
  match v, h with
  | .inl n, h => exact h
  | .inr (.inl n), h => exact h
  | .inr (.inr (.inl r)), h => exact Nat.lt_of_lt_of_le h (g.2.2 r.1)
  | .inr (.inr (.inr z)), h => exact h
theorem x_wf.gr {H H' : xH} {c : xC} (h : x_wf H c) (g : x_gr H H') : x_wf H' c := by
  match c, h with
  | .inl q, h => exact fun v hv => (h v hv).gr g
  | .inr (.inl q), h => exact h
  | .inr (.inr q), h => exact fun j z hz => Nat.lt_of_lt_of_le (h j z hz) (g.2.2 z.1)
theorem x_cv_ad {H : xH} {ad ad' : Nat → Nat → Nat} (ha : ∀ k i, i < (xrg H k).length → ad' k i = ad k i) {v : xV} (h : x_ok H v) : x_cv ad' v = x_cv ad v := by
  match v, h with
  | .inl n, h => rfl
  | .inr (.inl n), h => rfl
  | .inr (.inr (.inl r)), h => exact congrArg Value.ref (ha _ _ h)
  | .inr (.inr (.inr z)), h => rfl
theorem x_cv_map {H : xH} {ad ad' : Nat → Nat → Nat} (ha : ∀ k i, i < (xrg H k).length → ad' k i = ad k i) {l : List xV} (h : ∀ v ∈ l, x_ok H v) : l.map (x_cv ad') = l.map (x_cv ad) := List.map_congr_left fun v hv => x_cv_ad ha (h v hv)
theorem x_cr_ad {H : xH} {ad ad' : Nat → Nat → Nat} (ha : ∀ k i, i < (xrg H k).length → ad' k i = ad k i) {tys tys' : List (ClassId × FieldType)} (ht : ∀ (t : Nat) (q : ClassId × FieldType), tys[t]? = some q → tys'[t]? = some q) {c : xC} {e : va_E} (hw : x_wf H c) (h : x_cr ad tys c e) : x_cr ad' tys' c e := by
  match c, hw, h with
  | .inl q, hw, h => exact h.trans (by rw [x_cv_map ha hw])
  | .inr (.inl q), hw, ⟨h0, cA, t0, h1, h2⟩ => exact ⟨h0, cA, t0, ht _ _ h1, h2⟩
  | .inr (.inr q), hw, ⟨cA, t0, r, h0, h1, h2⟩ =>
    refine ⟨cA, t0, r, h0, ht _ _ h1, h2.trans ?_⟩
    have e : (fun j => (q.2.2 j).map (fun z => ad z.1 z.2)) = fun j => (q.2.2 j).map (fun z => ad' z.1 z.2) := by
      funext j
      cases hj : q.2.2 j with
      | none => rfl
      | some z => exact congrArg some (ha _ _ (hw j z hj)).symm
    rw [e]
theorem x_lt {H : xH} {k i : Nat} {c : xC} (h : xcell H k i = some c) : i < (xrg H k).length := (List.getElem?_eq_some_iff.mp h).1
theorem x_len_put (H : xH) (k i k' : Nat) (c : xC) : (xrg (xput H k i c) k').length = (xrg H k').length := by
  unfold xput
  rw [xrg_xrs]
  by_cases h : k' = k
  · subst h
    rw [if_pos rfl, List.length_set]
  · rw [if_neg h]
theorem x_gr.put (H : xH) (k i : Nat) (c : xC) : x_gr H (xput H k i c) := by
  refine ⟨?_, ?_, fun k' => by rw [x_len_put]; exact Nat.le_refl _⟩
  · unfold xput; rw [xnc_xrs]; exact Nat.le_refl _
  · unfold xput; rw [xns_xrs]; exact Nat.le_refl _
theorem x_nc_put (H : xH) (k i : Nat) (c : xC) : xnc (xput H k i c) = xnc H := by unfold xput; rw [xnc_xrs]
theorem x_ns_put (H : xH) (k i : Nat) (c : xC) : xns (xput H k i c) = xns H := by unfold xput; rw [xns_xrs]
/-- one cell is written -/
theorem x_W.put {H : xH} {ad pl : Nat → Nat → Nat} {tys : List (ClassId × FieldType)} {ws : va_W} (h : x_W H ad pl tys ws) {k i : Nat} (hi : i < (xrg H k).length) {c : xC} {e : va_E} (hw : x_wf H c) (hc : x_cr ad tys c e) : x_W (xput H k i c) ad pl tys (ws.set (pl k i) (ad k i, e)) := by
  refine ⟨fun k' i' c' h' => ?_, fun k1 i1 k2 i2 h1 h2 he => ?_⟩
  · rw [xcell_xput H k i k' i' c hi] at h'
    have hcell : ∃ c0, xcell H k i = some c0 := ⟨_, List.getElem?_eq_getElem hi⟩
    obtain ⟨c0, hc0⟩ := hcell
    obtain ⟨-, e0, he0, -⟩ := h.1 k i c0 hc0
    have hl := (List.getElem?_eq_some_iff.mp he0).1
    by_cases q : k' = k ∧ i' = i
    · rw [if_pos q] at h'
      cases h'
      obtain ⟨rfl, rfl⟩ := q
      exact ⟨hw.gr (x_gr.put _ _ _ _), e, List.getElem?_set_self hl, hc⟩
    · rw [if_neg q] at h'
      obtain ⟨a1, e1, a2, a3⟩ := h.1 k' i' c' h'
      refine ⟨a1.gr (x_gr.put _ _ _ _), e1, ?_, a3⟩
      rw [List.getElem?_set_ne (fun z => q ?_)]
      · exact a2
      · have := h.2 k i k' i' hi (x_lt h') z
        exact ⟨this.1.symm, this.2.symm⟩
  · rw [x_len_put] at h1 h2
    exact h.2 k1 i1 k2 i2 h1 h2 he
theorem x_len_push (H : xH) (k k' : Nat) (c : xC) (n : Nat) : (xrg (xpush H k c n) k').length = if k' = k then (xrg H k).length + 1 else (xrg H k').length := by
  unfold xpush
  rw [xrg_xcount, xrg_xrs]
  by_cases h : k' = k
  · subst h
    rw [if_pos rfl, if_pos rfl]
    simp
  · rw [if_neg h, if_neg h]
theorem x_nc_push (H : xH) (k : Nat) (c : xC) (n : Nat) : xnc (xpush H k c n) = xnc H + 1 := by
  show xnc (xrs H k _) + 1 = _
  rw [xnc_xrs]
theorem x_ns_push (H : xH) (k : Nat) (c : xC) (n : Nat) : xns (xpush H k c n) = xns H + n := by
  show xns (xrs H k _) + n = _
  rw [xns_xrs]
theorem x_gr.push (H : xH) (k : Nat) (c : xC) (n : Nat) : x_gr H (xpush H k c n) := by
  refine ⟨by rw [x_nc_push]; omega, by rw [x_ns_push]; omega, fun k' => ?_⟩
  rw [x_len_push]
  by_cases h : k' = k
  · subst h
    rw [if_pos rfl]; omega
  · rw [if_neg h]; exact Nat.le_refl _
def x_up2 (f : Nat → Nat → Nat) (k i v : Nat) : Nat → Nat → Nat := fun k' i' => if k' = k ∧ i' = i then v else f k' i'
/-- one cell is made -/
theorem x_W.push {H : xH} {ad pl : Nat → Nat → Nat} {tys tys' : List (ClassId × FieldType)} {ws : va_W} (h : x_W H ad pl tys ws) (ht : ∀ (t : Nat) (q : ClassId × FieldType), tys[t]? = some q → tys'[t]? = some q) (k n q : Nat) {c : xC} {e : va_E} (hw : x_wf H c) (hc : x_cr ad tys' c e) :
    x_W (xpush H k c n) (x_up2 ad k (xrg H k).length q) (x_up2 pl k (xrg H k).length ws.length) tys' (ws ++ [(q, e)]) := by
  have hlt : ∀ k' i', i' < (xrg H k').length → ¬ (k' = k ∧ i' = (xrg H k).length) := by
    rintro k' i' hi ⟨rfl, rfl⟩
    omega
  have hpl : ∀ k' i', i' < (xrg H k').length → pl k' i' < ws.length := by
    intro k' i' hi
    obtain ⟨-, e0, he0, -⟩ := h.1 k' i' _ (List.getElem?_eq_getElem hi)
    exact (List.getElem?_eq_some_iff.mp he0).1
  have hA : ∀ k' i', i' < (xrg H k').length → x_up2 ad k (xrg H k).length q k' i' = ad k' i' := by
    intro k' i' hi
    unfold x_up2
    rw [if_neg (hlt k' i' hi)]
  refine ⟨fun k' i' c' h' => ?_, fun k1 i1 k2 i2 h1 h2 he => ?_⟩
  · rw [xcell_xpush] at h'
    by_cases z : k' = k ∧ i' = (xrg H k).length
    · rw [if_pos z] at h'
      cases h'
      refine ⟨hw.gr (x_gr.push _ _ _ _), e, ?_, x_cr_ad hA (fun _ _ h => h) hw hc⟩
      unfold x_up2
      rw [if_pos z, if_pos z]
      simp
    · rw [if_neg z] at h'
      obtain ⟨a1, e1, a2, a3⟩ := h.1 k' i' c' h'
      refine ⟨a1.gr (x_gr.push _ _ _ _), e1, ?_, x_cr_ad hA ht a1 a3⟩
      unfold x_up2
      rw [if_neg z, if_neg z, List.getElem?_append_left (List.getElem?_eq_some_iff.mp a2).1]
      exact a2
  · rw [x_len_push] at h1 h2
    unfold x_up2 at he
    have key : ∀ k' i', i' < (if k' = k then (xrg H k).length + 1 else (xrg H k').length) → ¬ (k' = k ∧ i' = (xrg H k).length) → i' < (xrg H k').length := by
      intro k' i' hi hn
      by_cases z : k' = k
      · subst z
        rw [if_pos rfl] at hi
        have : i' ≠ (xrg H k').length := fun z => hn ⟨rfl, z⟩
        omega
      · rw [if_neg z] at hi
        exact hi
    by_cases z1 : k1 = k ∧ i1 = (xrg H k).length <;> by_cases z2 : k2 = k ∧ i2 = (xrg H k).length
    · exact ⟨z1.1.trans z2.1.symm, z1.2.trans z2.2.symm⟩
    · rw [if_pos z1, if_neg z2] at he
      have := hpl k2 i2 (key k2 i2 h2 z2)
      omega
    · rw [if_neg z1, if_pos z2] at he
      have := hpl k1 i1 (key k1 i1 h1 z1)
      omega
    · rw [if_neg z1, if_neg z2] at he
      exact h.2 k1 i1 k2 i2 (key k1 i1 h1 z1) (key k2 i2 h2 z2) he
theorem x_W.begin {H : xH} {ad pl : Nat → Nat → Nat} {tys : List (ClassId × FieldType)} {ws : va_W} (h : x_W H ad pl tys ws) : x_W (xbegin H) ad pl tys ws := by
  have e : ∀ k, xrg (xbegin H) k = xrg H k := xrg_xbegin H
  have hg : x_gr H (xbegin H) := ⟨Nat.le_refl _, Nat.le_refl _, fun k => by rw [e]; exact Nat.le_refl _⟩
  refine ⟨fun k i c hc => ?_, fun k i k' i' h1 h2 he => ?_⟩
  · have hc' : xcell H k i = some c := by unfold xcell at hc ⊢; rw [← e]; exact hc
    obtain ⟨a1, a2⟩ := h.1 k i c hc'
    exact ⟨a1.gr hg, a2⟩
  · rw [e] at h1 h2
    exact h.2 k i k' i' h1 h2 he
/-- the locals -/
def x_L (ad : Nat → Nat → Nat) (L : List xV) (nL : Nat) (ls : Array Slot) : Prop := ls.size = nL ∧ lv_wf ls ∧ ∀ (i : Nat) (v : xV), L[i]? = some v → v ≠ .inr (.inr (.inr 2)) → ls[i]? = some (.val (x_cv ad v))
def x_tL (ad : Nat → Nat → Nat) (L : List xV) : List (Nat × Value) := (List.range L.length).filterMap fun i => match L[i]? with
  | some v => if v = .inr (.inr (.inr 2)) then none else some (i, x_cv ad v)
  | none => none
theorem x_tL_mem {ad : Nat → Nat → Nat} {L : List xV} {q : Nat × Value} : q ∈ x_tL ad L ↔ ∃ v, L[q.1]? = some v ∧ v ≠ .inr (.inr (.inr 2)) ∧ q.2 = x_cv ad v := by
  unfold x_tL
  rw [List.mem_filterMap]
  constructor
  · rintro ⟨i, -, h⟩
    cases hv : L[i]? with
    | none => rw [hv] at h; cases h
    | some v =>
      rw [hv] at h
      by_cases z : v = .inr (.inr (.inr 2))
      · simp [z] at h
      · simp only [if_neg z, Option.some.injEq] at h
        subst h
        exact ⟨v, hv, z, rfl⟩
  · rintro ⟨v, hv, z, h⟩
    refine ⟨q.1, List.mem_range.mpr (List.getElem?_eq_some_iff.mp hv).1, ?_⟩
    rw [hv]
    simp only [if_neg z, ← h]
theorem x_L.has {ad : Nat → Nat → Nat} {L : List xV} {nL : Nat} {ls : Array Slot} (h : x_L ad L nL ls) : lv_has ls nL (x_tL ad L) := by
  refine ⟨h.1, h.2.1, fun q hq => ?_⟩
  obtain ⟨v, hv, z, e⟩ := x_tL_mem.mp hq
  rw [e]
  exact h.2.2 q.1 v hv z
theorem x_cat (ad : Nat → Nat → Nat) (v : xV) : (x_cv ad v).category = xcat v := by
  match v with
  | .inl n => rfl
  | .inr (.inl n) => rfl
  | .inr (.inr (.inl r)) => rfl
  | .inr (.inr (.inr z)) => exact x_extc z
theorem x_cats (ad : Nat → Nat → Nat) (S : List xV) : ((S.map (x_cv ad)).map fun v => v.category).sum = (S.map xcat).sum := by
  rw [List.map_map]
  congr 1
  exact List.map_congr_left fun v _ => x_cat ad v
theorem x_len_st (L : List xV) (i : Nat) (v : xV) : (xst L i v).length = L.length := by
  match i with
  | 0 => simp [xst]
  | j + 1 =>
    simp only [xst]
    split <;> simp
/-- what stands in the locals after a value of one place was stored -/
theorem x_st_get {L : List xV} {i : Nat} {v : xV} (hi : i < L.length) {j : Nat} {w : xV} (h : (xst L i v)[j]? = some w) (hn : w ≠ .inr (.inr (.inr 2))) : (j = i ∧ w = v) ∨ (j ≠ i ∧ L[j]? = some w ∧ ¬ (j + 1 = i ∧ xcat w = 2)) := by
  match i, hi, h with
  | 0, hi, h =>
    unfold xst at h
    by_cases z : j = 0
    · subst z
      rw [List.getElem?_set_self hi] at h
      exact Or.inl ⟨rfl, (Option.some.inj h).symm⟩
    · rw [List.getElem?_set_ne (Ne.symm z)] at h
      exact Or.inr ⟨z, h, fun q => by omega⟩
  | i + 1, hi, h =>
    simp only [xst] at h
    split at h
    · rename_i n hL
      by_cases z : j = i + 1
      · subst z
        rw [List.getElem?_set_self (by simpa using hi)] at h
        exact Or.inl ⟨rfl, (Option.some.inj h).symm⟩
      · rw [List.getElem?_set_ne (Ne.symm z)] at h
        by_cases z2 : j = i
        · subst z2
          rw [List.getElem?_set_self (by omega)] at h
          exact absurd (Option.some.inj h).symm hn
        · rw [List.getElem?_set_ne (Ne.symm z2)] at h
          exact Or.inr ⟨z, h, fun q => by omega⟩
    · rename_i hL
      by_cases z : j = i + 1
      · subst z
        rw [List.getElem?_set_self hi] at h
        exact Or.inl ⟨rfl, (Option.some.inj h).symm⟩
      · rw [List.getElem?_set_ne (Ne.symm z)] at h
        refine Or.inr ⟨z, h, fun q => ?_⟩
        have hji : j = i := by omega
        subst hji
        match w, h, q.2 with
        | .inr (.inl n), h, _ => exact hL n h
theorem x_L.st {ad : Nat → Nat → Nat} {L : List xV} {nL : Nat} {ls' : Array Slot} {i : Nat} {v : xV} (hL : L.length = nL) (hi : i < nL)
    (h' : lv_has ls' nL ((i, x_cv ad v) :: (x_tL ad L).filter (fun q => !(q.1 == i) && !(q.1 + 1 == i && q.2.category == 2)))) : x_L ad (xst L i v) nL ls' := by
  refine ⟨h'.1, h'.2.1, fun j w hj hn => ?_⟩
  rcases x_st_get (by omega) hj hn with ⟨rfl, rfl⟩ | ⟨h1, h2, h3⟩
  · exact h'.2.2 _ List.mem_cons_self
  · refine h'.2.2 (j, x_cv ad w) (List.mem_cons_of_mem _ (List.mem_filter.mpr ⟨x_tL_mem.mpr ⟨w, h2, hn, rfl⟩, ?_⟩))
    rw [x_cat]
    simp only [Bool.and_eq_true, Bool.not_eq_true', beq_eq_false_iff_ne, ne_eq, Bool.and_eq_false_iff]
    refine ⟨h1, ?_⟩
    by_cases z : j + 1 = i
    · exact Or.inr fun q => h3 ⟨z, q⟩
    · exact Or.inl z
theorem x_L.st2 {ad : Nat → Nat → Nat} {L : List xV} {nL : Nat} {ls' : Array Slot} {i : Nat} {v : xV} (hL : L.length = nL) (hi : i + 1 < nL)
    (h' : lv_has ls' nL ((i, x_cv ad v) :: (x_tL ad L).filter (fun q => !(q.1 == i) && (!(q.1 == i + 1) && !(q.1 + 1 == i && q.2.category == 2))))) : x_L ad (xst2 L i v) nL ls' := by
  refine ⟨h'.1, h'.2.1, fun j w hj hn => ?_⟩
  unfold xst2 at hj
  have z : j ≠ i + 1 := by
    rintro rfl
    rw [List.getElem?_set_self (by rw [x_len_st]; omega)] at hj
    exact hn (Option.some.inj hj).symm
  rw [List.getElem?_set_ne (Ne.symm z)] at hj
  rcases x_st_get (by omega) hj hn with ⟨rfl, rfl⟩ | ⟨h1, h2, h3⟩
  · exact h'.2.2 _ List.mem_cons_self
  · refine h'.2.2 (j, x_cv ad w) (List.mem_cons_of_mem _ (List.mem_filter.mpr ⟨x_tL_mem.mpr ⟨w, h2, hn, rfl⟩, ?_⟩))
    rw [x_cat]
    simp only [Bool.and_eq_true, Bool.not_eq_true', beq_eq_false_iff_ne, ne_eq, Bool.and_eq_false_iff]
    refine ⟨h1, z, ?_⟩
    by_cases z : j + 1 = i
    · exact Or.inr fun q => h3 ⟨z, q⟩
    · exact Or.inl z
theorem x_L.ad {H : xH} {ad ad' : Nat → Nat → Nat} (ha : ∀ k i, i < (xrg H k).length → ad' k i = ad k i) {L : List xV} {nL : Nat} {ls : Array Slot} (hk : ∀ v ∈ L, v = .inr (.inr (.inr 2)) ∨ x_ok H v) (h : x_L ad L nL ls) : x_L ad' L nL ls := by
  refine ⟨h.1, h.2.1, fun i v hv hn => ?_⟩
  rw [x_cv_ad ha ((hk v (List.mem_of_getElem? hv)).resolve_left hn)]
  exact h.2.2 i v hv hn
