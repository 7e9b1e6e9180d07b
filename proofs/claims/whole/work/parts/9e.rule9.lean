/-! ===== rule: alike ===== -/
section SA
variable {r r' : xR}
theorem tNumL_same (hd : ∀ a w, tDigit r a w 0 9 = tDigit r' a w 0 9) (hh : ∀ a, rHere r a = rHere r' a) : ∀ (m : Nat) (v a w : Int), tNumL r m v a w = tNumL r' m v a w
  | 0, v, a, w => rfl
  | m + 1, v, a, w => by
    unfold tNumL
    rw [hh a, hd a w]
    split
    · exact tNumL_same hd hh m _ _ _
    · rfl
/-- what the class keeps of a rule is what the reference asks -/
theorem rule_new {T : Nat} (h0 : 0 < T) (h40 : T ≤ 40) (hb : ∀ i, i < T → -128 ≤ r.2 4 i ∧ r.2 4 i < 128) (hw : (vR (rRuX r T) 814 5 0 0 0 (-1)).2.2 = -1) {st : Nat → Int} (hst : ∀ i, i < (cR (rRuX r T) 814 5 0 0 (-1)).1.length → st i = (cR (rRuX r T) 814 5 0 0 (-1)).1.getD i 0) : 1 ≤ (cR (rRuX r T) 814 5 0 0 (-1)).1.length ∧ (cR (rRuX r T) 814 5 0 0 (-1)).1.length ≤ 40 ∧ ∀ (tx : Nat → Int), (∀ i, i < T → tx i = r.2 4 i) → ∀ q S, cRunV st q S (cR (rRuX r T) 814 5 0 0 (-1)).1.length = (rHeld (kRd (T : Int) tx q)).1 := by
  have key : ∀ (tx q : Nat → Int), (∀ i, i < T → tx i = r.2 4 i) → cR (rRuX r T) 814 5 0 0 (-1) = cR (kRd (T : Int) tx q) 814 5 0 0 (-1) ∧ rX (kRd (T : Int) tx q) 814 5 0 0 := by
    intro tx q htx
    have hsrc : ∀ i : Nat, i < T → rSrc (rRuX r T) i = rSrc (kRd (T : Int) tx q) i := by
      intro i hi
      show r.2 4 i = tx i
      exact (htx i hi).symm
    have hh : ∀ a, rHere (rRuX r T) a = rHere (kRd (T : Int) tx q) a := by
      intro a
      show (if a < (T : Int) ∧ a < 40 then xand (rSrc (rRuX r T) a.toNat) 255 else -1) = (if a < (T : Int) ∧ a < 40 then xand (rSrc (kRd (T : Int) tx q) a.toNat) 255 else -1)
      by_cases d : a < (T : Int) ∧ a < 40
      · rw [if_pos d, if_pos d, hsrc a.toNat (by omega)]
      · rw [if_neg d, if_neg d]
    have hdg : ∀ a w, tDigit (rRuX r T) a w 0 9 = tDigit (kRd (T : Int) tx q) a w 0 9 := by
      intro a w
      unfold tDigit
      rw [← hh a]
      by_cases d : 48 + 0 ≤ rHere (rRuX r T) a ∧ rHere (rRuX r T) a ≤ 48 + 9
      · have hin := rHere_in (r := rRuX r T) (a := a) rfl (by omega)
        have hin : a < (T : Int) ∧ a < 40 := hin
        rw [hsrc a.toNat (by omega)]
      · simp only [if_neg d]
    have hs : rSane (kRd (T : Int) tx q) := Or.inr ⟨rfl, by show (T : Int) ≤ 40; omega, by show (40 : Int) ≤ 40; omega⟩
    have hD : rDg (kRd (T : Int) tx q) := by
      intro a ha d1 d2
      have hin := rHere_in (r := kRd (T : Int) tx q) (a := a) rfl (by omega)
      have hin : a < (T : Int) ∧ a < 40 := hin
      have e1 : rSrc (kRd (T : Int) tx q) a.toNat = r.2 4 a.toNat := htx a.toNat (by omega)
      have e2 : rHere (kRd (T : Int) tx q) a = xand (r.2 4 a.toNat) 255 := by
        show (if a < (T : Int) ∧ a < 40 then xand (rSrc (kRd (T : Int) tx q) a.toNat) 255 else -1) = _
        rw [if_pos hin, e1]
      have hb9 := hb a.toNat (by omega)
      rw [e2, xand_255] at d1 d2 ⊢
      rw [e1]
      omega
    refine ⟨cR_same hh (fun a w => ?_) 814 5 0 0 (-1), (r_run hs hD (by show ¬ (1 : Int) = 0; decide) 814).2.2.2.2.2 0 0 (by decide) (by decide) (by decide)⟩
    unfold tNum
    rw [hdg]
    exact tNumL_same hdg hh _ _ _ _
  have hlen := (key (r.2 4) (fun _ => 0) (fun i _ => rfl))
  have hv : ∀ (tx q : Nat → Int), (∀ i, i < T → tx i = r.2 4 i) → (vR (kRd (T : Int) tx q) 814 5 0 0 0 (-1)).2 = (vR (rRuX r T) 814 5 0 0 0 (-1)).2 := by
    intro tx q htx
    rw [← cR_v (kRd (T : Int) tx q) 814 5 0 0 0 (-1), ← (key tx q htx).1, cR_v (rRuX r T) 814 5 0 0 0 (-1)]
  have hl40 : ∀ a, (40 : Int) ≤ a → rHere (rRuX r T) a = -1 := by
    intro a ha
    unfold rHere
    rw [if_neg]
    intro z
    have z2 : a < 40 := z.2
    omega
  have htop := vR_top hl40 814 5 0 0 0 (-1) (by decide) (by decide)
  obtain ⟨k1, k2, k3⟩ := hlen.2 (by rw [hv _ _ (fun i _ => rfl)]; exact hw)
  rw [hv _ _ (fun i _ => rfl)] at k3
  rw [← hlen.1] at k2 k3
  refine ⟨k2, by omega, fun tx htx q S => ?_⟩
  have hk := key tx q htx
  obtain ⟨m1, m2, m3⟩ := hk.2 (by rw [hv tx q htx]; exact hw)
  rw [← hk.1] at m1
  obtain ⟨S', s1, s2, s3⟩ := m1 0 S (by omega)
  unfold cRunV
  rw [eXs_it hst (0, S) _ (Nat.le_refl _), List.take_length]
  have s1 : eXs q (cR (rRuX r T) 814 5 0 0 (-1)).1 (0, S) = (0 + 1, S') := s1
  rw [s1]
  exact s2
end SA
/-- the text is over, and the rule another -/
theorem Rel_rule {r r' : xR} {c c' : xQ} (hr : Rel r c) (b8 : r'.1 8 = 0)
    (r1 : ∀ i, i = 1 ∨ i = 2 ∨ i = 5 ∨ i = 6 ∨ i = 10 ∨ i = 28 ∨ i = 42 ∨ i = 44 → r'.1 i = r.1 i) (r2 : ∀ j, j = 1 ∨ j = 2 ∨ j = 3 ∨ j = 5 ∨ j = 11 ∨ j = 18 ∨ j = 19 ∨ j = 20 ∨ j = 21 ∨ j = 22 → r'.2 j = r.2 j) (h20 : r'.1 20 ≤ 40) (hru : ruleOk c' (r'.1 20) (r'.2 8))
    (q0 : c'.1 2 = 0) (q1 : ∀ i, i = 0 ∨ i = 1 ∨ i = 8 ∨ i = 9 → c'.1 i = c.1 i) (q2 : ∀ j, j = 10 ∨ j = 26 ∨ j = 27 ∨ j = 28 → c'.2.1 j = c.2.1 j) (q3 : c'.2.2 = c.2.2) : Rel r' c' := by
  obtain ⟨h1, ⟨s1, s2, s3⟩, ⟨U, f, u1, u2, u3, u4, u5, u6⟩, h4, ⟨T, t1, t2, t3, t4⟩, ⟨g1, g2⟩, ⟨W, w1, w2, w3, w4⟩, ⟨D, d1, d2, d3, d4⟩⟩ := hr
  have hB : kB (rK r') = kB (rK r) := by show (r'.1 1).toNat = (r.1 1).toNat; rw [r1 1 (by decide)]
  have hN : kN (rK r') = kN (rK r) := by show (r'.1 2).toNat = (r.1 2).toNat; rw [r1 2 (by decide)]
  have es : ∀ B N z a, sSea r B N z a → sSea r' B N z a := fun B N z a => sSea_r (fun g _ => by rw [r2 2 (by decide)]) (fun g _ => by rw [r2 3 (by decide)])
  refine ⟨?_, ⟨?_, ?_, ?_⟩, ⟨U, f, u1, u2, ?_, ?_, ?_, fun i hi => ?_⟩, fun i hi => ?_, ⟨0, by omega, b8, q0, fun i hi => absurd hi (by omega)⟩, ⟨h20, hru⟩, ⟨W, w1, ?_, ?_, ?_⟩, ⟨D, d1, ?_, ?_, ?_⟩⟩
  · unfold RNum at h1 ⊢
    rw [hB, hN, r1 1 (by decide), r1 2 (by decide), r1 44 (by decide), r1 6 (by decide), r2 2 (by decide), show kPace (rK r') = kPace (rK r) from r2 3 (by decide)]
    exact h1
  · rw [hB, hN, r2 1 (by decide), q3]
    exact es _ _ _ _ s1
  · rw [q3, s2, r1 5 (by decide)]
  · rw [q3, s3, r1 6 (by decide)]
  · rw [r1 28 (by decide)]
    exact u3
  · rw [q1 9 (by decide)]
    exact u4
  · rw [q1 8 (by decide)]
    exact u5
  · rw [hB, hN, r2 11 (by decide), q3]
    exact es _ _ _ _ (u6 i hi)
  · obtain ⟨k1, k2⟩ := h4 i hi
    rw [q2 10 (by decide), r2 21 (by decide), r2 20 (by decide), r2 22 (by decide), r1 44 (by decide), hB, hN, q3]
    refine ⟨k1, ?_⟩
    rcases k2 with k2 | ⟨k2, B', N', k3, k4, k5, k6⟩
    · exact Or.inl k2
    · exact Or.inr ⟨k2, B', N', k3, k4, es _ _ _ _ k5, k6⟩
  · rw [r1 42 (by decide)]
    exact w2
  · rw [q1 0 (by decide)]
    exact w3
  · rw [q2 26 (by decide), q2 27 (by decide), r2 18 (by decide), r2 19 (by decide)]
    exact w4
  · rw [r1 10 (by decide)]
    exact d2
  · rw [q1 1 (by decide)]
    exact d3
  · rw [q2 28 (by decide), r2 5 (by decide)]
    exact d4
