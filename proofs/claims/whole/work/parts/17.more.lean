/-! ===== a jump ahead of a piece; a switch by pairs ===== -/
section MORE
variable {xM : List xMi} {nest : List (String × Nat × MethodName)} {K : xK} {ini : Bool} {cc : ByteArray} {d nL : Nat} {ret : Option FieldType} {l0 : Launch} {D0 : va_G} {G : xG}
variable {pc nx : Nat} {brs : List Nat} {E : xE} {f : xP}
theorem x_igo (q : Nat) (hl : x_land cc 3 pc q = true) (ha : x_Imp (xM, nest, K, ini, cc, d, nL, ret, l0, D0, G) f q nx brs) : x_Imp (xM, nest, K, ini, cc, d, nL, ret, l0, D0, G) f pc nx brs := by
  intro hG t fl t' h
  obtain ⟨g1, w1⟩ := ha hG _ _ _ h
  exact ⟨g1, fun p e R s m args below meth c Q A H0 ad0 X k => x_goto X.1 X.2.1 3 _ _ _ hl (w1 p e R s m args below meth c Q A H0 ad0 X k)⟩
/-- the pairs of a switch, read as keys -/
def x_prs (pc nx : Nat) (brs : List Nat) (ks : List (Int × Nat)) (dk : Nat) : List (Int × Int) → Bool
  | [] => true
  | (a, off) :: r => decide ((x_tg nx brs (x_key ks dk a)).map (fun q => (q : Int)) = some ((pc : Int) + off)) && x_prs pc nx brs ks dk r
def x_ckL (cc : ByteArray) (pc nx : Nat) (brs : List Nat) (ks : List (Int × Nat)) (dk : Nat) : Bool := match decode cc pc with
  | .ok (.lookupswitch dflt ps, _) => decide ((x_tg nx brs dk).map (fun q => (q : Int)) = some ((pc : Int) + dflt)) && (ps.toList.zip (ps.toList.drop 1)).all (fun (a, next) => a.1 < next.1) && x_prs pc nx brs ks dk ps.toList && ks.all fun q => (ps.toList.any fun z => decide (z.1 = q.1))
  | _ => false
theorem x_prs_ok {pc nx : Nat} {brs : List Nat} {ks : List (Int × Nat)} {dk : Nat} {dflt : Int} (hd : (x_tg nx brs dk).map (fun q => (q : Int)) = some ((pc : Int) + dflt)) {n : Int} : ∀ {l : List (Int × Int)}, x_prs pc nx brs ks dk l = true → (∀ q ∈ ks, q.1 = n → ∃ z ∈ l, z.1 = n) →
    (x_tg nx brs (x_key ks dk n)).map (fun q => (q : Int)) = some ((pc : Int) + Op.lookupswitch.offset l dflt n)
  | [], _, hk => by
    rw [x_key_out (fun q hq z => by obtain ⟨w, hw, -⟩ := hk q hq z.symm; cases hw)]
    exact hd
  | (a, off) :: r, h, hk => by
    unfold x_prs at h
    simp only [Bool.and_eq_true, decide_eq_true_eq] at h
    rw [Op.lookupswitch.offset_cons]
    by_cases z : a = n
    · rw [if_pos z, ← z]
      exact h.1
    · rw [if_neg z]
      refine x_prs_ok hd h.2 (fun q hq hn => ?_)
      obtain ⟨w, hw, e⟩ := hk q hq hn
      rcases List.mem_cons.mp hw with rfl | hw
      · exact absurd e z
      · exact ⟨w, hw, e⟩
theorem x_isl {ks : List (Int × Nat)} {dk : Nat} (hc : x_ckL cc pc nx brs ks dk = true) : x_Imp (xM, nest, K, ini, cc, d, nL, ret, l0, D0, G) (p_sw ks dk) pc nx brs := by
  intro hG t fl t' h
  unfold x_ckL at hc
  split at hc
  · rename_i dflt ps len hd
    simp only [Bool.and_eq_true, decide_eq_true_eq] at hc
    obtain ⟨⟨⟨c1, c2⟩, c3⟩, c4⟩ := hc
    unfold p_sw at h
    split at h
    · rename_i L n S H
      cases h
      refine ⟨x_gr.rf _, fun p e R s m args below meth c Q A H0 ad0 X k => ?_⟩
      obtain ⟨q, hq, k⟩ := k
      refine x_mv k (fun h _ => x_tl h) fun h ad Hc locs ls cells slots _ kk => ?_
      have hn : (Int32.ofInt n).toInt = n := x_tI (x_hd h)
      have h9 := x_prs_ok c1 (n := n) c3 (fun q hq e => by
        have := List.all_eq_true.mp c4 q hq
        obtain ⟨z, hz, e2⟩ := List.any_eq_true.mp this
        simp only [decide_eq_true_eq] at e2
        exact ⟨z, hz, e2.trans e⟩)
      rw [hq] at h9
      exact lv_lookup X.1 X.2.1 hd c2 (by rw [hn]) (Option.some.inj h9).symm kk
    · cases h
  · cases hc
end MORE
