/-! ===== a sign looked for in the word of things: ldc, iload_3, i2c, invokevirtual ===== -/
def p_ix : xP := fun (t : xS) => match (t.1[3]? : Option xV) with
  | some (.inl v) => if (t.2.1.map xcat).sum ≤ 8 then some (.inl 0, (t.1, .inl (sIxV (Int32.ofInt (xc16 v))).toInt :: t.2.1, t.2.2)) else none
  | _ => none
section IXP
variable {xM : List xMi} {nest : List (String × Nat × MethodName)} {K : xK} {ini : Bool} {cc : ByteArray} {d nL : Nat} {ret : Option FieldType} {l0 : Launch} {D0 : va_G} {G : xG}
variable {pc nx : Nat} {brs : List Nat}
theorem x_iix (hK : K.1 = RX6) (h4 : 4 ≤ d) (d0 : decode cc pc = .ok (.ldc 89, 2)) (d2 : decode cc (pc + 2) = .ok (.iload_n 3, 1)) (d3 : decode cc (pc + 3) = .ok (.i2c, 1)) (d4 : decode cc (pc + 4) = .ok (.invokevirtual 91, 3)) (hl : x_land cc 3 (pc + 7) nx = true) : x_Imp (xM, nest, K, ini, cc, d, nL, ret, l0, D0, G) p_ix pc nx brs := by
  intro hG t fl t' h
  obtain ⟨L, S, H⟩ := t
  unfold p_ix at h
  dsimp only at h
  split at h
  · rename_i v hv
    split at h
    · rename_i hz
      cases h
      refine ⟨x_gr.rf _, fun p e R s m args below meth c Q A H0 ad0 X k => ?_⟩
      obtain ⟨q, hq, k⟩ := k
      cases hq
      have k := x_goto X.1 X.2.1 3 _ _ _ hl k
      obtain ⟨k1, k2⟩ := k
      refine ⟨k1, fun hf ad pl tys ws Hc locs ls h1 h2 h3 h4' h5 h6 h7 => ?_⟩
      obtain ⟨hx, hb, hml, hown, hts, henv, hA, ⟨hR1, hR2, hR3⟩, -, -, -, ⟨⟨aK, aV, s1, s2⟩, s3, -⟩⟩ := X
      have hown : s.vm.findClass RX6 = some m.cls := by rw [← hK]; exact hown
      have hR1 : R.frames = d := hR1
      have hR2 : R.locals = 40 * d := hR2
      have hin : xin v := by
        rcases hf.2.1 _ (List.mem_of_getElem? hv) with h | h
        · cases h
        · exact h
      have hls : ls[3]? = some (.val (.int (Int32.ofInt v))) := h7.2.2 3 _ hv (by intro z; cases z)
      refine va_ldcS hx hb hown s1 d0 ?_
      refine lv_iload_n (i := 3) (k := 3) hx hb d2 rfl hls ?_
      refine lv_i2c hx hb d3 rfl ?_
      refine s_callV (As := [.int ((Int32.ofInt v).toUInt32 % 65536).toInt32]) (rest := S.map (x_cv ad)) (y := sIx) (d' := 3) (idx := 91) (nL := nL) hx hb hml hown hts rfl (s_Ix l0 0 aK aV _) sIx_ok sIx_l sIx_i sIx_s sIx_p ⟨by omega, by omega⟩ k1.1 k1.2 ⟨s2, s3⟩ h6 h7.1 (by rw [x_cats]; exact hz) d4 (fun H1 locs1 e1 e2 => ?_)
      have e3 : Int32.ofInt (sIxV (Int32.ofInt (xc16 v))).toInt = sIxV ((Int32.ofInt v).toUInt32 % 65536).toInt32 := by
        rw [Int32.ofInt_toInt]
        unfold xc16
        rw [Int32.ofInt_toInt]
      have := k2 ⟨hf.1, hf.2.1, fun w hw => ?_, hf.2.2.2⟩ ad pl tys ws H1 locs1 ls h1 h2 (h3.kept (fun k q hk => e1 _ (vx_lt h3 hk))) h4' h5 e2 h7
      · rw [List.map_cons] at this
        have e4 : x_cv ad (.inl (sIxV (Int32.ofInt (xc16 v))).toInt) = .int (sIxV ((Int32.ofInt v).toUInt32 % 65536).toInt32) := by
          show Value.int (Int32.ofInt _) = _
          rw [e3]
        rw [e4] at this
        exact this
      · rcases List.mem_cons.mp hw with rfl | hw
        · show xin _
          unfold xin
          have := Int32.le_toInt (sIxV (Int32.ofInt (xc16 v)))
          have := Int32.toInt_lt (sIxV (Int32.ofInt (xc16 v)))
          omega
        · exact hf.2.2.1 w hw
    · cases h
  · cases h
end IXP
