/-! ===== the class's cells, instruction by instruction ===== -/
section EZ
variable {G : xG} {rg : Nat} {l : List Instr} {L S : List xV} {h : xH} {c : xQ} {k : Nat}
theorem eo_g0 : xIs x_dd G rg (.getfield 704 :: l) (L, .inr (.inr (.inl (0, 0))) :: S, hC h c) = xIs x_dd G rg l (L, .inr (.inr (.inl (0, 1))) :: S, hC h c) := rfl
theorem eo_g1 : xIs x_dd G rg (.getfield 705 :: l) (L, .inr (.inr (.inl (0, 0))) :: S, hC h c) = xIs x_dd G rg l (L, .inr (.inr (.inl (0, 3))) :: S, hC h c) := rfl
theorem eo_g2 : xIs x_dd G rg (.getfield 706 :: l) (L, .inr (.inr (.inl (0, 0))) :: S, hC h c) = xIs x_dd G rg l (L, .inr (.inr (.inl (3, 0))) :: S, hC h c) := rfl
theorem eo_g3 : xIs x_dd G rg (.getfield 707 :: l) (L, .inr (.inr (.inl (0, 0))) :: S, hC h c) = xIs x_dd G rg l (L, .inr (.inr (.inl (4, 0))) :: S, hC h c) := rfl
theorem eo_g4 : xIs x_dd G rg (.getfield 708 :: l) (L, .inr (.inr (.inl (0, 0))) :: S, hC h c) = xIs x_dd G rg l (L, .inr (.inr (.inl (0, 7))) :: S, hC h c) := rfl
theorem eo_g5 : xIs x_dd G rg (.getfield 709 :: l) (L, .inr (.inr (.inl (0, 0))) :: S, hC h c) = xIs x_dd G rg l (L, .inr (.inr (.inl (0, 9))) :: S, hC h c) := rfl
theorem eo_g6 : xIs x_dd G rg (.getfield 710 :: l) (L, .inr (.inr (.inl (0, 0))) :: S, hC h c) = xIs x_dd G rg l (L, .inr (.inr (.inl (0, 10))) :: S, hC h c) := rfl
theorem eo_g7 : xIs x_dd G rg (.getfield 711 :: l) (L, .inr (.inr (.inl (0, 0))) :: S, hC h c) = xIs x_dd G rg l (L, .inr (.inr (.inl (0, 11))) :: S, hC h c) := rfl
theorem eo_g8 : xIs x_dd G rg (.getfield 712 :: l) (L, .inr (.inr (.inl (0, 0))) :: S, hC h c) = xIs x_dd G rg l (L, .inr (.inr (.inl (0, 15))) :: S, hC h c) := rfl
theorem eo_g9 : xIs x_dd G rg (.getfield 713 :: l) (L, .inr (.inr (.inl (0, 0))) :: S, hC h c) = xIs x_dd G rg l (L, .inr (.inr (.inl (0, 19))) :: S, hC h c) := rfl
theorem eo_g10 : xIs x_dd G rg (.getfield 714 :: l) (L, .inr (.inr (.inl (0, 0))) :: S, hC h c) = xIs x_dd G rg l (L, .inr (.inr (.inl (0, 24))) :: S, hC h c) := rfl
theorem eo_g11 : xIs x_dd G rg (.getfield 715 :: l) (L, .inr (.inr (.inl (0, 0))) :: S, hC h c) = xIs x_dd G rg l (L, .inr (.inr (.inl (0, 25))) :: S, hC h c) := rfl
theorem eo_g12 : xIs x_dd G rg (.getfield 716 :: l) (L, .inr (.inr (.inl (0, 0))) :: S, hC h c) = xIs x_dd G rg l (L, .inr (.inr (.inl (0, 26))) :: S, hC h c) := rfl
theorem eo_g13 : xIs x_dd G rg (.getfield 717 :: l) (L, .inr (.inr (.inl (0, 0))) :: S, hC h c) = xIs x_dd G rg l (L, .inr (.inr (.inl (0, 27))) :: S, hC h c) := rfl
theorem eo_g14 : xIs x_dd G rg (.getfield 718 :: l) (L, .inr (.inr (.inl (0, 0))) :: S, hC h c) = xIs x_dd G rg l (L, .inl (c.1 0) :: S, hC h c) := rfl
theorem eo_s14 {v : Int} : xIs x_dd G rg (.putfield 718 :: l) (L, .inl v :: .inr (.inr (.inl (0, 0))) :: S, hC h c) = xIs x_dd G rg l (L, S, hC h (q_i c 0 v)) := rfl
theorem eo_g15 : xIs x_dd G rg (.getfield 719 :: l) (L, .inr (.inr (.inl (0, 0))) :: S, hC h c) = xIs x_dd G rg l (L, .inr (.inr (.inl (0, 28))) :: S, hC h c) := rfl
theorem eo_g16 : xIs x_dd G rg (.getfield 720 :: l) (L, .inr (.inr (.inl (0, 0))) :: S, hC h c) = xIs x_dd G rg l (L, .inl (c.1 1) :: S, hC h c) := rfl
theorem eo_s16 {v : Int} : xIs x_dd G rg (.putfield 720 :: l) (L, .inl v :: .inr (.inr (.inl (0, 0))) :: S, hC h c) = xIs x_dd G rg l (L, S, hC h (q_i c 1 v)) := rfl
theorem et_g0 : xIs x_dd G rg (.getfield 576 :: l) (L, .inr (.inr (.inl (0, 1))) :: S, hC h c) = xIs x_dd G rg l (L, .inr (.inr (.inl (0, 2))) :: S, hC h c) := rfl
theorem et_g1 : xIs x_dd G rg (.getfield 577 :: l) (L, .inr (.inr (.inl (0, 1))) :: S, hC h c) = xIs x_dd G rg l (L, .inl (c.1 2) :: S, hC h c) := rfl
theorem et_s1 {v : Int} : xIs x_dd G rg (.putfield 577 :: l) (L, .inl v :: .inr (.inr (.inl (0, 1))) :: S, hC h c) = xIs x_dd G rg l (L, S, hC h (q_i c 2 v)) := rfl
theorem et_g2 : xIs x_dd G rg (.getfield 578 :: l) (L, .inr (.inr (.inl (0, 1))) :: S, hC h c) = xIs x_dd G rg l (L, .inl (c.1 3) :: S, hC h c) := rfl
theorem et_s2 {v : Int} : xIs x_dd G rg (.putfield 578 :: l) (L, .inl v :: .inr (.inr (.inl (0, 1))) :: S, hC h c) = xIs x_dd G rg l (L, S, hC h (q_i c 3 v)) := rfl
theorem et_g3 : xIs x_dd G rg (.getfield 579 :: l) (L, .inr (.inr (.inl (0, 1))) :: S, hC h c) = xIs x_dd G rg l (L, .inl (c.1 4) :: S, hC h c) := rfl
theorem et_s3 {v : Int} : xIs x_dd G rg (.putfield 579 :: l) (L, .inl v :: .inr (.inr (.inl (0, 1))) :: S, hC h c) = xIs x_dd G rg l (L, S, hC h (q_i c 4 v)) := rfl
theorem et_g4 : xIs x_dd G rg (.getfield 580 :: l) (L, .inr (.inr (.inl (0, 1))) :: S, hC h c) = xIs x_dd G rg l (L, .inl (c.1 5) :: S, hC h c) := rfl
theorem et_s4 {v : Int} : xIs x_dd G rg (.putfield 580 :: l) (L, .inl v :: .inr (.inr (.inl (0, 1))) :: S, hC h c) = xIs x_dd G rg l (L, S, hC h (q_i c 5 v)) := rfl
theorem eu_g0 : xIs x_dd G rg (.getfield 384 :: l) (L, .inr (.inr (.inl (0, 3))) :: S, hC h c) = xIs x_dd G rg l (L, .inr (.inr (.inl (0, 4))) :: S, hC h c) := rfl
theorem eu_g1 : xIs x_dd G rg (.getfield 385 :: l) (L, .inr (.inr (.inl (0, 3))) :: S, hC h c) = xIs x_dd G rg l (L, .inl (c.1 6) :: S, hC h c) := rfl
theorem eu_s1 {v : Int} : xIs x_dd G rg (.putfield 385 :: l) (L, .inl v :: .inr (.inr (.inl (0, 3))) :: S, hC h c) = xIs x_dd G rg l (L, S, hC h (q_i c 6 v)) := rfl
theorem eu_g2 : xIs x_dd G rg (.getfield 386 :: l) (L, .inr (.inr (.inl (0, 3))) :: S, hC h c) = xIs x_dd G rg l (L, .inr (.inr (.inl (0, 5))) :: S, hC h c) := rfl
theorem eu_g3 : xIs x_dd G rg (.getfield 387 :: l) (L, .inr (.inr (.inl (0, 3))) :: S, hC h c) = xIs x_dd G rg l (L, .inl (c.1 7) :: S, hC h c) := rfl
theorem eu_s3 {v : Int} : xIs x_dd G rg (.putfield 387 :: l) (L, .inl v :: .inr (.inr (.inl (0, 3))) :: S, hC h c) = xIs x_dd G rg l (L, S, hC h (q_i c 7 v)) := rfl
theorem eu_g4 : xIs x_dd G rg (.getfield 388 :: l) (L, .inr (.inr (.inl (0, 3))) :: S, hC h c) = xIs x_dd G rg l (L, .inr (.inr (.inl (0, 6))) :: S, hC h c) := rfl
theorem eh_g0 : xIs x_dd G rg (.getfield 256 :: l) (L, .inr (.inr (.inl (0, 7))) :: S, hC h c) = xIs x_dd G rg l (L, .inr (.inr (.inl (0, 8))) :: S, hC h c) := rfl
theorem eh_g1 : xIs x_dd G rg (.getfield 257 :: l) (L, .inr (.inr (.inl (0, 7))) :: S, hC h c) = xIs x_dd G rg l (L, .inl (c.1 8) :: S, hC h c) := rfl
theorem eh_s1 {v : Int} : xIs x_dd G rg (.putfield 257 :: l) (L, .inl v :: .inr (.inr (.inl (0, 7))) :: S, hC h c) = xIs x_dd G rg l (L, S, hC h (q_i c 8 v)) := rfl
theorem eh_g2 : xIs x_dd G rg (.getfield 258 :: l) (L, .inr (.inr (.inl (0, 7))) :: S, hC h c) = xIs x_dd G rg l (L, .inl (c.1 9) :: S, hC h c) := rfl
theorem eh_s2 {v : Int} : xIs x_dd G rg (.putfield 258 :: l) (L, .inl v :: .inr (.inr (.inl (0, 7))) :: S, hC h c) = xIs x_dd G rg l (L, S, hC h (q_i c 9 v)) := rfl
theorem ed_g0 : xIs x_dd G rg (.getfield 64 :: l) (L, .inr (.inr (.inl (0, 11))) :: S, hC h c) = xIs x_dd G rg l (L, .inr (.inr (.inl (0, 12))) :: S, hC h c) := rfl
theorem ed_g1 : xIs x_dd G rg (.getfield 65 :: l) (L, .inr (.inr (.inl (0, 11))) :: S, hC h c) = xIs x_dd G rg l (L, .inr (.inr (.inl (0, 13))) :: S, hC h c) := rfl
theorem ed_g2 : xIs x_dd G rg (.getfield 66 :: l) (L, .inr (.inr (.inl (0, 11))) :: S, hC h c) = xIs x_dd G rg l (L, .inr (.inr (.inl (0, 14))) :: S, hC h c) := rfl
theorem ed_g3 : xIs x_dd G rg (.getfield 67 :: l) (L, .inr (.inr (.inl (0, 11))) :: S, hC h c) = xIs x_dd G rg l (L, .inl (c.1 10) :: S, hC h c) := rfl
theorem ed_s3 {v : Int} : xIs x_dd G rg (.putfield 67 :: l) (L, .inl v :: .inr (.inr (.inl (0, 11))) :: S, hC h c) = xIs x_dd G rg l (L, S, hC h (q_i c 10 v)) := rfl
theorem ew_g0 : xIs x_dd G rg (.getfield 512 :: l) (L, .inr (.inr (.inl (0, 15))) :: S, hC h c) = xIs x_dd G rg l (L, .inr (.inr (.inl (0, 16))) :: S, hC h c) := rfl
theorem ew_g1 : xIs x_dd G rg (.getfield 513 :: l) (L, .inr (.inr (.inl (0, 15))) :: S, hC h c) = xIs x_dd G rg l (L, .inr (.inr (.inl (0, 17))) :: S, hC h c) := rfl
theorem ew_g2 : xIs x_dd G rg (.getfield 514 :: l) (L, .inr (.inr (.inl (0, 15))) :: S, hC h c) = xIs x_dd G rg l (L, .inr (.inr (.inl (0, 18))) :: S, hC h c) := rfl
theorem ew_g3 : xIs x_dd G rg (.getfield 515 :: l) (L, .inr (.inr (.inl (0, 15))) :: S, hC h c) = xIs x_dd G rg l (L, .inl (c.1 11) :: S, hC h c) := rfl
theorem ew_s3 {v : Int} : xIs x_dd G rg (.putfield 515 :: l) (L, .inl v :: .inr (.inr (.inl (0, 15))) :: S, hC h c) = xIs x_dd G rg l (L, S, hC h (q_i c 11 v)) := rfl
theorem en_g0 : xIs x_dd G rg (.getfield 640 :: l) (L, .inr (.inr (.inl (0, 19))) :: S, hC h c) = xIs x_dd G rg l (L, .inr (.inr (.inl (0, 20))) :: S, hC h c) := rfl
theorem en_g1 : xIs x_dd G rg (.getfield 641 :: l) (L, .inr (.inr (.inl (0, 19))) :: S, hC h c) = xIs x_dd G rg l (L, .inl (c.1 12) :: S, hC h c) := rfl
theorem en_s1 {v : Int} : xIs x_dd G rg (.putfield 641 :: l) (L, .inl v :: .inr (.inr (.inl (0, 19))) :: S, hC h c) = xIs x_dd G rg l (L, S, hC h (q_i c 12 v)) := rfl
theorem en_g2 : xIs x_dd G rg (.getfield 642 :: l) (L, .inr (.inr (.inl (0, 19))) :: S, hC h c) = xIs x_dd G rg l (L, .inr (.inr (.inl (0, 21))) :: S, hC h c) := rfl
theorem en_g3 : xIs x_dd G rg (.getfield 643 :: l) (L, .inr (.inr (.inl (0, 19))) :: S, hC h c) = xIs x_dd G rg l (L, .inr (.inr (.inl (0, 22))) :: S, hC h c) := rfl
theorem en_g4 : xIs x_dd G rg (.getfield 644 :: l) (L, .inr (.inr (.inl (0, 19))) :: S, hC h c) = xIs x_dd G rg l (L, .inr (.inr (.inl (0, 23))) :: S, hC h c) := rfl
theorem en_g5 : xIs x_dd G rg (.getfield 645 :: l) (L, .inr (.inr (.inl (0, 19))) :: S, hC h c) = xIs x_dd G rg l (L, .inl (c.1 13) :: S, hC h c) := rfl
theorem en_s5 {v : Int} : xIs x_dd G rg (.putfield 645 :: l) (L, .inl v :: .inr (.inr (.inl (0, 19))) :: S, hC h c) = xIs x_dd G rg l (L, S, hC h (q_i c 13 v)) := rfl
theorem ex_g0 : xIs x_dd G rg (.getfield 128 :: l) (L, .inr (.inr (.inl (0, 24))) :: S, hC h c) = xIs x_dd G rg l (L, .inl (c.1 14) :: S, hC h c) := rfl
theorem ex_s0 {v : Int} : xIs x_dd G rg (.putfield 128 :: l) (L, .inl v :: .inr (.inr (.inl (0, 24))) :: S, hC h c) = xIs x_dd G rg l (L, S, hC h (q_i c 14 v)) := rfl
theorem eq_g0 : xIs x_dd G rg (.getfield 192 :: l) (L, .inr (.inr (.inl (0, 25))) :: S, hC h c) = xIs x_dd G rg l (L, .inl (c.1 15) :: S, hC h c) := rfl
theorem eq_s0 {v : Int} : xIs x_dd G rg (.putfield 192 :: l) (L, .inl v :: .inr (.inr (.inl (0, 25))) :: S, hC h c) = xIs x_dd G rg l (L, S, hC h (q_i c 15 v)) := rfl
theorem eq_g1 : xIs x_dd G rg (.getfield 193 :: l) (L, .inr (.inr (.inl (0, 25))) :: S, hC h c) = xIs x_dd G rg l (L, .inl (c.1 16) :: S, hC h c) := rfl
theorem eq_s1 {v : Int} : xIs x_dd G rg (.putfield 193 :: l) (L, .inl v :: .inr (.inr (.inl (0, 25))) :: S, hC h c) = xIs x_dd G rg l (L, S, hC h (q_i c 16 v)) := rfl
theorem eq_g2 : xIs x_dd G rg (.getfield 194 :: l) (L, .inr (.inr (.inl (0, 25))) :: S, hC h c) = xIs x_dd G rg l (L, .inl (c.1 17) :: S, hC h c) := rfl
theorem eq_s2 {v : Int} : xIs x_dd G rg (.putfield 194 :: l) (L, .inl v :: .inr (.inr (.inl (0, 25))) :: S, hC h c) = xIs x_dd G rg l (L, S, hC h (q_i c 17 v)) := rfl
theorem eq_g3 : xIs x_dd G rg (.getfield 195 :: l) (L, .inr (.inr (.inl (0, 25))) :: S, hC h c) = xIs x_dd G rg l (L, .inl (c.1 18) :: S, hC h c) := rfl
theorem eq_s3 {v : Int} : xIs x_dd G rg (.putfield 195 :: l) (L, .inl v :: .inr (.inr (.inl (0, 25))) :: S, hC h c) = xIs x_dd G rg l (L, S, hC h (q_i c 18 v)) := rfl
theorem eq_g4 : xIs x_dd G rg (.getfield 196 :: l) (L, .inr (.inr (.inl (0, 25))) :: S, hC h c) = xIs x_dd G rg l (L, .inl (c.1 19) :: S, hC h c) := rfl
theorem eq_s4 {v : Int} : xIs x_dd G rg (.putfield 196 :: l) (L, .inl v :: .inr (.inr (.inl (0, 25))) :: S, hC h c) = xIs x_dd G rg l (L, S, hC h (q_i c 19 v)) := rfl
theorem eq_g5 : xIs x_dd G rg (.getfield 197 :: l) (L, .inr (.inr (.inl (0, 25))) :: S, hC h c) = xIs x_dd G rg l (L, .inl (c.1 20) :: S, hC h c) := rfl
theorem eq_s5 {v : Int} : xIs x_dd G rg (.putfield 197 :: l) (L, .inl v :: .inr (.inr (.inl (0, 25))) :: S, hC h c) = xIs x_dd G rg l (L, S, hC h (q_i c 20 v)) := rfl
theorem eq_g6 : xIs x_dd G rg (.getfield 198 :: l) (L, .inr (.inr (.inl (0, 25))) :: S, hC h c) = xIs x_dd G rg l (L, .inl (c.1 21) :: S, hC h c) := rfl
theorem eq_s6 {v : Int} : xIs x_dd G rg (.putfield 198 :: l) (L, .inl v :: .inr (.inr (.inl (0, 25))) :: S, hC h c) = xIs x_dd G rg l (L, S, hC h (q_i c 21 v)) := rfl
theorem eq_g7 : xIs x_dd G rg (.getfield 199 :: l) (L, .inr (.inr (.inl (0, 25))) :: S, hC h c) = xIs x_dd G rg l (L, .inl (c.1 22) :: S, hC h c) := rfl
theorem eq_s7 {v : Int} : xIs x_dd G rg (.putfield 199 :: l) (L, .inl v :: .inr (.inr (.inl (0, 25))) :: S, hC h c) = xIs x_dd G rg l (L, S, hC h (q_i c 22 v)) := rfl
theorem eq_c2 : xcell (hC h c) 0 2 = some (.inr (.inl (2, 80, c.2.1 2))) := rfl
theorem eq_r2 {i : Int} (h0 : 0 ≤ i) (h1 : i < 80) : xIs x_dd G rg (.caload :: l) (L, .inl i :: .inr (.inr (.inl (0, 2))) :: S, hC h c) = xIs x_dd G rg l (L, .inl (c.2.1 2 i.toNat) :: S, hC h c) := e_caload eq_c2 h0 h1
theorem eq_w2 {i v : Int} (h0 : 0 ≤ i) (h1 : i < 80) : xIs x_dd G rg (.castore :: l) (L, .inl v :: .inl i :: .inr (.inr (.inl (0, 2))) :: S, hC h c) = xIs x_dd G rg l (L, S, hC h (q_j c 2 (xfu (c.2.1 2) i.toNat (xc16 v)))) := e_castore eq_c2 h0 h1
theorem eq_c4 : xcell (hC h c) 0 4 = some (.inr (.inl (0, 40, c.2.1 4))) := rfl
theorem eq_r4 {i : Int} (h0 : 0 ≤ i) (h1 : i < 40) : xIs x_dd G rg (.iaload :: l) (L, .inl i :: .inr (.inr (.inl (0, 4))) :: S, hC h c) = xIs x_dd G rg l (L, .inl (c.2.1 4 i.toNat) :: S, hC h c) := e_iaload eq_c4 h0 h1
theorem eq_w4 {i v : Int} (h0 : 0 ≤ i) (h1 : i < 40) : xIs x_dd G rg (.iastore :: l) (L, .inl v :: .inl i :: .inr (.inr (.inl (0, 4))) :: S, hC h c) = xIs x_dd G rg l (L, S, hC h (q_j c 4 (xfu (c.2.1 4) i.toNat v))) := e_iastore eq_c4 h0 h1
theorem eq_c5 : xcell (hC h c) 0 5 = some (.inr (.inl (0, 40, c.2.1 5))) := rfl
theorem eq_r5 {i : Int} (h0 : 0 ≤ i) (h1 : i < 40) : xIs x_dd G rg (.iaload :: l) (L, .inl i :: .inr (.inr (.inl (0, 5))) :: S, hC h c) = xIs x_dd G rg l (L, .inl (c.2.1 5 i.toNat) :: S, hC h c) := e_iaload eq_c5 h0 h1
theorem eq_w5 {i v : Int} (h0 : 0 ≤ i) (h1 : i < 40) : xIs x_dd G rg (.iastore :: l) (L, .inl v :: .inl i :: .inr (.inr (.inl (0, 5))) :: S, hC h c) = xIs x_dd G rg l (L, S, hC h (q_j c 5 (xfu (c.2.1 5) i.toNat v))) := e_iastore eq_c5 h0 h1
theorem eq_c6 : xcell (hC h c) 0 6 = some (.inr (.inl (0, 40, c.2.1 6))) := rfl
theorem eq_r6 {i : Int} (h0 : 0 ≤ i) (h1 : i < 40) : xIs x_dd G rg (.iaload :: l) (L, .inl i :: .inr (.inr (.inl (0, 6))) :: S, hC h c) = xIs x_dd G rg l (L, .inl (c.2.1 6 i.toNat) :: S, hC h c) := e_iaload eq_c6 h0 h1
theorem eq_w6 {i v : Int} (h0 : 0 ≤ i) (h1 : i < 40) : xIs x_dd G rg (.iastore :: l) (L, .inl v :: .inl i :: .inr (.inr (.inl (0, 6))) :: S, hC h c) = xIs x_dd G rg l (L, S, hC h (q_j c 6 (xfu (c.2.1 6) i.toNat v))) := e_iastore eq_c6 h0 h1
theorem eq_c10 : xcell (hC h c) 0 10 = some (.inr (.inl (4, 2, c.2.1 10))) := rfl
theorem eq_r10 {i : Int} (h0 : 0 ≤ i) (h1 : i < 2) : xIs x_dd G rg (.baload :: l) (L, .inl i :: .inr (.inr (.inl (0, 10))) :: S, hC h c) = xIs x_dd G rg l (L, .inl (c.2.1 10 i.toNat) :: S, hC h c) := e_zaload eq_c10 h0 h1
theorem eq_w10 {i v : Int} (h0 : 0 ≤ i) (h1 : i < 2) : xIs x_dd G rg (.bastore :: l) (L, .inl v :: .inl i :: .inr (.inr (.inl (0, 10))) :: S, hC h c) = xIs x_dd G rg l (L, S, hC h (q_j c 10 (xfu (c.2.1 10) i.toNat (xz1 v)))) := e_zastore eq_c10 h0 h1
theorem eq_c12 : xcell (hC h c) 0 12 = some (.inr (.inl (0, 31, c.2.1 12))) := rfl
theorem eq_r12 {i : Int} (h0 : 0 ≤ i) (h1 : i < 31) : xIs x_dd G rg (.iaload :: l) (L, .inl i :: .inr (.inr (.inl (0, 12))) :: S, hC h c) = xIs x_dd G rg l (L, .inl (c.2.1 12 i.toNat) :: S, hC h c) := e_iaload eq_c12 h0 h1
theorem eq_w12 {i v : Int} (h0 : 0 ≤ i) (h1 : i < 31) : xIs x_dd G rg (.iastore :: l) (L, .inl v :: .inl i :: .inr (.inr (.inl (0, 12))) :: S, hC h c) = xIs x_dd G rg l (L, S, hC h (q_j c 12 (xfu (c.2.1 12) i.toNat v))) := e_iastore eq_c12 h0 h1
theorem eq_c13 : xcell (hC h c) 0 13 = some (.inr (.inl (0, 31, c.2.1 13))) := rfl
theorem eq_r13 {i : Int} (h0 : 0 ≤ i) (h1 : i < 31) : xIs x_dd G rg (.iaload :: l) (L, .inl i :: .inr (.inr (.inl (0, 13))) :: S, hC h c) = xIs x_dd G rg l (L, .inl (c.2.1 13 i.toNat) :: S, hC h c) := e_iaload eq_c13 h0 h1
theorem eq_w13 {i v : Int} (h0 : 0 ≤ i) (h1 : i < 31) : xIs x_dd G rg (.iastore :: l) (L, .inl v :: .inl i :: .inr (.inr (.inl (0, 13))) :: S, hC h c) = xIs x_dd G rg l (L, S, hC h (q_j c 13 (xfu (c.2.1 13) i.toNat v))) := e_iastore eq_c13 h0 h1
theorem eq_c14 : xcell (hC h c) 0 14 = some (.inr (.inl (0, 31, c.2.1 14))) := rfl
theorem eq_r14 {i : Int} (h0 : 0 ≤ i) (h1 : i < 31) : xIs x_dd G rg (.iaload :: l) (L, .inl i :: .inr (.inr (.inl (0, 14))) :: S, hC h c) = xIs x_dd G rg l (L, .inl (c.2.1 14 i.toNat) :: S, hC h c) := e_iaload eq_c14 h0 h1
theorem eq_w14 {i v : Int} (h0 : 0 ≤ i) (h1 : i < 31) : xIs x_dd G rg (.iastore :: l) (L, .inl v :: .inl i :: .inr (.inr (.inl (0, 14))) :: S, hC h c) = xIs x_dd G rg l (L, S, hC h (q_j c 14 (xfu (c.2.1 14) i.toNat v))) := e_iastore eq_c14 h0 h1
theorem eq_c16 : xcell (hC h c) 0 16 = some (.inr (.inl (0, 6, c.2.1 16))) := rfl
theorem eq_r16 {i : Int} (h0 : 0 ≤ i) (h1 : i < 6) : xIs x_dd G rg (.iaload :: l) (L, .inl i :: .inr (.inr (.inl (0, 16))) :: S, hC h c) = xIs x_dd G rg l (L, .inl (c.2.1 16 i.toNat) :: S, hC h c) := e_iaload eq_c16 h0 h1
theorem eq_w16 {i v : Int} (h0 : 0 ≤ i) (h1 : i < 6) : xIs x_dd G rg (.iastore :: l) (L, .inl v :: .inl i :: .inr (.inr (.inl (0, 16))) :: S, hC h c) = xIs x_dd G rg l (L, S, hC h (q_j c 16 (xfu (c.2.1 16) i.toNat v))) := e_iastore eq_c16 h0 h1
theorem eq_c17 : xcell (hC h c) 0 17 = some (.inr (.inl (0, 366, c.2.1 17))) := rfl
theorem eq_r17 {i : Int} (h0 : 0 ≤ i) (h1 : i < 366) : xIs x_dd G rg (.iaload :: l) (L, .inl i :: .inr (.inr (.inl (0, 17))) :: S, hC h c) = xIs x_dd G rg l (L, .inl (c.2.1 17 i.toNat) :: S, hC h c) := e_iaload eq_c17 h0 h1
theorem eq_w17 {i v : Int} (h0 : 0 ≤ i) (h1 : i < 366) : xIs x_dd G rg (.iastore :: l) (L, .inl v :: .inl i :: .inr (.inr (.inl (0, 17))) :: S, hC h c) = xIs x_dd G rg l (L, S, hC h (q_j c 17 (xfu (c.2.1 17) i.toNat v))) := e_iastore eq_c17 h0 h1
theorem eq_c18 : xcell (hC h c) 0 18 = some (.inr (.inl (0, 48, c.2.1 18))) := rfl
theorem eq_r18 {i : Int} (h0 : 0 ≤ i) (h1 : i < 48) : xIs x_dd G rg (.iaload :: l) (L, .inl i :: .inr (.inr (.inl (0, 18))) :: S, hC h c) = xIs x_dd G rg l (L, .inl (c.2.1 18 i.toNat) :: S, hC h c) := e_iaload eq_c18 h0 h1
theorem eq_w18 {i v : Int} (h0 : 0 ≤ i) (h1 : i < 48) : xIs x_dd G rg (.iastore :: l) (L, .inl v :: .inl i :: .inr (.inr (.inl (0, 18))) :: S, hC h c) = xIs x_dd G rg l (L, S, hC h (q_j c 18 (xfu (c.2.1 18) i.toNat v))) := e_iastore eq_c18 h0 h1
theorem eq_c20 : xcell (hC h c) 0 20 = some (.inr (.inl (0, 6, c.2.1 20))) := rfl
theorem eq_r20 {i : Int} (h0 : 0 ≤ i) (h1 : i < 6) : xIs x_dd G rg (.iaload :: l) (L, .inl i :: .inr (.inr (.inl (0, 20))) :: S, hC h c) = xIs x_dd G rg l (L, .inl (c.2.1 20 i.toNat) :: S, hC h c) := e_iaload eq_c20 h0 h1
theorem eq_w20 {i v : Int} (h0 : 0 ≤ i) (h1 : i < 6) : xIs x_dd G rg (.iastore :: l) (L, .inl v :: .inl i :: .inr (.inr (.inl (0, 20))) :: S, hC h c) = xIs x_dd G rg l (L, S, hC h (q_j c 20 (xfu (c.2.1 20) i.toNat v))) := e_iastore eq_c20 h0 h1
theorem eq_c21 : xcell (hC h c) 0 21 = some (.inr (.inl (0, 6, c.2.1 21))) := rfl
theorem eq_r21 {i : Int} (h0 : 0 ≤ i) (h1 : i < 6) : xIs x_dd G rg (.iaload :: l) (L, .inl i :: .inr (.inr (.inl (0, 21))) :: S, hC h c) = xIs x_dd G rg l (L, .inl (c.2.1 21 i.toNat) :: S, hC h c) := e_iaload eq_c21 h0 h1
theorem eq_w21 {i v : Int} (h0 : 0 ≤ i) (h1 : i < 6) : xIs x_dd G rg (.iastore :: l) (L, .inl v :: .inl i :: .inr (.inr (.inl (0, 21))) :: S, hC h c) = xIs x_dd G rg l (L, S, hC h (q_j c 21 (xfu (c.2.1 21) i.toNat v))) := e_iastore eq_c21 h0 h1
theorem eq_c22 : xcell (hC h c) 0 22 = some (.inr (.inl (3, 9, c.2.1 22))) := rfl
theorem eq_r22 {i : Int} (h0 : 0 ≤ i) (h1 : i < 9) : xIs x_dd G rg (.laload :: l) (L, .inl i :: .inr (.inr (.inl (0, 22))) :: S, hC h c) = xIs x_dd G rg l (L, .inr (.inl (c.2.1 22 i.toNat)) :: S, hC h c) := e_laload eq_c22 h0 h1
theorem eq_w22 {i v : Int} (h0 : 0 ≤ i) (h1 : i < 9) : xIs x_dd G rg (.lastore :: l) (L, .inr (.inl v) :: .inl i :: .inr (.inr (.inl (0, 22))) :: S, hC h c) = xIs x_dd G rg l (L, S, hC h (q_j c 22 (xfu (c.2.1 22) i.toNat v))) := e_lastore eq_c22 h0 h1
theorem eq_c23 : xcell (hC h c) 0 23 = some (.inr (.inl (3, 9, c.2.1 23))) := rfl
theorem eq_r23 {i : Int} (h0 : 0 ≤ i) (h1 : i < 9) : xIs x_dd G rg (.laload :: l) (L, .inl i :: .inr (.inr (.inl (0, 23))) :: S, hC h c) = xIs x_dd G rg l (L, .inr (.inl (c.2.1 23 i.toNat)) :: S, hC h c) := e_laload eq_c23 h0 h1
theorem eq_w23 {i v : Int} (h0 : 0 ≤ i) (h1 : i < 9) : xIs x_dd G rg (.lastore :: l) (L, .inr (.inl v) :: .inl i :: .inr (.inr (.inl (0, 23))) :: S, hC h c) = xIs x_dd G rg l (L, S, hC h (q_j c 23 (xfu (c.2.1 23) i.toNat v))) := e_lastore eq_c23 h0 h1
theorem eq_c26 : xcell (hC h c) 0 26 = some (.inr (.inl (0, 12, c.2.1 26))) := rfl
theorem eq_r26 {i : Int} (h0 : 0 ≤ i) (h1 : i < 12) : xIs x_dd G rg (.iaload :: l) (L, .inl i :: .inr (.inr (.inl (0, 26))) :: S, hC h c) = xIs x_dd G rg l (L, .inl (c.2.1 26 i.toNat) :: S, hC h c) := e_iaload eq_c26 h0 h1
theorem eq_w26 {i v : Int} (h0 : 0 ≤ i) (h1 : i < 12) : xIs x_dd G rg (.iastore :: l) (L, .inl v :: .inl i :: .inr (.inr (.inl (0, 26))) :: S, hC h c) = xIs x_dd G rg l (L, S, hC h (q_j c 26 (xfu (c.2.1 26) i.toNat v))) := e_iastore eq_c26 h0 h1
theorem eq_c27 : xcell (hC h c) 0 27 = some (.inr (.inl (0, 12, c.2.1 27))) := rfl
theorem eq_r27 {i : Int} (h0 : 0 ≤ i) (h1 : i < 12) : xIs x_dd G rg (.iaload :: l) (L, .inl i :: .inr (.inr (.inl (0, 27))) :: S, hC h c) = xIs x_dd G rg l (L, .inl (c.2.1 27 i.toNat) :: S, hC h c) := e_iaload eq_c27 h0 h1
theorem eq_w27 {i v : Int} (h0 : 0 ≤ i) (h1 : i < 12) : xIs x_dd G rg (.iastore :: l) (L, .inl v :: .inl i :: .inr (.inr (.inl (0, 27))) :: S, hC h c) = xIs x_dd G rg l (L, S, hC h (q_j c 27 (xfu (c.2.1 27) i.toNat v))) := e_iastore eq_c27 h0 h1
theorem eq_c28 : xcell (hC h c) 0 28 = some (.inr (.inl (0, 8, c.2.1 28))) := rfl
theorem eq_r28 {i : Int} (h0 : 0 ≤ i) (h1 : i < 8) : xIs x_dd G rg (.iaload :: l) (L, .inl i :: .inr (.inr (.inl (0, 28))) :: S, hC h c) = xIs x_dd G rg l (L, .inl (c.2.1 28 i.toNat) :: S, hC h c) := e_iaload eq_c28 h0 h1
theorem eq_w28 {i v : Int} (h0 : 0 ≤ i) (h1 : i < 8) : xIs x_dd G rg (.iastore :: l) (L, .inl v :: .inl i :: .inr (.inr (.inl (0, 28))) :: S, hC h c) = xIs x_dd G rg l (L, S, hC h (q_j c 28 (xfu (c.2.1 28) i.toNat v))) := e_iastore eq_c28 h0 h1
theorem eq_r8 {i : Int} (h0 : 0 ≤ i) (h1 : i < 13) : xIs x_dd G rg (.aaload :: l) (L, .inl i :: .inr (.inr (.inl (0, 8))) :: S, hC h c) = xIs x_dd G rg l (L, .inr (.inr (.inl (i.toNat + 2 + 3, 0))) :: S, hC h c) := e_aaload (ci := 7) (n := 13) (f := fun i => if i < 13 then some (i + 2 + 3, 0) else none) rfl h0 h1 (show (if i.toNat < 13 then some (i.toNat + 2 + 3, 0) else none) = _ from if_pos (by omega))
theorem eq_r9 {i : Int} (h0 : 0 ≤ i) (h1 : i < 2) : xIs x_dd G rg (.aaload :: l) (L, .inl i :: .inr (.inr (.inl (0, 9))) :: S, hC h c) = xIs x_dd G rg l (L, .inr (.inr (.inl (i.toNat + 15 + 3, 0))) :: S, hC h c) := e_aaload (ci := 7) (n := 2) (f := fun i => if i < 2 then some (i + 15 + 3, 0) else none) rfl h0 h1 (show (if i.toNat < 2 then some (i.toNat + 15 + 3, 0) else none) = _ from if_pos (by omega))
theorem ez_g0 (hk : k < 17) : xIs x_dd G rg (.getfield 448 :: l) (L, .inr (.inr (.inl (k + 3, 0))) :: S, hC h c) = xIs x_dd G rg l (L, .inr (.inr (.inl (k + 3, 1))) :: S, hC h c) := e_get (ci := 7) (fs := z_fs k (c.2.2 k)) (hC_cell hk 0) rfl rfl
theorem ez_g1 (hk : k < 17) : xIs x_dd G rg (.getfield 449 :: l) (L, .inr (.inr (.inl (k + 3, 0))) :: S, hC h c) = xIs x_dd G rg l (L, .inr (.inr (.inl (k + 3, 2))) :: S, hC h c) := e_get (ci := 7) (fs := z_fs k (c.2.2 k)) (hC_cell hk 0) rfl rfl
theorem ez_g2 (hk : k < 17) : xIs x_dd G rg (.getfield 450 :: l) (L, .inr (.inr (.inl (k + 3, 0))) :: S, hC h c) = xIs x_dd G rg l (L, .inr (.inr (.inl (k + 3, 3))) :: S, hC h c) := e_get (ci := 7) (fs := z_fs k (c.2.2 k)) (hC_cell hk 0) rfl rfl
theorem ez_g3 (hk : k < 17) : xIs x_dd G rg (.getfield 451 :: l) (L, .inr (.inr (.inl (k + 3, 0))) :: S, hC h c) = xIs x_dd G rg l (L, .inl (c.2.2 k 132) :: S, hC h c) := e_get (ci := 7) (fs := z_fs k (c.2.2 k)) (hC_cell hk 0) rfl rfl
theorem ez_s3 {v : Int} (hk : k < 17) : xIs x_dd G rg (.putfield 451 :: l) (L, .inl v :: .inr (.inr (.inl (k + 3, 0))) :: S, hC h c) = xIs x_dd G rg l (L, S, hC h (q_z c k (xfu (c.2.2 k) 132 v))) := by
  rw [e_put (ci := 7) (fs := z_fs k (c.2.2 k)) (hC_cell hk 0) ⟨rfl, Nat.le_of_ble_eq_true rfl, rfl⟩]
  rw [show ∀ x, (z_fs k (c.2.2 k)).set (451 % 64) x = (z_fs k (c.2.2 k)).set 3 x from fun _ => rfl, hC_put hk zp_s3]
theorem ez_g4 (hk : k < 17) : xIs x_dd G rg (.getfield 452 :: l) (L, .inr (.inr (.inl (k + 3, 0))) :: S, hC h c) = xIs x_dd G rg l (L, .inl (c.2.2 k 133) :: S, hC h c) := e_get (ci := 7) (fs := z_fs k (c.2.2 k)) (hC_cell hk 0) rfl rfl
theorem ez_s4 {v : Int} (hk : k < 17) : xIs x_dd G rg (.putfield 452 :: l) (L, .inl v :: .inr (.inr (.inl (k + 3, 0))) :: S, hC h c) = xIs x_dd G rg l (L, S, hC h (q_z c k (xfu (c.2.2 k) 133 v))) := by
  rw [e_put (ci := 7) (fs := z_fs k (c.2.2 k)) (hC_cell hk 0) ⟨rfl, Nat.le_of_ble_eq_true rfl, rfl⟩]
  rw [show ∀ x, (z_fs k (c.2.2 k)).set (452 % 64) x = (z_fs k (c.2.2 k)).set 4 x from fun _ => rfl, hC_put hk zp_s4]
theorem ez_g5 (hk : k < 17) : xIs x_dd G rg (.getfield 453 :: l) (L, .inr (.inr (.inl (k + 3, 0))) :: S, hC h c) = xIs x_dd G rg l (L, .inl (c.2.2 k 114) :: S, hC h c) := e_get (ci := 7) (fs := z_fs k (c.2.2 k)) (hC_cell hk 0) rfl rfl
theorem ez_s5 {v : Int} (hk : k < 17) : xIs x_dd G rg (.putfield 453 :: l) (L, .inl v :: .inr (.inr (.inl (k + 3, 0))) :: S, hC h c) = xIs x_dd G rg l (L, S, hC h (q_z c k (xfu (c.2.2 k) 114 v))) := by
  rw [e_put (ci := 7) (fs := z_fs k (c.2.2 k)) (hC_cell hk 0) ⟨rfl, Nat.le_of_ble_eq_true rfl, rfl⟩]
  rw [show ∀ x, (z_fs k (c.2.2 k)).set (453 % 64) x = (z_fs k (c.2.2 k)).set 5 x from fun _ => rfl, hC_put hk zp_s5]
theorem ez_g6 (hk : k < 17) : xIs x_dd G rg (.getfield 454 :: l) (L, .inr (.inr (.inl (k + 3, 0))) :: S, hC h c) = xIs x_dd G rg l (L, .inl (c.2.2 k 115) :: S, hC h c) := e_get (ci := 7) (fs := z_fs k (c.2.2 k)) (hC_cell hk 0) rfl rfl
theorem ez_s6 {v : Int} (hk : k < 17) : xIs x_dd G rg (.putfield 454 :: l) (L, .inl v :: .inr (.inr (.inl (k + 3, 0))) :: S, hC h c) = xIs x_dd G rg l (L, S, hC h (q_z c k (xfu (c.2.2 k) 115 v))) := by
  rw [e_put (ci := 7) (fs := z_fs k (c.2.2 k)) (hC_cell hk 0) ⟨rfl, Nat.le_of_ble_eq_true rfl, rfl⟩]
  rw [show ∀ x, (z_fs k (c.2.2 k)).set (454 % 64) x = (z_fs k (c.2.2 k)).set 6 x from fun _ => rfl, hC_put hk zp_s6]
theorem ez_g7 (hk : k < 17) : xIs x_dd G rg (.getfield 455 :: l) (L, .inr (.inr (.inl (k + 3, 0))) :: S, hC h c) = xIs x_dd G rg l (L, .inl (c.2.2 k 134) :: S, hC h c) := e_get (ci := 7) (fs := z_fs k (c.2.2 k)) (hC_cell hk 0) rfl rfl
theorem ez_s7 {v : Int} (hk : k < 17) : xIs x_dd G rg (.putfield 455 :: l) (L, .inl v :: .inr (.inr (.inl (k + 3, 0))) :: S, hC h c) = xIs x_dd G rg l (L, S, hC h (q_z c k (xfu (c.2.2 k) 134 v))) := by
  rw [e_put (ci := 7) (fs := z_fs k (c.2.2 k)) (hC_cell hk 0) ⟨rfl, Nat.le_of_ble_eq_true rfl, rfl⟩]
  rw [show ∀ x, (z_fs k (c.2.2 k)).set (455 % 64) x = (z_fs k (c.2.2 k)).set 7 x from fun _ => rfl, hC_put hk zp_s7]
theorem ez_g8 (hk : k < 17) : xIs x_dd G rg (.getfield 456 :: l) (L, .inr (.inr (.inl (k + 3, 0))) :: S, hC h c) = xIs x_dd G rg l (L, .inl (c.2.2 k 135) :: S, hC h c) := e_get (ci := 7) (fs := z_fs k (c.2.2 k)) (hC_cell hk 0) rfl rfl
theorem ez_s8 {v : Int} (hk : k < 17) : xIs x_dd G rg (.putfield 456 :: l) (L, .inl v :: .inr (.inr (.inl (k + 3, 0))) :: S, hC h c) = xIs x_dd G rg l (L, S, hC h (q_z c k (xfu (c.2.2 k) 135 v))) := by
  rw [e_put (ci := 7) (fs := z_fs k (c.2.2 k)) (hC_cell hk 0) ⟨rfl, Nat.le_of_ble_eq_true rfl, rfl⟩]
  rw [show ∀ x, (z_fs k (c.2.2 k)).set (456 % 64) x = (z_fs k (c.2.2 k)).set 8 x from fun _ => rfl, hC_put hk zp_s8]
theorem ez_g9 (hk : k < 17) : xIs x_dd G rg (.getfield 457 :: l) (L, .inr (.inr (.inl (k + 3, 0))) :: S, hC h c) = xIs x_dd G rg l (L, .inl (c.2.2 k 136) :: S, hC h c) := e_get (ci := 7) (fs := z_fs k (c.2.2 k)) (hC_cell hk 0) rfl rfl
theorem ez_s9 {v : Int} (hk : k < 17) : xIs x_dd G rg (.putfield 457 :: l) (L, .inl v :: .inr (.inr (.inl (k + 3, 0))) :: S, hC h c) = xIs x_dd G rg l (L, S, hC h (q_z c k (xfu (c.2.2 k) 136 v))) := by
  rw [e_put (ci := 7) (fs := z_fs k (c.2.2 k)) (hC_cell hk 0) ⟨rfl, Nat.le_of_ble_eq_true rfl, rfl⟩]
  rw [show ∀ x, (z_fs k (c.2.2 k)).set (457 % 64) x = (z_fs k (c.2.2 k)).set 9 x from fun _ => rfl, hC_put hk zp_s9]
theorem ez_g10 (hk : k < 17) : xIs x_dd G rg (.getfield 458 :: l) (L, .inr (.inr (.inl (k + 3, 0))) :: S, hC h c) = xIs x_dd G rg l (L, .inl (c.2.2 k 137) :: S, hC h c) := e_get (ci := 7) (fs := z_fs k (c.2.2 k)) (hC_cell hk 0) rfl rfl
theorem ez_s10 {v : Int} (hk : k < 17) : xIs x_dd G rg (.putfield 458 :: l) (L, .inl v :: .inr (.inr (.inl (k + 3, 0))) :: S, hC h c) = xIs x_dd G rg l (L, S, hC h (q_z c k (xfu (c.2.2 k) 137 v))) := by
  rw [e_put (ci := 7) (fs := z_fs k (c.2.2 k)) (hC_cell hk 0) ⟨rfl, Nat.le_of_ble_eq_true rfl, rfl⟩]
  rw [show ∀ x, (z_fs k (c.2.2 k)).set (458 % 64) x = (z_fs k (c.2.2 k)).set 10 x from fun _ => rfl, hC_put hk zp_s10]
theorem ez_g11 (hk : k < 17) : xIs x_dd G rg (.getfield 459 :: l) (L, .inr (.inr (.inl (k + 3, 0))) :: S, hC h c) = xIs x_dd G rg l (L, .inl (c.2.2 k 138) :: S, hC h c) := e_get (ci := 7) (fs := z_fs k (c.2.2 k)) (hC_cell hk 0) rfl rfl
theorem ez_s11 {v : Int} (hk : k < 17) : xIs x_dd G rg (.putfield 459 :: l) (L, .inl v :: .inr (.inr (.inl (k + 3, 0))) :: S, hC h c) = xIs x_dd G rg l (L, S, hC h (q_z c k (xfu (c.2.2 k) 138 v))) := by
  rw [e_put (ci := 7) (fs := z_fs k (c.2.2 k)) (hC_cell hk 0) ⟨rfl, Nat.le_of_ble_eq_true rfl, rfl⟩]
  rw [show ∀ x, (z_fs k (c.2.2 k)).set (459 % 64) x = (z_fs k (c.2.2 k)).set 11 x from fun _ => rfl, hC_put hk zp_s11]
theorem ez_g12 (hk : k < 17) : xIs x_dd G rg (.getfield 460 :: l) (L, .inr (.inr (.inl (k + 3, 0))) :: S, hC h c) = xIs x_dd G rg l (L, .inl (c.2.2 k 139) :: S, hC h c) := e_get (ci := 7) (fs := z_fs k (c.2.2 k)) (hC_cell hk 0) rfl rfl
theorem ez_s12 {v : Int} (hk : k < 17) : xIs x_dd G rg (.putfield 460 :: l) (L, .inl v :: .inr (.inr (.inl (k + 3, 0))) :: S, hC h c) = xIs x_dd G rg l (L, S, hC h (q_z c k (xfu (c.2.2 k) 139 v))) := by
  rw [e_put (ci := 7) (fs := z_fs k (c.2.2 k)) (hC_cell hk 0) ⟨rfl, Nat.le_of_ble_eq_true rfl, rfl⟩]
  rw [show ∀ x, (z_fs k (c.2.2 k)).set (460 % 64) x = (z_fs k (c.2.2 k)).set 12 x from fun _ => rfl, hC_put hk zp_s12]
theorem ez_g13 (hk : k < 17) : xIs x_dd G rg (.getfield 461 :: l) (L, .inr (.inr (.inl (k + 3, 0))) :: S, hC h c) = xIs x_dd G rg l (L, .inl (c.2.2 k 140) :: S, hC h c) := e_get (ci := 7) (fs := z_fs k (c.2.2 k)) (hC_cell hk 0) rfl rfl
theorem ez_s13 {v : Int} (hk : k < 17) : xIs x_dd G rg (.putfield 461 :: l) (L, .inl v :: .inr (.inr (.inl (k + 3, 0))) :: S, hC h c) = xIs x_dd G rg l (L, S, hC h (q_z c k (xfu (c.2.2 k) 140 v))) := by
  rw [e_put (ci := 7) (fs := z_fs k (c.2.2 k)) (hC_cell hk 0) ⟨rfl, Nat.le_of_ble_eq_true rfl, rfl⟩]
  rw [show ∀ x, (z_fs k (c.2.2 k)).set (461 % 64) x = (z_fs k (c.2.2 k)).set 13 x from fun _ => rfl, hC_put hk zp_s13]
theorem ez_g14 (hk : k < 17) : xIs x_dd G rg (.getfield 462 :: l) (L, .inr (.inr (.inl (k + 3, 0))) :: S, hC h c) = xIs x_dd G rg l (L, .inr (.inr (.inl (0, 3))) :: S, hC h c) := e_get (ci := 7) (fs := z_fs k (c.2.2 k)) (hC_cell hk 0) rfl rfl
theorem ez_g15 (hk : k < 17) : xIs x_dd G rg (.getfield 463 :: l) (L, .inr (.inr (.inl (k + 3, 0))) :: S, hC h c) = xIs x_dd G rg l (L, .inr (.inr (.inl (k + 3, 4))) :: S, hC h c) := e_get (ci := 7) (fs := z_fs k (c.2.2 k)) (hC_cell hk 0) rfl rfl
theorem ez_b0g {b : Nat} (hk : k < 17) (hb : b < 6) : xIs x_dd G rg (.getfield 0 :: l) (L, .inr (.inr (.inl (k + 3, 5 + b))) :: S, hC h c) = xIs x_dd G rg l (L, .inl (c.2.2 k (b)) :: S, hC h c) := e_get (ci := 0) (fs := [.inl (c.2.2 k (b)), .inl (c.2.2 k (6 + b)), .inl (c.2.2 k (12 + b)), .inl (c.2.2 k (18 + b)), .inl (c.2.2 k (24 + b)), .inl (c.2.2 k (30 + b))]) ((hC_cell hk _).trans (z_cb hb)) rfl rfl
theorem ez_b0s {b : Nat} {v : Int} (hk : k < 17) (hb : b < 6) : xIs x_dd G rg (.putfield 0 :: l) (L, .inl v :: .inr (.inr (.inl (k + 3, 5 + b))) :: S, hC h c) = xIs x_dd G rg l (L, S, hC h (q_z c k (xfu (c.2.2 k) (b) v))) := by
  rw [e_put (ci := 0) (fs := [.inl (c.2.2 k (b)), .inl (c.2.2 k (6 + b)), .inl (c.2.2 k (12 + b)), .inl (c.2.2 k (18 + b)), .inl (c.2.2 k (24 + b)), .inl (c.2.2 k (30 + b))]) ((hC_cell hk _).trans (z_cb hb)) ⟨rfl, Nat.le_of_ble_eq_true rfl, rfl⟩]
  exact congrArg (fun H => xIs x_dd G rg l (L, S, H)) (hC_put hk (zp_b0 hb))
theorem ez_b1g {b : Nat} (hk : k < 17) (hb : b < 6) : xIs x_dd G rg (.getfield 1 :: l) (L, .inr (.inr (.inl (k + 3, 5 + b))) :: S, hC h c) = xIs x_dd G rg l (L, .inl (c.2.2 k (6 + b)) :: S, hC h c) := e_get (ci := 0) (fs := [.inl (c.2.2 k (b)), .inl (c.2.2 k (6 + b)), .inl (c.2.2 k (12 + b)), .inl (c.2.2 k (18 + b)), .inl (c.2.2 k (24 + b)), .inl (c.2.2 k (30 + b))]) ((hC_cell hk _).trans (z_cb hb)) rfl rfl
theorem ez_b1s {b : Nat} {v : Int} (hk : k < 17) (hb : b < 6) : xIs x_dd G rg (.putfield 1 :: l) (L, .inl v :: .inr (.inr (.inl (k + 3, 5 + b))) :: S, hC h c) = xIs x_dd G rg l (L, S, hC h (q_z c k (xfu (c.2.2 k) (6 + b) v))) := by
  rw [e_put (ci := 0) (fs := [.inl (c.2.2 k (b)), .inl (c.2.2 k (6 + b)), .inl (c.2.2 k (12 + b)), .inl (c.2.2 k (18 + b)), .inl (c.2.2 k (24 + b)), .inl (c.2.2 k (30 + b))]) ((hC_cell hk _).trans (z_cb hb)) ⟨rfl, Nat.le_of_ble_eq_true rfl, rfl⟩]
  exact congrArg (fun H => xIs x_dd G rg l (L, S, H)) (hC_put hk (zp_b1 hb))
theorem ez_b2g {b : Nat} (hk : k < 17) (hb : b < 6) : xIs x_dd G rg (.getfield 2 :: l) (L, .inr (.inr (.inl (k + 3, 5 + b))) :: S, hC h c) = xIs x_dd G rg l (L, .inl (c.2.2 k (12 + b)) :: S, hC h c) := e_get (ci := 0) (fs := [.inl (c.2.2 k (b)), .inl (c.2.2 k (6 + b)), .inl (c.2.2 k (12 + b)), .inl (c.2.2 k (18 + b)), .inl (c.2.2 k (24 + b)), .inl (c.2.2 k (30 + b))]) ((hC_cell hk _).trans (z_cb hb)) rfl rfl
theorem ez_b2s {b : Nat} {v : Int} (hk : k < 17) (hb : b < 6) : xIs x_dd G rg (.putfield 2 :: l) (L, .inl v :: .inr (.inr (.inl (k + 3, 5 + b))) :: S, hC h c) = xIs x_dd G rg l (L, S, hC h (q_z c k (xfu (c.2.2 k) (12 + b) v))) := by
  rw [e_put (ci := 0) (fs := [.inl (c.2.2 k (b)), .inl (c.2.2 k (6 + b)), .inl (c.2.2 k (12 + b)), .inl (c.2.2 k (18 + b)), .inl (c.2.2 k (24 + b)), .inl (c.2.2 k (30 + b))]) ((hC_cell hk _).trans (z_cb hb)) ⟨rfl, Nat.le_of_ble_eq_true rfl, rfl⟩]
  exact congrArg (fun H => xIs x_dd G rg l (L, S, H)) (hC_put hk (zp_b2 hb))
theorem ez_b3g {b : Nat} (hk : k < 17) (hb : b < 6) : xIs x_dd G rg (.getfield 3 :: l) (L, .inr (.inr (.inl (k + 3, 5 + b))) :: S, hC h c) = xIs x_dd G rg l (L, .inl (c.2.2 k (18 + b)) :: S, hC h c) := e_get (ci := 0) (fs := [.inl (c.2.2 k (b)), .inl (c.2.2 k (6 + b)), .inl (c.2.2 k (12 + b)), .inl (c.2.2 k (18 + b)), .inl (c.2.2 k (24 + b)), .inl (c.2.2 k (30 + b))]) ((hC_cell hk _).trans (z_cb hb)) rfl rfl
theorem ez_b3s {b : Nat} {v : Int} (hk : k < 17) (hb : b < 6) : xIs x_dd G rg (.putfield 3 :: l) (L, .inl v :: .inr (.inr (.inl (k + 3, 5 + b))) :: S, hC h c) = xIs x_dd G rg l (L, S, hC h (q_z c k (xfu (c.2.2 k) (18 + b) v))) := by
  rw [e_put (ci := 0) (fs := [.inl (c.2.2 k (b)), .inl (c.2.2 k (6 + b)), .inl (c.2.2 k (12 + b)), .inl (c.2.2 k (18 + b)), .inl (c.2.2 k (24 + b)), .inl (c.2.2 k (30 + b))]) ((hC_cell hk _).trans (z_cb hb)) ⟨rfl, Nat.le_of_ble_eq_true rfl, rfl⟩]
  exact congrArg (fun H => xIs x_dd G rg l (L, S, H)) (hC_put hk (zp_b3 hb))
theorem ez_b4g {b : Nat} (hk : k < 17) (hb : b < 6) : xIs x_dd G rg (.getfield 4 :: l) (L, .inr (.inr (.inl (k + 3, 5 + b))) :: S, hC h c) = xIs x_dd G rg l (L, .inl (c.2.2 k (24 + b)) :: S, hC h c) := e_get (ci := 0) (fs := [.inl (c.2.2 k (b)), .inl (c.2.2 k (6 + b)), .inl (c.2.2 k (12 + b)), .inl (c.2.2 k (18 + b)), .inl (c.2.2 k (24 + b)), .inl (c.2.2 k (30 + b))]) ((hC_cell hk _).trans (z_cb hb)) rfl rfl
theorem ez_b4s {b : Nat} {v : Int} (hk : k < 17) (hb : b < 6) : xIs x_dd G rg (.putfield 4 :: l) (L, .inl v :: .inr (.inr (.inl (k + 3, 5 + b))) :: S, hC h c) = xIs x_dd G rg l (L, S, hC h (q_z c k (xfu (c.2.2 k) (24 + b) v))) := by
  rw [e_put (ci := 0) (fs := [.inl (c.2.2 k (b)), .inl (c.2.2 k (6 + b)), .inl (c.2.2 k (12 + b)), .inl (c.2.2 k (18 + b)), .inl (c.2.2 k (24 + b)), .inl (c.2.2 k (30 + b))]) ((hC_cell hk _).trans (z_cb hb)) ⟨rfl, Nat.le_of_ble_eq_true rfl, rfl⟩]
  exact congrArg (fun H => xIs x_dd G rg l (L, S, H)) (hC_put hk (zp_b4 hb))
theorem ez_b5g {b : Nat} (hk : k < 17) (hb : b < 6) : xIs x_dd G rg (.getfield 5 :: l) (L, .inr (.inr (.inl (k + 3, 5 + b))) :: S, hC h c) = xIs x_dd G rg l (L, .inl (c.2.2 k (30 + b)) :: S, hC h c) := e_get (ci := 0) (fs := [.inl (c.2.2 k (b)), .inl (c.2.2 k (6 + b)), .inl (c.2.2 k (12 + b)), .inl (c.2.2 k (18 + b)), .inl (c.2.2 k (24 + b)), .inl (c.2.2 k (30 + b))]) ((hC_cell hk _).trans (z_cb hb)) rfl rfl
theorem ez_b5s {b : Nat} {v : Int} (hk : k < 17) (hb : b < 6) : xIs x_dd G rg (.putfield 5 :: l) (L, .inl v :: .inr (.inr (.inl (k + 3, 5 + b))) :: S, hC h c) = xIs x_dd G rg l (L, S, hC h (q_z c k (xfu (c.2.2 k) (30 + b) v))) := by
  rw [e_put (ci := 0) (fs := [.inl (c.2.2 k (b)), .inl (c.2.2 k (6 + b)), .inl (c.2.2 k (12 + b)), .inl (c.2.2 k (18 + b)), .inl (c.2.2 k (24 + b)), .inl (c.2.2 k (30 + b))]) ((hC_cell hk _).trans (z_cb hb)) ⟨rfl, Nat.le_of_ble_eq_true rfl, rfl⟩]
  exact congrArg (fun H => xIs x_dd G rg l (L, S, H)) (hC_put hk (zp_b5 hb))
theorem ez_g0g {g : Nat} (hk : k < 17) (hb : g < 8) : xIs x_dd G rg (.getfield 192 :: l) (L, .inr (.inr (.inl (k + 3, 11 + g))) :: S, hC h c) = xIs x_dd G rg l (L, .inl (c.2.2 k (116 + g)) :: S, hC h c) := e_get (ci := 3) (fs := [.inl (c.2.2 k (116 + g)), .inl (c.2.2 k (36 + g)), .inl (c.2.2 k (124 + g)), .inl (c.2.2 k (44 + g)), .inl (c.2.2 k (52 + g)), .inl (c.2.2 k (60 + g)), .inl (c.2.2 k (68 + g)), .inl (c.2.2 k (76 + g))]) ((hC_cell hk _).trans (z_cg hb)) rfl rfl
theorem ez_g0s {g : Nat} {v : Int} (hk : k < 17) (hb : g < 8) : xIs x_dd G rg (.putfield 192 :: l) (L, .inl v :: .inr (.inr (.inl (k + 3, 11 + g))) :: S, hC h c) = xIs x_dd G rg l (L, S, hC h (q_z c k (xfu (c.2.2 k) (116 + g) v))) := by
  rw [e_put (ci := 3) (fs := [.inl (c.2.2 k (116 + g)), .inl (c.2.2 k (36 + g)), .inl (c.2.2 k (124 + g)), .inl (c.2.2 k (44 + g)), .inl (c.2.2 k (52 + g)), .inl (c.2.2 k (60 + g)), .inl (c.2.2 k (68 + g)), .inl (c.2.2 k (76 + g))]) ((hC_cell hk _).trans (z_cg hb)) ⟨rfl, Nat.le_of_ble_eq_true rfl, rfl⟩]
  exact congrArg (fun H => xIs x_dd G rg l (L, S, H)) (hC_put hk (zp_g0 hb))
theorem ez_g1g {g : Nat} (hk : k < 17) (hb : g < 8) : xIs x_dd G rg (.getfield 193 :: l) (L, .inr (.inr (.inl (k + 3, 11 + g))) :: S, hC h c) = xIs x_dd G rg l (L, .inl (c.2.2 k (36 + g)) :: S, hC h c) := e_get (ci := 3) (fs := [.inl (c.2.2 k (116 + g)), .inl (c.2.2 k (36 + g)), .inl (c.2.2 k (124 + g)), .inl (c.2.2 k (44 + g)), .inl (c.2.2 k (52 + g)), .inl (c.2.2 k (60 + g)), .inl (c.2.2 k (68 + g)), .inl (c.2.2 k (76 + g))]) ((hC_cell hk _).trans (z_cg hb)) rfl rfl
theorem ez_g1s {g : Nat} {v : Int} (hk : k < 17) (hb : g < 8) : xIs x_dd G rg (.putfield 193 :: l) (L, .inl v :: .inr (.inr (.inl (k + 3, 11 + g))) :: S, hC h c) = xIs x_dd G rg l (L, S, hC h (q_z c k (xfu (c.2.2 k) (36 + g) v))) := by
  rw [e_put (ci := 3) (fs := [.inl (c.2.2 k (116 + g)), .inl (c.2.2 k (36 + g)), .inl (c.2.2 k (124 + g)), .inl (c.2.2 k (44 + g)), .inl (c.2.2 k (52 + g)), .inl (c.2.2 k (60 + g)), .inl (c.2.2 k (68 + g)), .inl (c.2.2 k (76 + g))]) ((hC_cell hk _).trans (z_cg hb)) ⟨rfl, Nat.le_of_ble_eq_true rfl, rfl⟩]
  exact congrArg (fun H => xIs x_dd G rg l (L, S, H)) (hC_put hk (zp_g1 hb))
theorem ez_g2g {g : Nat} (hk : k < 17) (hb : g < 8) : xIs x_dd G rg (.getfield 194 :: l) (L, .inr (.inr (.inl (k + 3, 11 + g))) :: S, hC h c) = xIs x_dd G rg l (L, .inl (c.2.2 k (124 + g)) :: S, hC h c) := e_get (ci := 3) (fs := [.inl (c.2.2 k (116 + g)), .inl (c.2.2 k (36 + g)), .inl (c.2.2 k (124 + g)), .inl (c.2.2 k (44 + g)), .inl (c.2.2 k (52 + g)), .inl (c.2.2 k (60 + g)), .inl (c.2.2 k (68 + g)), .inl (c.2.2 k (76 + g))]) ((hC_cell hk _).trans (z_cg hb)) rfl rfl
theorem ez_g2s {g : Nat} {v : Int} (hk : k < 17) (hb : g < 8) : xIs x_dd G rg (.putfield 194 :: l) (L, .inl v :: .inr (.inr (.inl (k + 3, 11 + g))) :: S, hC h c) = xIs x_dd G rg l (L, S, hC h (q_z c k (xfu (c.2.2 k) (124 + g) v))) := by
  rw [e_put (ci := 3) (fs := [.inl (c.2.2 k (116 + g)), .inl (c.2.2 k (36 + g)), .inl (c.2.2 k (124 + g)), .inl (c.2.2 k (44 + g)), .inl (c.2.2 k (52 + g)), .inl (c.2.2 k (60 + g)), .inl (c.2.2 k (68 + g)), .inl (c.2.2 k (76 + g))]) ((hC_cell hk _).trans (z_cg hb)) ⟨rfl, Nat.le_of_ble_eq_true rfl, rfl⟩]
  exact congrArg (fun H => xIs x_dd G rg l (L, S, H)) (hC_put hk (zp_g2 hb))
theorem ez_g3g {g : Nat} (hk : k < 17) (hb : g < 8) : xIs x_dd G rg (.getfield 195 :: l) (L, .inr (.inr (.inl (k + 3, 11 + g))) :: S, hC h c) = xIs x_dd G rg l (L, .inl (c.2.2 k (44 + g)) :: S, hC h c) := e_get (ci := 3) (fs := [.inl (c.2.2 k (116 + g)), .inl (c.2.2 k (36 + g)), .inl (c.2.2 k (124 + g)), .inl (c.2.2 k (44 + g)), .inl (c.2.2 k (52 + g)), .inl (c.2.2 k (60 + g)), .inl (c.2.2 k (68 + g)), .inl (c.2.2 k (76 + g))]) ((hC_cell hk _).trans (z_cg hb)) rfl rfl
theorem ez_g3s {g : Nat} {v : Int} (hk : k < 17) (hb : g < 8) : xIs x_dd G rg (.putfield 195 :: l) (L, .inl v :: .inr (.inr (.inl (k + 3, 11 + g))) :: S, hC h c) = xIs x_dd G rg l (L, S, hC h (q_z c k (xfu (c.2.2 k) (44 + g) v))) := by
  rw [e_put (ci := 3) (fs := [.inl (c.2.2 k (116 + g)), .inl (c.2.2 k (36 + g)), .inl (c.2.2 k (124 + g)), .inl (c.2.2 k (44 + g)), .inl (c.2.2 k (52 + g)), .inl (c.2.2 k (60 + g)), .inl (c.2.2 k (68 + g)), .inl (c.2.2 k (76 + g))]) ((hC_cell hk _).trans (z_cg hb)) ⟨rfl, Nat.le_of_ble_eq_true rfl, rfl⟩]
  exact congrArg (fun H => xIs x_dd G rg l (L, S, H)) (hC_put hk (zp_g3 hb))
theorem ez_g4g {g : Nat} (hk : k < 17) (hb : g < 8) : xIs x_dd G rg (.getfield 196 :: l) (L, .inr (.inr (.inl (k + 3, 11 + g))) :: S, hC h c) = xIs x_dd G rg l (L, .inl (c.2.2 k (52 + g)) :: S, hC h c) := e_get (ci := 3) (fs := [.inl (c.2.2 k (116 + g)), .inl (c.2.2 k (36 + g)), .inl (c.2.2 k (124 + g)), .inl (c.2.2 k (44 + g)), .inl (c.2.2 k (52 + g)), .inl (c.2.2 k (60 + g)), .inl (c.2.2 k (68 + g)), .inl (c.2.2 k (76 + g))]) ((hC_cell hk _).trans (z_cg hb)) rfl rfl
theorem ez_g4s {g : Nat} {v : Int} (hk : k < 17) (hb : g < 8) : xIs x_dd G rg (.putfield 196 :: l) (L, .inl v :: .inr (.inr (.inl (k + 3, 11 + g))) :: S, hC h c) = xIs x_dd G rg l (L, S, hC h (q_z c k (xfu (c.2.2 k) (52 + g) v))) := by
  rw [e_put (ci := 3) (fs := [.inl (c.2.2 k (116 + g)), .inl (c.2.2 k (36 + g)), .inl (c.2.2 k (124 + g)), .inl (c.2.2 k (44 + g)), .inl (c.2.2 k (52 + g)), .inl (c.2.2 k (60 + g)), .inl (c.2.2 k (68 + g)), .inl (c.2.2 k (76 + g))]) ((hC_cell hk _).trans (z_cg hb)) ⟨rfl, Nat.le_of_ble_eq_true rfl, rfl⟩]
  exact congrArg (fun H => xIs x_dd G rg l (L, S, H)) (hC_put hk (zp_g4 hb))
theorem ez_g5g {g : Nat} (hk : k < 17) (hb : g < 8) : xIs x_dd G rg (.getfield 197 :: l) (L, .inr (.inr (.inl (k + 3, 11 + g))) :: S, hC h c) = xIs x_dd G rg l (L, .inl (c.2.2 k (60 + g)) :: S, hC h c) := e_get (ci := 3) (fs := [.inl (c.2.2 k (116 + g)), .inl (c.2.2 k (36 + g)), .inl (c.2.2 k (124 + g)), .inl (c.2.2 k (44 + g)), .inl (c.2.2 k (52 + g)), .inl (c.2.2 k (60 + g)), .inl (c.2.2 k (68 + g)), .inl (c.2.2 k (76 + g))]) ((hC_cell hk _).trans (z_cg hb)) rfl rfl
theorem ez_g5s {g : Nat} {v : Int} (hk : k < 17) (hb : g < 8) : xIs x_dd G rg (.putfield 197 :: l) (L, .inl v :: .inr (.inr (.inl (k + 3, 11 + g))) :: S, hC h c) = xIs x_dd G rg l (L, S, hC h (q_z c k (xfu (c.2.2 k) (60 + g) v))) := by
  rw [e_put (ci := 3) (fs := [.inl (c.2.2 k (116 + g)), .inl (c.2.2 k (36 + g)), .inl (c.2.2 k (124 + g)), .inl (c.2.2 k (44 + g)), .inl (c.2.2 k (52 + g)), .inl (c.2.2 k (60 + g)), .inl (c.2.2 k (68 + g)), .inl (c.2.2 k (76 + g))]) ((hC_cell hk _).trans (z_cg hb)) ⟨rfl, Nat.le_of_ble_eq_true rfl, rfl⟩]
  exact congrArg (fun H => xIs x_dd G rg l (L, S, H)) (hC_put hk (zp_g5 hb))
theorem ez_g6g {g : Nat} (hk : k < 17) (hb : g < 8) : xIs x_dd G rg (.getfield 198 :: l) (L, .inr (.inr (.inl (k + 3, 11 + g))) :: S, hC h c) = xIs x_dd G rg l (L, .inl (c.2.2 k (68 + g)) :: S, hC h c) := e_get (ci := 3) (fs := [.inl (c.2.2 k (116 + g)), .inl (c.2.2 k (36 + g)), .inl (c.2.2 k (124 + g)), .inl (c.2.2 k (44 + g)), .inl (c.2.2 k (52 + g)), .inl (c.2.2 k (60 + g)), .inl (c.2.2 k (68 + g)), .inl (c.2.2 k (76 + g))]) ((hC_cell hk _).trans (z_cg hb)) rfl rfl
theorem ez_g6s {g : Nat} {v : Int} (hk : k < 17) (hb : g < 8) : xIs x_dd G rg (.putfield 198 :: l) (L, .inl v :: .inr (.inr (.inl (k + 3, 11 + g))) :: S, hC h c) = xIs x_dd G rg l (L, S, hC h (q_z c k (xfu (c.2.2 k) (68 + g) v))) := by
  rw [e_put (ci := 3) (fs := [.inl (c.2.2 k (116 + g)), .inl (c.2.2 k (36 + g)), .inl (c.2.2 k (124 + g)), .inl (c.2.2 k (44 + g)), .inl (c.2.2 k (52 + g)), .inl (c.2.2 k (60 + g)), .inl (c.2.2 k (68 + g)), .inl (c.2.2 k (76 + g))]) ((hC_cell hk _).trans (z_cg hb)) ⟨rfl, Nat.le_of_ble_eq_true rfl, rfl⟩]
  exact congrArg (fun H => xIs x_dd G rg l (L, S, H)) (hC_put hk (zp_g6 hb))
theorem ez_g7g {g : Nat} (hk : k < 17) (hb : g < 8) : xIs x_dd G rg (.getfield 199 :: l) (L, .inr (.inr (.inl (k + 3, 11 + g))) :: S, hC h c) = xIs x_dd G rg l (L, .inl (c.2.2 k (76 + g)) :: S, hC h c) := e_get (ci := 3) (fs := [.inl (c.2.2 k (116 + g)), .inl (c.2.2 k (36 + g)), .inl (c.2.2 k (124 + g)), .inl (c.2.2 k (44 + g)), .inl (c.2.2 k (52 + g)), .inl (c.2.2 k (60 + g)), .inl (c.2.2 k (68 + g)), .inl (c.2.2 k (76 + g))]) ((hC_cell hk _).trans (z_cg hb)) rfl rfl
theorem ez_g7s {g : Nat} {v : Int} (hk : k < 17) (hb : g < 8) : xIs x_dd G rg (.putfield 199 :: l) (L, .inl v :: .inr (.inr (.inl (k + 3, 11 + g))) :: S, hC h c) = xIs x_dd G rg l (L, S, hC h (q_z c k (xfu (c.2.2 k) (76 + g) v))) := by
  rw [e_put (ci := 3) (fs := [.inl (c.2.2 k (116 + g)), .inl (c.2.2 k (36 + g)), .inl (c.2.2 k (124 + g)), .inl (c.2.2 k (44 + g)), .inl (c.2.2 k (52 + g)), .inl (c.2.2 k (60 + g)), .inl (c.2.2 k (68 + g)), .inl (c.2.2 k (76 + g))]) ((hC_cell hk _).trans (z_cg hb)) ⟨rfl, Nat.le_of_ble_eq_true rfl, rfl⟩]
  exact congrArg (fun H => xIs x_dd G rg l (L, S, H)) (hC_put hk (zp_g7 hb))
theorem ez_l0g {m : Nat} (hk : k < 17) (hb : m < 10) : xIs x_dd G rg (.getfield 320 :: l) (L, .inr (.inr (.inl (k + 3, 19 + m))) :: S, hC h c) = xIs x_dd G rg l (L, .inl (c.2.2 k (84 + m)) :: S, hC h c) := e_get (ci := 5) (fs := [.inl (c.2.2 k (84 + m)), .inl (c.2.2 k (94 + m)), .inl (c.2.2 k (104 + m))]) ((hC_cell hk _).trans (z_cl hb)) rfl rfl
theorem ez_l0s {m : Nat} {v : Int} (hk : k < 17) (hb : m < 10) : xIs x_dd G rg (.putfield 320 :: l) (L, .inl v :: .inr (.inr (.inl (k + 3, 19 + m))) :: S, hC h c) = xIs x_dd G rg l (L, S, hC h (q_z c k (xfu (c.2.2 k) (84 + m) v))) := by
  rw [e_put (ci := 5) (fs := [.inl (c.2.2 k (84 + m)), .inl (c.2.2 k (94 + m)), .inl (c.2.2 k (104 + m))]) ((hC_cell hk _).trans (z_cl hb)) ⟨rfl, Nat.le_of_ble_eq_true rfl, rfl⟩]
  exact congrArg (fun H => xIs x_dd G rg l (L, S, H)) (hC_put hk (zp_l0 hb))
theorem ez_l1g {m : Nat} (hk : k < 17) (hb : m < 10) : xIs x_dd G rg (.getfield 321 :: l) (L, .inr (.inr (.inl (k + 3, 19 + m))) :: S, hC h c) = xIs x_dd G rg l (L, .inl (c.2.2 k (94 + m)) :: S, hC h c) := e_get (ci := 5) (fs := [.inl (c.2.2 k (84 + m)), .inl (c.2.2 k (94 + m)), .inl (c.2.2 k (104 + m))]) ((hC_cell hk _).trans (z_cl hb)) rfl rfl
theorem ez_l1s {m : Nat} {v : Int} (hk : k < 17) (hb : m < 10) : xIs x_dd G rg (.putfield 321 :: l) (L, .inl v :: .inr (.inr (.inl (k + 3, 19 + m))) :: S, hC h c) = xIs x_dd G rg l (L, S, hC h (q_z c k (xfu (c.2.2 k) (94 + m) v))) := by
  rw [e_put (ci := 5) (fs := [.inl (c.2.2 k (84 + m)), .inl (c.2.2 k (94 + m)), .inl (c.2.2 k (104 + m))]) ((hC_cell hk _).trans (z_cl hb)) ⟨rfl, Nat.le_of_ble_eq_true rfl, rfl⟩]
  exact congrArg (fun H => xIs x_dd G rg l (L, S, H)) (hC_put hk (zp_l1 hb))
theorem ez_l2g {m : Nat} (hk : k < 17) (hb : m < 10) : xIs x_dd G rg (.getfield 322 :: l) (L, .inr (.inr (.inl (k + 3, 19 + m))) :: S, hC h c) = xIs x_dd G rg l (L, .inl (c.2.2 k (104 + m)) :: S, hC h c) := e_get (ci := 5) (fs := [.inl (c.2.2 k (84 + m)), .inl (c.2.2 k (94 + m)), .inl (c.2.2 k (104 + m))]) ((hC_cell hk _).trans (z_cl hb)) rfl rfl
theorem ez_l2s {m : Nat} {v : Int} (hk : k < 17) (hb : m < 10) : xIs x_dd G rg (.putfield 322 :: l) (L, .inl v :: .inr (.inr (.inl (k + 3, 19 + m))) :: S, hC h c) = xIs x_dd G rg l (L, S, hC h (q_z c k (xfu (c.2.2 k) (104 + m) v))) := by
  rw [e_put (ci := 5) (fs := [.inl (c.2.2 k (84 + m)), .inl (c.2.2 k (94 + m)), .inl (c.2.2 k (104 + m))]) ((hC_cell hk _).trans (z_cl hb)) ⟨rfl, Nat.le_of_ble_eq_true rfl, rfl⟩]
  exact congrArg (fun H => xIs x_dd G rg l (L, S, H)) (hC_put hk (zp_l2 hb))
theorem ez_ba {i : Int} (hk : k < 17) (h0 : 0 ≤ i) (h1 : i < 6) : xIs x_dd G rg (.aaload :: l) (L, .inl i :: .inr (.inr (.inl (k + 3, 1))) :: S, hC h c) = xIs x_dd G rg l (L, .inr (.inr (.inl (k + 3, 5 + i.toNat))) :: S, hC h c) := e_aaload (ci := 0) (n := 6) (f := fun i => if i < 6 then some (k + 3, 5 + i) else none) (hC_cell hk 1) h0 h1 (show (if i.toNat < 6 then some (k + 3, 5 + i.toNat) else none) = _ from if_pos (by omega))
theorem ez_ga {i : Int} (hk : k < 17) (h0 : 0 ≤ i) (h1 : i < 8) : xIs x_dd G rg (.aaload :: l) (L, .inl i :: .inr (.inr (.inl (k + 3, 2))) :: S, hC h c) = xIs x_dd G rg l (L, .inr (.inr (.inl (k + 3, 11 + i.toNat))) :: S, hC h c) := e_aaload (ci := 3) (n := 8) (f := fun i => if i < 8 then some (k + 3, 11 + i) else none) (hC_cell hk 2) h0 h1 (show (if i.toNat < 8 then some (k + 3, 11 + i.toNat) else none) = _ from if_pos (by omega))
theorem ez_la {i : Int} (hk : k < 17) (h0 : 0 ≤ i) (h1 : i < 10) : xIs x_dd G rg (.aaload :: l) (L, .inl i :: .inr (.inr (.inl (k + 3, 3))) :: S, hC h c) = xIs x_dd G rg l (L, .inr (.inr (.inl (k + 3, 19 + i.toNat))) :: S, hC h c) := e_aaload (ci := 5) (n := 10) (f := fun i => if i < 10 then some (k + 3, 19 + i) else none) (hC_cell hk 3) h0 h1 (show (if i.toNat < 10 then some (k + 3, 19 + i.toNat) else none) = _ from if_pos (by omega))
theorem ez_tr {i : Int} (hk : k < 17) (h0 : 0 ≤ i) (h1 : i < 7) : xIs x_dd G rg (.iaload :: l) (L, .inl i :: .inr (.inr (.inl (k + 3, 4))) :: S, hC h c) = xIs x_dd G rg l (L, .inl (c.2.2 k (141 + i.toNat)) :: S, hC h c) := e_iaload (n := 7) (f := fun i => c.2.2 k (141 + i)) (hC_cell hk 4) h0 h1
theorem ez_tw {i v : Int} (hk : k < 17) (h0 : 0 ≤ i) (h1 : i < 7) : xIs x_dd G rg (.iastore :: l) (L, .inl v :: .inl i :: .inr (.inr (.inl (k + 3, 4))) :: S, hC h c) = xIs x_dd G rg l (L, S, hC h (q_z c k (xfu (c.2.2 k) (141 + i.toNat) v))) := by
  rw [e_iastore (n := 7) (f := fun i => c.2.2 k (141 + i)) (hC_cell hk 4) h0 h1]
  exact congrArg (fun H => xIs x_dd G rg l (L, S, H)) (hC_put hk (zp_t (by omega)))
theorem isc_0 : x_isc (hC h c) 0 0 11 = true := rfl
theorem isc_1 : x_isc (hC h c) 0 1 9 = true := rfl
theorem isc_3 : x_isc (hC h c) 0 3 6 = true := rfl
theorem isc_7 : x_isc (hC h c) 0 7 4 = true := rfl
theorem isc_11 : x_isc (hC h c) 0 11 1 = true := rfl
theorem isc_15 : x_isc (hC h c) 0 15 8 = true := rfl
theorem isc_19 : x_isc (hC h c) 0 19 10 = true := rfl
theorem isc_24 : x_isc (hC h c) 0 24 2 = true := rfl
theorem isc_25 : x_isc (hC h c) 0 25 3 = true := rfl
theorem isc_zb {b : Nat} (hk : k < 17) (hb : b < 6) : x_isc (hC h c) (k + 3) (5 + b) 0 = true := by
  unfold x_isc
  rw [hC_cell hk, z_cb hb]
  rfl
theorem isc_zg {b : Nat} (hk : k < 17) (hb : b < 8) : x_isc (hC h c) (k + 3) (11 + b) 3 = true := by
  unfold x_isc
  rw [hC_cell hk, z_cg hb]
  rfl
theorem isc_zl {b : Nat} (hk : k < 17) (hb : b < 10) : x_isc (hC h c) (k + 3) (19 + b) 5 = true := by
  unfold x_isc
  rw [hC_cell hk, z_cl hb]
  rfl
theorem isc_zs (hk : k < 17) : x_isc (hC h c) (k + 3) 0 7 = true := by
  unfold x_isc
  rw [hC_cell hk]
  rfl
end EZ
