/-! ===== the reference's cells: region 1, by its numbers (r.1: the fields by their places; r.2: the rows by their cells) ===== -/
abbrev xR : Type := (Nat → Int) × (Nat → Nat → Int)
def xr_read (n : Int) : xV := if n = 1 then .inr (.inr (.inl (1, 4))) else if n = 2 then .inr (.inr (.inl (1, 8))) else .inr (.inr (.inr 0))
def xr_fs (r : xR) : List xV := [.inr (.inr (.inl (1, 1))), .inl (r.1 1), .inl (r.1 2), .inr (.inr (.inl (1, 2))), .inr (.inr (.inl (1, 3))), .inl (r.1 5), .inl (r.1 6), .inr (.inr (.inl (1, 4))), .inl (r.1 8), .inr (.inr (.inl (1, 5))), .inl (r.1 10), .inl (r.1 11), xr_read (r.1 12), .inl (r.1 13), .inl (r.1 14), .inl (r.1 15), .inl (r.1 16), .inr (.inr (.inl (1, 6))), .inr (.inr (.inl (1, 7))), .inr (.inr (.inl (1, 8))), .inl (r.1 20), .inl (r.1 21), .inr (.inr (.inl (1, 9))), .inl (r.1 23), .inl (r.1 24), .inl (r.1 25), .inr (.inr (.inl (1, 10))), .inr (.inr (.inl (1, 11))), .inl (r.1 28), .inr (.inr (.inl (1, 12))), .inl (r.1 30), .inl (r.1 31), .inl (r.1 32), .inl (r.1 33), .inr (.inr (.inl (1, 13))), .inr (.inr (.inl (1, 14))), .inr (.inr (.inl (1, 15))), .inr (.inr (.inl (1, 16))), .inr (.inr (.inl (1, 17))), .inr (.inl (r.1 39)), .inr (.inr (.inl (1, 18))), .inr (.inr (.inl (1, 19))), .inl (r.1 42), .inl (r.1 43), .inl (r.1 44), .inr (.inr (.inl (1, 20))), .inr (.inr (.inl (1, 21))), .inr (.inr (.inl (1, 22)))]
def xr_lay (r : xR) : List xC := [.inl (12, xr_fs r), .inr (.inl (0, 116, r.2 1)), .inr (.inl (0, 8, r.2 2)), .inr (.inl (0, 8, r.2 3)), .inr (.inl (1, 80, r.2 4)), .inr (.inl (0, 16, r.2 5)), .inr (.inl (0, 30, r.2 6)), .inr (.inl (0, 16, r.2 7)), .inr (.inl (1, 40, r.2 8)), .inr (.inl (0, 7, r.2 9)), .inr (.inl (0, 8, r.2 10)), .inr (.inl (0, 1392, r.2 11)), .inr (.inl (0, 116, r.2 12)), .inr (.inl (0, 240, r.2 13)), .inr (.inl (0, 116, r.2 14)), .inr (.inl (0, 6, r.2 15)), .inr (.inl (0, 6, r.2 16)), .inr (.inl (0, 6, r.2 17)), .inr (.inl (0, 12, r.2 18)), .inr (.inl (0, 12, r.2 19)), .inr (.inl (0, 232, r.2 20)), .inr (.inl (4, 2, r.2 21)), .inr (.inl (0, 2, r.2 22))]
/-- the heap with the reference in its region -/
def hR (h : xH) (r : xR) : xH := (h.1, xr_lay r, h.2.2)
def xr_i (r : xR) (k : Nat) (v : Int) : xR := (xfu r.1 k v, r.2)
def xr_a (r : xR) (k i : Nat) (v : Int) : xR := (r.1, xfu r.2 k (xfu (r.2 k) i v))
theorem hR_o (h : xH) (r : xR) : xcell (hR h r) 1 0 = some (.inl (12, xr_fs r)) := rfl
theorem hR_c1 (h : xH) (r : xR) : xcell (hR h r) 1 1 = some (.inr (.inl (0, 116, r.2 1))) := rfl
theorem hR_p1 (h : xH) (r : xR) (i : Nat) (v : Int) : xput (hR h r) 1 1 (.inr (.inl (0, 116, xfu (r.2 1) i v))) = hR h (xr_a r 1 i v) := rfl
theorem hR_c2 (h : xH) (r : xR) : xcell (hR h r) 1 2 = some (.inr (.inl (0, 8, r.2 2))) := rfl
theorem hR_p2 (h : xH) (r : xR) (i : Nat) (v : Int) : xput (hR h r) 1 2 (.inr (.inl (0, 8, xfu (r.2 2) i v))) = hR h (xr_a r 2 i v) := rfl
theorem hR_c3 (h : xH) (r : xR) : xcell (hR h r) 1 3 = some (.inr (.inl (0, 8, r.2 3))) := rfl
theorem hR_p3 (h : xH) (r : xR) (i : Nat) (v : Int) : xput (hR h r) 1 3 (.inr (.inl (0, 8, xfu (r.2 3) i v))) = hR h (xr_a r 3 i v) := rfl
theorem hR_c4 (h : xH) (r : xR) : xcell (hR h r) 1 4 = some (.inr (.inl (1, 80, r.2 4))) := rfl
theorem hR_p4 (h : xH) (r : xR) (i : Nat) (v : Int) : xput (hR h r) 1 4 (.inr (.inl (1, 80, xfu (r.2 4) i v))) = hR h (xr_a r 4 i v) := rfl
theorem hR_c5 (h : xH) (r : xR) : xcell (hR h r) 1 5 = some (.inr (.inl (0, 16, r.2 5))) := rfl
theorem hR_p5 (h : xH) (r : xR) (i : Nat) (v : Int) : xput (hR h r) 1 5 (.inr (.inl (0, 16, xfu (r.2 5) i v))) = hR h (xr_a r 5 i v) := rfl
theorem hR_c6 (h : xH) (r : xR) : xcell (hR h r) 1 6 = some (.inr (.inl (0, 30, r.2 6))) := rfl
theorem hR_p6 (h : xH) (r : xR) (i : Nat) (v : Int) : xput (hR h r) 1 6 (.inr (.inl (0, 30, xfu (r.2 6) i v))) = hR h (xr_a r 6 i v) := rfl
theorem hR_c7 (h : xH) (r : xR) : xcell (hR h r) 1 7 = some (.inr (.inl (0, 16, r.2 7))) := rfl
theorem hR_p7 (h : xH) (r : xR) (i : Nat) (v : Int) : xput (hR h r) 1 7 (.inr (.inl (0, 16, xfu (r.2 7) i v))) = hR h (xr_a r 7 i v) := rfl
theorem hR_c8 (h : xH) (r : xR) : xcell (hR h r) 1 8 = some (.inr (.inl (1, 40, r.2 8))) := rfl
theorem hR_p8 (h : xH) (r : xR) (i : Nat) (v : Int) : xput (hR h r) 1 8 (.inr (.inl (1, 40, xfu (r.2 8) i v))) = hR h (xr_a r 8 i v) := rfl
theorem hR_c9 (h : xH) (r : xR) : xcell (hR h r) 1 9 = some (.inr (.inl (0, 7, r.2 9))) := rfl
theorem hR_p9 (h : xH) (r : xR) (i : Nat) (v : Int) : xput (hR h r) 1 9 (.inr (.inl (0, 7, xfu (r.2 9) i v))) = hR h (xr_a r 9 i v) := rfl
theorem hR_c10 (h : xH) (r : xR) : xcell (hR h r) 1 10 = some (.inr (.inl (0, 8, r.2 10))) := rfl
theorem hR_p10 (h : xH) (r : xR) (i : Nat) (v : Int) : xput (hR h r) 1 10 (.inr (.inl (0, 8, xfu (r.2 10) i v))) = hR h (xr_a r 10 i v) := rfl
theorem hR_c11 (h : xH) (r : xR) : xcell (hR h r) 1 11 = some (.inr (.inl (0, 1392, r.2 11))) := rfl
theorem hR_p11 (h : xH) (r : xR) (i : Nat) (v : Int) : xput (hR h r) 1 11 (.inr (.inl (0, 1392, xfu (r.2 11) i v))) = hR h (xr_a r 11 i v) := rfl
theorem hR_c12 (h : xH) (r : xR) : xcell (hR h r) 1 12 = some (.inr (.inl (0, 116, r.2 12))) := rfl
theorem hR_p12 (h : xH) (r : xR) (i : Nat) (v : Int) : xput (hR h r) 1 12 (.inr (.inl (0, 116, xfu (r.2 12) i v))) = hR h (xr_a r 12 i v) := rfl
theorem hR_c13 (h : xH) (r : xR) : xcell (hR h r) 1 13 = some (.inr (.inl (0, 240, r.2 13))) := rfl
theorem hR_p13 (h : xH) (r : xR) (i : Nat) (v : Int) : xput (hR h r) 1 13 (.inr (.inl (0, 240, xfu (r.2 13) i v))) = hR h (xr_a r 13 i v) := rfl
theorem hR_c14 (h : xH) (r : xR) : xcell (hR h r) 1 14 = some (.inr (.inl (0, 116, r.2 14))) := rfl
theorem hR_p14 (h : xH) (r : xR) (i : Nat) (v : Int) : xput (hR h r) 1 14 (.inr (.inl (0, 116, xfu (r.2 14) i v))) = hR h (xr_a r 14 i v) := rfl
theorem hR_c15 (h : xH) (r : xR) : xcell (hR h r) 1 15 = some (.inr (.inl (0, 6, r.2 15))) := rfl
theorem hR_p15 (h : xH) (r : xR) (i : Nat) (v : Int) : xput (hR h r) 1 15 (.inr (.inl (0, 6, xfu (r.2 15) i v))) = hR h (xr_a r 15 i v) := rfl
theorem hR_c16 (h : xH) (r : xR) : xcell (hR h r) 1 16 = some (.inr (.inl (0, 6, r.2 16))) := rfl
theorem hR_p16 (h : xH) (r : xR) (i : Nat) (v : Int) : xput (hR h r) 1 16 (.inr (.inl (0, 6, xfu (r.2 16) i v))) = hR h (xr_a r 16 i v) := rfl
theorem hR_c17 (h : xH) (r : xR) : xcell (hR h r) 1 17 = some (.inr (.inl (0, 6, r.2 17))) := rfl
theorem hR_p17 (h : xH) (r : xR) (i : Nat) (v : Int) : xput (hR h r) 1 17 (.inr (.inl (0, 6, xfu (r.2 17) i v))) = hR h (xr_a r 17 i v) := rfl
theorem hR_c18 (h : xH) (r : xR) : xcell (hR h r) 1 18 = some (.inr (.inl (0, 12, r.2 18))) := rfl
theorem hR_p18 (h : xH) (r : xR) (i : Nat) (v : Int) : xput (hR h r) 1 18 (.inr (.inl (0, 12, xfu (r.2 18) i v))) = hR h (xr_a r 18 i v) := rfl
theorem hR_c19 (h : xH) (r : xR) : xcell (hR h r) 1 19 = some (.inr (.inl (0, 12, r.2 19))) := rfl
theorem hR_p19 (h : xH) (r : xR) (i : Nat) (v : Int) : xput (hR h r) 1 19 (.inr (.inl (0, 12, xfu (r.2 19) i v))) = hR h (xr_a r 19 i v) := rfl
theorem hR_c20 (h : xH) (r : xR) : xcell (hR h r) 1 20 = some (.inr (.inl (0, 232, r.2 20))) := rfl
theorem hR_p20 (h : xH) (r : xR) (i : Nat) (v : Int) : xput (hR h r) 1 20 (.inr (.inl (0, 232, xfu (r.2 20) i v))) = hR h (xr_a r 20 i v) := rfl
theorem hR_c21 (h : xH) (r : xR) : xcell (hR h r) 1 21 = some (.inr (.inl (4, 2, r.2 21))) := rfl
theorem hR_p21 (h : xH) (r : xR) (i : Nat) (v : Int) : xput (hR h r) 1 21 (.inr (.inl (4, 2, xfu (r.2 21) i v))) = hR h (xr_a r 21 i v) := rfl
theorem hR_c22 (h : xH) (r : xR) : xcell (hR h r) 1 22 = some (.inr (.inl (0, 2, r.2 22))) := rfl
theorem hR_p22 (h : xH) (r : xR) (i : Nat) (v : Int) : xput (hR h r) 1 22 (.inr (.inl (0, 2, xfu (r.2 22) i v))) = hR h (xr_a r 22 i v) := rfl
theorem hR_g0 (r : xR) : (xr_fs r)[0]? = some (.inr (.inr (.inl (1, 1)))) := rfl
theorem hR_g1 (r : xR) : (xr_fs r)[1]? = some (.inl (r.1 1)) := rfl
theorem hR_s1 (h : xH) (r : xR) (v : Int) : xput (hR h r) 1 0 (.inl (12, (xr_fs r).set 1 (.inl v))) = hR h (xr_i r 1 v) := rfl
theorem hR_g2 (r : xR) : (xr_fs r)[2]? = some (.inl (r.1 2)) := rfl
theorem hR_s2 (h : xH) (r : xR) (v : Int) : xput (hR h r) 1 0 (.inl (12, (xr_fs r).set 2 (.inl v))) = hR h (xr_i r 2 v) := rfl
theorem hR_g3 (r : xR) : (xr_fs r)[3]? = some (.inr (.inr (.inl (1, 2)))) := rfl
theorem hR_g4 (r : xR) : (xr_fs r)[4]? = some (.inr (.inr (.inl (1, 3)))) := rfl
theorem hR_g5 (r : xR) : (xr_fs r)[5]? = some (.inl (r.1 5)) := rfl
theorem hR_s5 (h : xH) (r : xR) (v : Int) : xput (hR h r) 1 0 (.inl (12, (xr_fs r).set 5 (.inl v))) = hR h (xr_i r 5 v) := rfl
theorem hR_g6 (r : xR) : (xr_fs r)[6]? = some (.inl (r.1 6)) := rfl
theorem hR_s6 (h : xH) (r : xR) (v : Int) : xput (hR h r) 1 0 (.inl (12, (xr_fs r).set 6 (.inl v))) = hR h (xr_i r 6 v) := rfl
theorem hR_g7 (r : xR) : (xr_fs r)[7]? = some (.inr (.inr (.inl (1, 4)))) := rfl
theorem hR_g8 (r : xR) : (xr_fs r)[8]? = some (.inl (r.1 8)) := rfl
theorem hR_s8 (h : xH) (r : xR) (v : Int) : xput (hR h r) 1 0 (.inl (12, (xr_fs r).set 8 (.inl v))) = hR h (xr_i r 8 v) := rfl
theorem hR_g9 (r : xR) : (xr_fs r)[9]? = some (.inr (.inr (.inl (1, 5)))) := rfl
theorem hR_g10 (r : xR) : (xr_fs r)[10]? = some (.inl (r.1 10)) := rfl
theorem hR_s10 (h : xH) (r : xR) (v : Int) : xput (hR h r) 1 0 (.inl (12, (xr_fs r).set 10 (.inl v))) = hR h (xr_i r 10 v) := rfl
theorem hR_g11 (r : xR) : (xr_fs r)[11]? = some (.inl (r.1 11)) := rfl
theorem hR_s11 (h : xH) (r : xR) (v : Int) : xput (hR h r) 1 0 (.inl (12, (xr_fs r).set 11 (.inl v))) = hR h (xr_i r 11 v) := rfl
theorem hR_g12 (r : xR) : (xr_fs r)[12]? = some (xr_read (r.1 12)) := rfl
theorem hR_g13 (r : xR) : (xr_fs r)[13]? = some (.inl (r.1 13)) := rfl
theorem hR_s13 (h : xH) (r : xR) (v : Int) : xput (hR h r) 1 0 (.inl (12, (xr_fs r).set 13 (.inl v))) = hR h (xr_i r 13 v) := rfl
theorem hR_g14 (r : xR) : (xr_fs r)[14]? = some (.inl (r.1 14)) := rfl
theorem hR_s14 (h : xH) (r : xR) (v : Int) : xput (hR h r) 1 0 (.inl (12, (xr_fs r).set 14 (.inl v))) = hR h (xr_i r 14 v) := rfl
theorem hR_g15 (r : xR) : (xr_fs r)[15]? = some (.inl (r.1 15)) := rfl
theorem hR_s15 (h : xH) (r : xR) (v : Int) : xput (hR h r) 1 0 (.inl (12, (xr_fs r).set 15 (.inl v))) = hR h (xr_i r 15 v) := rfl
theorem hR_g16 (r : xR) : (xr_fs r)[16]? = some (.inl (r.1 16)) := rfl
theorem hR_s16 (h : xH) (r : xR) (v : Int) : xput (hR h r) 1 0 (.inl (12, (xr_fs r).set 16 (.inl v))) = hR h (xr_i r 16 v) := rfl
theorem hR_g17 (r : xR) : (xr_fs r)[17]? = some (.inr (.inr (.inl (1, 6)))) := rfl
theorem hR_g18 (r : xR) : (xr_fs r)[18]? = some (.inr (.inr (.inl (1, 7)))) := rfl
theorem hR_g19 (r : xR) : (xr_fs r)[19]? = some (.inr (.inr (.inl (1, 8)))) := rfl
theorem hR_g20 (r : xR) : (xr_fs r)[20]? = some (.inl (r.1 20)) := rfl
theorem hR_s20 (h : xH) (r : xR) (v : Int) : xput (hR h r) 1 0 (.inl (12, (xr_fs r).set 20 (.inl v))) = hR h (xr_i r 20 v) := rfl
theorem hR_g21 (r : xR) : (xr_fs r)[21]? = some (.inl (r.1 21)) := rfl
theorem hR_s21 (h : xH) (r : xR) (v : Int) : xput (hR h r) 1 0 (.inl (12, (xr_fs r).set 21 (.inl v))) = hR h (xr_i r 21 v) := rfl
theorem hR_g22 (r : xR) : (xr_fs r)[22]? = some (.inr (.inr (.inl (1, 9)))) := rfl
theorem hR_g23 (r : xR) : (xr_fs r)[23]? = some (.inl (r.1 23)) := rfl
theorem hR_s23 (h : xH) (r : xR) (v : Int) : xput (hR h r) 1 0 (.inl (12, (xr_fs r).set 23 (.inl v))) = hR h (xr_i r 23 v) := rfl
theorem hR_g24 (r : xR) : (xr_fs r)[24]? = some (.inl (r.1 24)) := rfl
theorem hR_s24 (h : xH) (r : xR) (v : Int) : xput (hR h r) 1 0 (.inl (12, (xr_fs r).set 24 (.inl v))) = hR h (xr_i r 24 v) := rfl
theorem hR_g25 (r : xR) : (xr_fs r)[25]? = some (.inl (r.1 25)) := rfl
theorem hR_s25 (h : xH) (r : xR) (v : Int) : xput (hR h r) 1 0 (.inl (12, (xr_fs r).set 25 (.inl v))) = hR h (xr_i r 25 v) := rfl
theorem hR_g26 (r : xR) : (xr_fs r)[26]? = some (.inr (.inr (.inl (1, 10)))) := rfl
theorem hR_g27 (r : xR) : (xr_fs r)[27]? = some (.inr (.inr (.inl (1, 11)))) := rfl
theorem hR_g28 (r : xR) : (xr_fs r)[28]? = some (.inl (r.1 28)) := rfl
theorem hR_s28 (h : xH) (r : xR) (v : Int) : xput (hR h r) 1 0 (.inl (12, (xr_fs r).set 28 (.inl v))) = hR h (xr_i r 28 v) := rfl
theorem hR_g29 (r : xR) : (xr_fs r)[29]? = some (.inr (.inr (.inl (1, 12)))) := rfl
theorem hR_g30 (r : xR) : (xr_fs r)[30]? = some (.inl (r.1 30)) := rfl
theorem hR_s30 (h : xH) (r : xR) (v : Int) : xput (hR h r) 1 0 (.inl (12, (xr_fs r).set 30 (.inl v))) = hR h (xr_i r 30 v) := rfl
theorem hR_g31 (r : xR) : (xr_fs r)[31]? = some (.inl (r.1 31)) := rfl
theorem hR_s31 (h : xH) (r : xR) (v : Int) : xput (hR h r) 1 0 (.inl (12, (xr_fs r).set 31 (.inl v))) = hR h (xr_i r 31 v) := rfl
theorem hR_g32 (r : xR) : (xr_fs r)[32]? = some (.inl (r.1 32)) := rfl
theorem hR_s32 (h : xH) (r : xR) (v : Int) : xput (hR h r) 1 0 (.inl (12, (xr_fs r).set 32 (.inl v))) = hR h (xr_i r 32 v) := rfl
theorem hR_g33 (r : xR) : (xr_fs r)[33]? = some (.inl (r.1 33)) := rfl
theorem hR_s33 (h : xH) (r : xR) (v : Int) : xput (hR h r) 1 0 (.inl (12, (xr_fs r).set 33 (.inl v))) = hR h (xr_i r 33 v) := rfl
theorem hR_g34 (r : xR) : (xr_fs r)[34]? = some (.inr (.inr (.inl (1, 13)))) := rfl
theorem hR_g35 (r : xR) : (xr_fs r)[35]? = some (.inr (.inr (.inl (1, 14)))) := rfl
theorem hR_g36 (r : xR) : (xr_fs r)[36]? = some (.inr (.inr (.inl (1, 15)))) := rfl
theorem hR_g37 (r : xR) : (xr_fs r)[37]? = some (.inr (.inr (.inl (1, 16)))) := rfl
theorem hR_g38 (r : xR) : (xr_fs r)[38]? = some (.inr (.inr (.inl (1, 17)))) := rfl
theorem hR_g39 (r : xR) : (xr_fs r)[39]? = some (.inr (.inl (r.1 39))) := rfl
theorem hR_s39 (h : xH) (r : xR) (v : Int) : xput (hR h r) 1 0 (.inl (12, (xr_fs r).set 39 (.inr (.inl v)))) = hR h (xr_i r 39 v) := rfl
theorem hR_g40 (r : xR) : (xr_fs r)[40]? = some (.inr (.inr (.inl (1, 18)))) := rfl
theorem hR_g41 (r : xR) : (xr_fs r)[41]? = some (.inr (.inr (.inl (1, 19)))) := rfl
theorem hR_g42 (r : xR) : (xr_fs r)[42]? = some (.inl (r.1 42)) := rfl
theorem hR_s42 (h : xH) (r : xR) (v : Int) : xput (hR h r) 1 0 (.inl (12, (xr_fs r).set 42 (.inl v))) = hR h (xr_i r 42 v) := rfl
theorem hR_g43 (r : xR) : (xr_fs r)[43]? = some (.inl (r.1 43)) := rfl
theorem hR_s43 (h : xH) (r : xR) (v : Int) : xput (hR h r) 1 0 (.inl (12, (xr_fs r).set 43 (.inl v))) = hR h (xr_i r 43 v) := rfl
theorem hR_g44 (r : xR) : (xr_fs r)[44]? = some (.inl (r.1 44)) := rfl
theorem hR_s44 (h : xH) (r : xR) (v : Int) : xput (hR h r) 1 0 (.inl (12, (xr_fs r).set 44 (.inl v))) = hR h (xr_i r 44 v) := rfl
theorem hR_g45 (r : xR) : (xr_fs r)[45]? = some (.inr (.inr (.inl (1, 20)))) := rfl
theorem hR_g46 (r : xR) : (xr_fs r)[46]? = some (.inr (.inr (.inl (1, 21)))) := rfl
theorem hR_g47 (r : xR) : (xr_fs r)[47]? = some (.inr (.inr (.inl (1, 22)))) := rfl
theorem xr_len (r : xR) : (xr_fs r).length = 48 := rfl
