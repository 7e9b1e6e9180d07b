/-! ===== each method by its number ===== -/
theorem gg_s (n mi : Nat) : gg (n + 1) mi = ((xB.getD mi xB0).1, (xB.getD mi xB0).2 (gg n)) := rfl
theorem gg_f (n mi : Nat) : (gg n mi).1 = (xB.getD mi xB0).1 := by cases n <;> rfl
theorem x_gdr {A B : List xBt} {n : Nat} (hn : A.length = n) (j : Nat) : (A ++ B).getD (n + j) xB0 = B.getD j xB0 := by
  rw [List.getD_eq_getElem?_getD, List.getD_eq_getElem?_getD, List.getElem?_append_right (by omega), show n + j - A.length = j by omega]
theorem x_gdl {A B : List xBt} {j : Nat} (hj : j < A.length) : (A ++ B).getD j xB0 = A.getD j xB0 := by
  rw [List.getD_eq_getElem?_getD, List.getD_eq_getElem?_getD, List.getElem?_append_left hj]
theorem xBl0 : xB_0.length = 40 := rfl
theorem xBl1 : xB_1.length = 40 := rfl
theorem xBl2 : xB_2.length = 40 := rfl
theorem xBl3 : xB_3.length = 40 := rfl
theorem xBl4 : xB_4.length = 40 := rfl
theorem xBl5 : xB_5.length = 40 := rfl
theorem xBl6 : xB_6.length = 40 := rfl
theorem xBl7 : xB_7.length = 4 := rfl
theorem xBk0 {j : Nat} (hj : j < 40) : xB.getD (0 + j) xB0 = xB_0.getD j xB0 := by
  unfold xB
  rw [Nat.zero_add]
  rw [x_gdl (by rw [xBl0]; exact hj)]
theorem xBk1 {j : Nat} (hj : j < 40) : xB.getD (40 + j) xB0 = xB_1.getD j xB0 := by
  unfold xB
  rw [show 40 + j = 40 + (0 + j) by omega, x_gdr xBl0]
  rw [Nat.zero_add]
  rw [x_gdl (by rw [xBl1]; exact hj)]
theorem xBk2 {j : Nat} (hj : j < 40) : xB.getD (80 + j) xB0 = xB_2.getD j xB0 := by
  unfold xB
  rw [show 80 + j = 40 + (40 + j) by omega, x_gdr xBl0]
  rw [show 40 + j = 40 + (0 + j) by omega, x_gdr xBl1]
  rw [Nat.zero_add]
  rw [x_gdl (by rw [xBl2]; exact hj)]
theorem xBk3 {j : Nat} (hj : j < 40) : xB.getD (120 + j) xB0 = xB_3.getD j xB0 := by
  unfold xB
  rw [show 120 + j = 40 + (80 + j) by omega, x_gdr xBl0]
  rw [show 80 + j = 40 + (40 + j) by omega, x_gdr xBl1]
  rw [show 40 + j = 40 + (0 + j) by omega, x_gdr xBl2]
  rw [Nat.zero_add]
  rw [x_gdl (by rw [xBl3]; exact hj)]
theorem xBk4 {j : Nat} (hj : j < 40) : xB.getD (160 + j) xB0 = xB_4.getD j xB0 := by
  unfold xB
  rw [show 160 + j = 40 + (120 + j) by omega, x_gdr xBl0]
  rw [show 120 + j = 40 + (80 + j) by omega, x_gdr xBl1]
  rw [show 80 + j = 40 + (40 + j) by omega, x_gdr xBl2]
  rw [show 40 + j = 40 + (0 + j) by omega, x_gdr xBl3]
  rw [Nat.zero_add]
  rw [x_gdl (by rw [xBl4]; exact hj)]
theorem xBk5 {j : Nat} (hj : j < 40) : xB.getD (200 + j) xB0 = xB_5.getD j xB0 := by
  unfold xB
  rw [show 200 + j = 40 + (160 + j) by omega, x_gdr xBl0]
  rw [show 160 + j = 40 + (120 + j) by omega, x_gdr xBl1]
  rw [show 120 + j = 40 + (80 + j) by omega, x_gdr xBl2]
  rw [show 80 + j = 40 + (40 + j) by omega, x_gdr xBl3]
  rw [show 40 + j = 40 + (0 + j) by omega, x_gdr xBl4]
  rw [Nat.zero_add]
  rw [x_gdl (by rw [xBl5]; exact hj)]
theorem xBk6 {j : Nat} (hj : j < 40) : xB.getD (240 + j) xB0 = xB_6.getD j xB0 := by
  unfold xB
  rw [show 240 + j = 40 + (200 + j) by omega, x_gdr xBl0]
  rw [show 200 + j = 40 + (160 + j) by omega, x_gdr xBl1]
  rw [show 160 + j = 40 + (120 + j) by omega, x_gdr xBl2]
  rw [show 120 + j = 40 + (80 + j) by omega, x_gdr xBl3]
  rw [show 80 + j = 40 + (40 + j) by omega, x_gdr xBl4]
  rw [show 40 + j = 40 + (0 + j) by omega, x_gdr xBl5]
  rw [Nat.zero_add]
  rw [x_gdl (by rw [xBl6]; exact hj)]
theorem xBk7 {j : Nat} (hj : j < 4) : xB.getD (280 + j) xB0 = xB_7.getD j xB0 := by
  unfold xB
  rw [show 280 + j = 40 + (240 + j) by omega, x_gdr xBl0]
  rw [show 240 + j = 40 + (200 + j) by omega, x_gdr xBl1]
  rw [show 200 + j = 40 + (160 + j) by omega, x_gdr xBl2]
  rw [show 160 + j = 40 + (120 + j) by omega, x_gdr xBl3]
  rw [show 120 + j = 40 + (80 + j) by omega, x_gdr xBl4]
  rw [show 80 + j = 40 + (40 + j) by omega, x_gdr xBl5]
  rw [show 40 + j = 40 + (0 + j) by omega, x_gdr xBl6]
  rw [Nat.zero_add]
theorem gB0 : xB.getD 0 xB0 = (1, fun G => x_run 1 (fX0_init G)) := (xBk0 (j := 0) (by decide)).trans rfl
theorem ga0 (n : Nat) : (gg n 0).1 = 1 := by rw [gg_f, gB0]
theorem gb0 (n : Nat) : (gg (n + 1) 0).2 = x_run 1 (fX0_init (gg n)) := by rw [gg_s, gB0]
theorem gB1 : xB.getD 1 xB0 = (2, fun G => x_run 2 (fX0_copyFrom G)) := (xBk0 (j := 1) (by decide)).trans rfl
theorem ga1 (n : Nat) : (gg n 1).1 = 2 := by rw [gg_f, gB1]
theorem gb1 (n : Nat) : (gg (n + 1) 1).2 = x_run 2 (fX0_copyFrom (gg n)) := by rw [gg_s, gB1]
theorem gB2 : xB.getD 2 xB0 = (2, fun G => x_run 2 (fX0_readLine G)) := (xBk0 (j := 2) (by decide)).trans rfl
theorem ga2 (n : Nat) : (gg n 2).1 = 2 := by rw [gg_f, gB2]
theorem gb2 (n : Nat) : (gg (n + 1) 2).2 = x_run 2 (fX0_readLine (gg n)) := by rw [gg_s, gB2]
theorem gB3 : xB.getD 3 xB0 = (2, fun G => x_run 2 (fX0_readCourse G)) := (xBk0 (j := 3) (by decide)).trans rfl
theorem ga3 (n : Nat) : (gg n 3).1 = 2 := by rw [gg_f, gB3]
theorem gb3 (n : Nat) : (gg (n + 1) 3).2 = x_run 2 (fX0_readCourse (gg n)) := by rw [gg_s, gB3]
theorem gB4 : xB.getD 4 xB0 = (1, fun G => x_run 1 (fX0_sail G)) := (xBk0 (j := 4) (by decide)).trans rfl
theorem ga4 (n : Nat) : (gg n 4).1 = 1 := by rw [gg_f, gB4]
theorem gb4 (n : Nat) : (gg (n + 1) 4).2 = x_run 1 (fX0_sail (gg n)) := by rw [gg_s, gB4]
theorem gB5 : xB.getD 5 xB0 = (1, fun G => x_run 1 (fX1_init G)) := (xBk0 (j := 5) (by decide)).trans rfl
theorem ga5 (n : Nat) : (gg n 5).1 = 1 := by rw [gg_f, gB5]
theorem gb5 (n : Nat) : (gg (n + 1) 5).2 = x_run 1 (fX1_init (gg n)) := by rw [gg_s, gB5]
theorem gB6 : xB.getD 6 xB0 = (2, fun G => x_run 3 (fX1_read G)) := (xBk0 (j := 6) (by decide)).trans rfl
theorem ga6 (n : Nat) : (gg n 6).1 = 2 := by rw [gg_f, gB6]
theorem gb6 (n : Nat) : (gg (n + 1) 6).2 = x_run 3 (fX1_read (gg n)) := by rw [gg_s, gB6]
theorem gB7 : xB.getD 7 xB0 = (2, fun G => x_run 3 (fX1_readAct G)) := (xBk0 (j := 7) (by decide)).trans rfl
theorem ga7 (n : Nat) : (gg n 7).1 = 2 := by rw [gg_f, gB7]
theorem gb7 (n : Nat) : (gg (n + 1) 7).2 = x_run 3 (fX1_readAct (gg n)) := by rw [gg_s, gB7]
theorem gB8 : xB.getD 8 xB0 = (1, fun G => x_run 1 (fX2_init G)) := (xBk0 (j := 8) (by decide)).trans rfl
theorem ga8 (n : Nat) : (gg n 8).1 = 1 := by rw [gg_f, gB8]
theorem gb8 (n : Nat) : (gg (n + 1) 8).2 = x_run 1 (fX2_init (gg n)) := by rw [gg_s, gB8]
theorem gB9 : xB.getD 9 xB0 = (2, fun G => x_run 2 (fX2_start G)) := (xBk0 (j := 9) (by decide)).trans rfl
theorem ga9 (n : Nat) : (gg n 9).1 = 2 := by rw [gg_f, gB9]
theorem gb9 (n : Nat) : (gg (n + 1) 9).2 = x_run 2 (fX2_start (gg n)) := by rw [gg_s, gB9]
theorem gB10 : xB.getD 10 xB0 = (2, fun G => x_run 2 (fX2_next G)) := (xBk0 (j := 10) (by decide)).trans rfl
theorem ga10 (n : Nat) : (gg n 10).1 = 2 := by rw [gg_f, gB10]
theorem gb10 (n : Nat) : (gg (n + 1) 10).2 = x_run 2 (fX2_next (gg n)) := by rw [gg_s, gB10]
theorem gB11 : xB.getD 11 xB0 = (1, fun G => x_run 1 (fX3_init G)) := (xBk0 (j := 11) (by decide)).trans rfl
theorem ga11 (n : Nat) : (gg n 11).1 = 1 := by rw [gg_f, gB11]
theorem gb11 (n : Nat) : (gg (n + 1) 11).2 = x_run 1 (fX3_init (gg n)) := by rw [gg_s, gB11]
theorem gB12 : xB.getD 12 xB0 = (2, fun G => x_run 2 (fX3_copyFrom G)) := (xBk0 (j := 12) (by decide)).trans rfl
theorem ga12 (n : Nat) : (gg n 12).1 = 2 := by rw [gg_f, gB12]
theorem gb12 (n : Nat) : (gg (n + 1) 12).2 = x_run 2 (fX3_copyFrom (gg n)) := by rw [gg_s, gB12]
theorem gB13 : xB.getD 13 xB0 = (4, fun G => x_run 4 (fX3_hatch G)) := (xBk0 (j := 13) (by decide)).trans rfl
theorem ga13 (n : Nat) : (gg n 13).1 = 4 := by rw [gg_f, gB13]
theorem gb13 (n : Nat) : (gg (n + 1) 13).2 = x_run 4 (fX3_hatch (gg n)) := by rw [gg_s, gB13]
theorem gB14 : xB.getD 14 xB0 = (1, fun G => x_run 1 (fX3_restAshore G)) := (xBk0 (j := 14) (by decide)).trans rfl
theorem ga14 (n : Nat) : (gg n 14).1 = 1 := by rw [gg_f, gB14]
theorem gb14 (n : Nat) : (gg (n + 1) 14).2 = x_run 1 (fX3_restAshore (gg n)) := by rw [gg_s, gB14]
theorem gB15 : xB.getD 15 xB0 = (4, fun G => x_run 6 (fX3_flyTowards G)) := (xBk0 (j := 15) (by decide)).trans rfl
theorem ga15 (n : Nat) : (gg n 15).1 = 4 := by rw [gg_f, gB15]
theorem gb15 (n : Nat) : (gg (n + 1) 15).2 = x_run 6 (fX3_flyTowards (gg n)) := by rw [gg_s, gB15]
theorem gB16 : xB.getD 16 xB0 = (2, fun G => x_run 3 (fX4_init G)) := (xBk0 (j := 16) (by decide)).trans rfl
theorem ga16 (n : Nat) : (gg n 16).1 = 2 := by rw [gg_f, gB16]
theorem gb16 (n : Nat) : (gg (n + 1) 16).2 = x_run 3 (fX4_init (gg n)) := by rw [gg_s, gB16]
theorem gB17 : xB.getD 17 xB0 = (1, fun G => x_run 1 (fX4_size G)) := (xBk0 (j := 17) (by decide)).trans rfl
theorem ga17 (n : Nat) : (gg n 17).1 = 1 := by rw [gg_f, gB17]
theorem gb17 (n : Nat) : (gg (n + 1) 17).2 = x_run 1 (fX4_size (gg n)) := by rw [gg_s, gB17]
theorem gB18 : xB.getD 18 xB0 = (1, fun G => x_run 1 (fX4_forget G)) := (xBk0 (j := 18) (by decide)).trans rfl
theorem ga18 (n : Nat) : (gg n 18).1 = 1 := by rw [gg_f, gB18]
theorem gb18 (n : Nat) : (gg (n + 1) 18).2 = x_run 1 (fX4_forget (gg n)) := by rw [gg_s, gB18]
theorem gB19 : xB.getD 19 xB0 = (2, fun G => x_run 2 (fX4_mark G)) := (xBk0 (j := 19) (by decide)).trans rfl
theorem ga19 (n : Nat) : (gg n 19).1 = 2 := by rw [gg_f, gB19]
theorem gb19 (n : Nat) : (gg (n + 1) 19).2 = x_run 2 (fX4_mark (gg n)) := by rw [gg_s, gB19]
theorem gB20 : xB.getD 20 xB0 = (1, fun G => x_run 1 (fX4_hold G)) := (xBk0 (j := 20) (by decide)).trans rfl
theorem ga20 (n : Nat) : (gg n 20).1 = 1 := by rw [gg_f, gB20]
theorem gb20 (n : Nat) : (gg (n + 1) 20).2 = x_run 1 (fX4_hold (gg n)) := by rw [gg_s, gB20]
theorem gB21 : xB.getD 21 xB0 = (2, fun G => x_run 2 (fX4_back G)) := (xBk0 (j := 21) (by decide)).trans rfl
theorem ga21 (n : Nat) : (gg n 21).1 = 2 := by rw [gg_f, gB21]
theorem gb21 (n : Nat) : (gg (n + 1) 21).2 = x_run 2 (fX4_back (gg n)) := by rw [gg_s, gB21]
theorem gB22 : xB.getD 22 xB0 = (1, fun G => x_run 1 (fX5_init G)) := (xBk0 (j := 22) (by decide)).trans rfl
theorem ga22 (n : Nat) : (gg n 22).1 = 1 := by rw [gg_f, gB22]
theorem gb22 (n : Nat) : (gg (n + 1) 22).2 = x_run 1 (fX5_init (gg n)) := by rw [gg_s, gB22]
theorem gB23 : xB.getD 23 xB0 = (2, fun G => x_run 2 (fX5_copyFrom G)) := (xBk0 (j := 23) (by decide)).trans rfl
theorem ga23 (n : Nat) : (gg n 23).1 = 2 := by rw [gg_f, gB23]
theorem gb23 (n : Nat) : (gg (n + 1) 23).2 = x_run 2 (fX5_copyFrom (gg n)) := by rw [gg_s, gB23]
theorem gB24 : xB.getD 24 xB0 = (3, fun G => x_run 3 (fX5_put G)) := (xBk0 (j := 24) (by decide)).trans rfl
theorem ga24 (n : Nat) : (gg n 24).1 = 3 := by rw [gg_f, gB24]
theorem gb24 (n : Nat) : (gg (n + 1) 24).2 = x_run 3 (fX5_put (gg n)) := by rw [gg_s, gB24]
theorem gB25 : xB.getD 25 xB0 = (1, fun G => x_run 1 (fX5_isHome G)) := (xBk0 (j := 25) (by decide)).trans rfl
theorem ga25 (n : Nat) : (gg n 25).1 = 1 := by rw [gg_f, gB25]
theorem gb25 (n : Nat) : (gg (n + 1) 25).2 = x_run 1 (fX5_isHome (gg n)) := by rw [gg_s, gB25]
theorem gB26 : xB.getD 26 xB0 = (1, fun G => x_run 1 (fX6_init G)) := (xBk0 (j := 26) (by decide)).trans rfl
theorem ga26 (n : Nat) : (gg n 26).1 = 1 := by rw [gg_f, gB26]
theorem gb26 (n : Nat) : (gg (n + 1) 26).2 = x_run 1 (fX6_init (gg n)) := by rw [gg_s, gB26]
theorem gB27 : xB.getD 27 xB0 = (2, fun G => x_run 3 (fX6_read G)) := (xBk0 (j := 27) (by decide)).trans rfl
theorem ga27 (n : Nat) : (gg n 27).1 = 2 := by rw [gg_f, gB27]
theorem gb27 (n : Nat) : (gg (n + 1) 27).2 = x_run 3 (fX6_read (gg n)) := by rw [gg_s, gB27]
theorem gB28 : xB.getD 28 xB0 = (3, fun G => x_run 4 (fX6_readComparison G)) := (xBk0 (j := 28) (by decide)).trans rfl
theorem ga28 (n : Nat) : (gg n 28).1 = 3 := by rw [gg_f, gB28]
theorem gb28 (n : Nat) : (gg (n + 1) 28).2 = x_run 4 (fX6_readComparison (gg n)) := by rw [gg_s, gB28]
theorem gB29 : xB.getD 29 xB0 = (3, fun G => x_run 5 (fX6_readSum G)) := (xBk0 (j := 29) (by decide)).trans rfl
theorem ga29 (n : Nat) : (gg n 29).1 = 3 := by rw [gg_f, gB29]
theorem gb29 (n : Nat) : (gg (n + 1) 29).2 = x_run 5 (fX6_readSum (gg n)) := by rw [gg_s, gB29]
theorem gB30 : xB.getD 30 xB0 = (3, fun G => x_run 5 (fX6_readProduct G)) := (xBk0 (j := 30) (by decide)).trans rfl
theorem ga30 (n : Nat) : (gg n 30).1 = 3 := by rw [gg_f, gB30]
theorem gb30 (n : Nat) : (gg (n + 1) 30).2 = x_run 5 (fX6_readProduct (gg n)) := by rw [gg_s, gB30]
theorem gB31 : xB.getD 31 xB0 = (3, fun G => x_run 5 (fX6_readFactor G)) := (xBk0 (j := 31) (by decide)).trans rfl
theorem ga31 (n : Nat) : (gg n 31).1 = 3 := by rw [gg_f, gB31]
theorem gb31 (n : Nat) : (gg (n + 1) 31).2 = x_run 5 (fX6_readFactor (gg n)) := by rw [gg_s, gB31]
theorem gB32 : xB.getD 32 xB0 = (3, fun G => x_run 6 (fX6_readThing G)) := (xBk0 (j := 32) (by decide)).trans rfl
theorem ga32 (n : Nat) : (gg n 32).1 = 3 := by rw [gg_f, gB32]
theorem gb32 (n : Nat) : (gg (n + 1) 32).2 = x_run 6 (fX6_readThing (gg n)) := by rw [gg_s, gB32]
theorem gB33 : xB.getD 33 xB0 = (2, fun G => x_run 2 (fX6_put G)) := (xBk0 (j := 33) (by decide)).trans rfl
theorem ga33 (n : Nat) : (gg n 33).1 = 2 := by rw [gg_f, gB33]
theorem gb33 (n : Nat) : (gg (n + 1) 33).2 = x_run 2 (fX6_put (gg n)) := by rw [gg_s, gB33]
theorem gB34 : xB.getD 34 xB0 = (2, fun G => x_run 3 (fX6_reckon G)) := (xBk0 (j := 34) (by decide)).trans rfl
theorem ga34 (n : Nat) : (gg n 34).1 = 2 := by rw [gg_f, gB34]
theorem gb34 (n : Nat) : (gg (n + 1) 34).2 = x_run 3 (fX6_reckon (gg n)) := by rw [gg_s, gB34]
theorem gB35 : xB.getD 35 xB0 = (2, fun G => x_run 6 (fX6_run G)) := (xBk0 (j := 35) (by decide)).trans rfl
theorem ga35 (n : Nat) : (gg n 35).1 = 2 := by rw [gg_f, gB35]
theorem gb35 (n : Nat) : (gg (n + 1) 35).2 = x_run 6 (fX6_run (gg n)) := by rw [gg_s, gB35]
theorem gB36 : xB.getD 36 xB0 = (3, fun G => x_run 3 (fX6_join G)) := (xBk0 (j := 36) (by decide)).trans rfl
theorem ga36 (n : Nat) : (gg n 36).1 = 3 := by rw [gg_f, gB36]
theorem gb36 (n : Nat) : (gg (n + 1) 36).2 = x_run 3 (fX6_join (gg n)) := by rw [gg_s, gB36]
theorem gB37 : xB.getD 37 xB0 = (2, fun G => x_run 3 (fX7_init G)) := (xBk0 (j := 37) (by decide)).trans rfl
theorem ga37 (n : Nat) : (gg n 37).1 = 2 := by rw [gg_f, gB37]
theorem gb37 (n : Nat) : (gg (n + 1) 37).2 = x_run 3 (fX7_init (gg n)) := by rw [gg_s, gB37]
theorem gB38 : xB.getD 38 xB0 = (2, fun G => x_run 3 (fX7_copyFrom G)) := (xBk0 (j := 38) (by decide)).trans rfl
theorem ga38 (n : Nat) : (gg n 38).1 = 2 := by rw [gg_f, gB38]
theorem gb38 (n : Nat) : (gg (n + 1) 38).2 = x_run 3 (fX7_copyFrom (gg n)) := by rw [gg_s, gB38]
theorem gB39 : xB.getD 39 xB0 = (1, fun G => x_run 1 (fX7_clearTally G)) := (xBk0 (j := 39) (by decide)).trans rfl
theorem ga39 (n : Nat) : (gg n 39).1 = 1 := by rw [gg_f, gB39]
theorem gb39 (n : Nat) : (gg (n + 1) 39).2 = x_run 1 (fX7_clearTally (gg n)) := by rw [gg_s, gB39]
theorem gB40 : xB.getD 40 xB0 = (2, fun G => x_run 2 (fX7_hasBoat G)) := (xBk1 (j := 0) (by decide)).trans rfl
theorem ga40 (n : Nat) : (gg n 40).1 = 2 := by rw [gg_f, gB40]
theorem gb40 (n : Nat) : (gg (n + 1) 40).2 = x_run 2 (fX7_hasBoat (gg n)) := by rw [gg_s, gB40]
theorem gB41 : xB.getD 41 xB0 = (2, fun G => x_run 2 (fX7_hasGull G)) := (xBk1 (j := 1) (by decide)).trans rfl
theorem ga41 (n : Nat) : (gg n 41).1 = 2 := by rw [gg_f, gB41]
theorem gb41 (n : Nat) : (gg (n + 1) 41).2 = x_run 2 (fX7_hasGull (gg n)) := by rw [gg_s, gB41]
theorem gB42 : xB.getD 42 xB0 = (2, fun G => x_run 2 (fX7_hasLetter G)) := (xBk1 (j := 2) (by decide)).trans rfl
theorem ga42 (n : Nat) : (gg n 42).1 = 2 := by rw [gg_f, gB42]
theorem gb42 (n : Nat) : (gg (n + 1) 42).2 = x_run 2 (fX7_hasLetter (gg n)) := by rw [gg_s, gB42]
theorem gB43 : xB.getD 43 xB0 = (3, fun G => x_run 3 (fX7_isGull G)) := (xBk1 (j := 3) (by decide)).trans rfl
theorem ga43 (n : Nat) : (gg n 43).1 = 3 := by rw [gg_f, gB43]
theorem gb43 (n : Nat) : (gg (n + 1) 43).2 = x_run 3 (fX7_isGull (gg n)) := by rw [gg_s, gB43]
theorem gB44 : xB.getD 44 xB0 = (2, fun G => x_run 4 (fX7_gullsThat G)) := (xBk1 (j := 4) (by decide)).trans rfl
theorem ga44 (n : Nat) : (gg n 44).1 = 2 := by rw [gg_f, gB44]
theorem gb44 (n : Nat) : (gg (n + 1) 44).2 = x_run 4 (fX7_gullsThat (gg n)) := by rw [gg_s, gB44]
theorem gB45 : xB.getD 45 xB0 = (2, fun G => x_run 4 (fX7_livingGullsOf G)) := (xBk1 (j := 5) (by decide)).trans rfl
theorem ga45 (n : Nat) : (gg n 45).1 = 2 := by rw [gg_f, gB45]
theorem gb45 (n : Nat) : (gg (n + 1) 45).2 = x_run 4 (fX7_livingGullsOf (gg n)) := by rw [gg_s, gB45]
theorem gB46 : xB.getD 46 xB0 = (2, fun G => x_run 4 (fX7_lettersAt G)) := (xBk1 (j := 6) (by decide)).trans rfl
theorem ga46 (n : Nat) : (gg n 46).1 = 2 := by rw [gg_f, gB46]
theorem gb46 (n : Nat) : (gg (n + 1) 46).2 = x_run 4 (fX7_lettersAt (gg n)) := by rw [gg_s, gB46]
theorem gB47 : xB.getD 47 xB0 = (2, fun G => x_run 4 (fX7_lettersOnDeckOf G)) := (xBk1 (j := 7) (by decide)).trans rfl
theorem ga47 (n : Nat) : (gg n 47).1 = 2 := by rw [gg_f, gB47]
theorem gb47 (n : Nat) : (gg (n + 1) 47).2 = x_run 4 (fX7_lettersOnDeckOf (gg n)) := by rw [gg_s, gB47]
theorem gB48 : xB.getD 48 xB0 = (5, fun G => x_run 9 (fX7_hungerBySheet G)) := (xBk1 (j := 8) (by decide)).trans rfl
theorem ga48 (n : Nat) : (gg n 48).1 = 5 := by rw [gg_f, gB48]
theorem gb48 (n : Nat) : (gg (n + 1) 48).2 = x_run 9 (fX7_hungerBySheet (gg n)) := by rw [gg_s, gB48]
theorem gB49 : xB.getD 49 xB0 = (2, fun G => x_run 2 (fX7_narrowed G)) := (xBk1 (j := 9) (by decide)).trans rfl
theorem ga49 (n : Nat) : (gg n 49).1 = 2 := by rw [gg_f, gB49]
theorem gb49 (n : Nat) : (gg (n + 1) 49).2 = x_run 2 (fX7_narrowed (gg n)) := by rw [gg_s, gB49]
theorem gB50 : xB.getD 50 xB0 = (2, fun G => x_run 3 (fX7_addLetter G)) := (xBk1 (j := 10) (by decide)).trans rfl
theorem ga50 (n : Nat) : (gg n 50).1 = 2 := by rw [gg_f, gB50]
theorem gb50 (n : Nat) : (gg (n + 1) 50).2 = x_run 3 (fX7_addLetter (gg n)) := by rw [gg_s, gB50]
theorem gB51 : xB.getD 51 xB0 = (3, fun G => x_run 4 (fX7_sendOut G)) := (xBk1 (j := 11) (by decide)).trans rfl
theorem ga51 (n : Nat) : (gg n 51).1 = 3 := by rw [gg_f, gB51]
theorem gb51 (n : Nat) : (gg (n + 1) 51).2 = x_run 4 (fX7_sendOut (gg n)) := by rw [gg_s, gB51]
theorem gB52 : xB.getD 52 xB0 = (3, fun G => x_run 4 (fX7_repaint G)) := (xBk1 (j := 12) (by decide)).trans rfl
theorem ga52 (n : Nat) : (gg n 52).1 = 3 := by rw [gg_f, gB52]
theorem gb52 (n : Nat) : (gg (n + 1) 52).2 = x_run 4 (fX7_repaint (gg n)) := by rw [gg_s, gB52]
theorem gB53 : xB.getD 53 xB0 = (2, fun G => x_run 2 (fX7_learn G)) := (xBk1 (j := 13) (by decide)).trans rfl
theorem ga53 (n : Nat) : (gg n 53).1 = 2 := by rw [gg_f, gB53]
theorem gb53 (n : Nat) : (gg (n + 1) 53).2 = x_run 2 (fX7_learn (gg n)) := by rw [gg_s, gB53]
theorem gB54 : xB.getD 54 xB0 = (3, fun G => x_run 4 (fX7_putChum G)) := (xBk1 (j := 14) (by decide)).trans rfl
theorem ga54 (n : Nat) : (gg n 54).1 = 3 := by rw [gg_f, gB54]
theorem gb54 (n : Nat) : (gg (n + 1) 54).2 = x_run 4 (fX7_putChum (gg n)) := by rw [gg_s, gB54]
theorem gB55 : xB.getD 55 xB0 = (2, fun G => x_run 2 (fX7_turnChum G)) := (xBk1 (j := 15) (by decide)).trans rfl
theorem ga55 (n : Nat) : (gg n 55).1 = 2 := by rw [gg_f, gB55]
theorem gb55 (n : Nat) : (gg (n + 1) 55).2 = x_run 2 (fX7_turnChum (gg n)) := by rw [gg_s, gB55]
theorem gB56 : xB.getD 56 xB0 = (2, fun G => x_run 3 (fX7_chumAloneBy G)) := (xBk1 (j := 16) (by decide)).trans rfl
theorem ga56 (n : Nat) : (gg n 56).1 = 2 := by rw [gg_f, gB56]
theorem gb56 (n : Nat) : (gg (n + 1) 56).2 = x_run 3 (fX7_chumAloneBy (gg n)) := by rw [gg_s, gB56]
theorem gB57 : xB.getD 57 xB0 = (2, fun G => x_run 3 (fX7_fill G)) := (xBk1 (j := 17) (by decide)).trans rfl
theorem ga57 (n : Nat) : (gg n 57).1 = 2 := by rw [gg_f, gB57]
theorem gb57 (n : Nat) : (gg (n + 1) 57).2 = x_run 3 (fX7_fill (gg n)) := by rw [gg_s, gB57]
theorem gB58 : xB.getD 58 xB0 = (2, fun G => x_run 4 (fX7_pass G)) := (xBk1 (j := 18) (by decide)).trans rfl
theorem ga58 (n : Nat) : (gg n 58).1 = 2 := by rw [gg_f, gB58]
theorem gb58 (n : Nat) : (gg (n + 1) 58).2 = x_run 4 (fX7_pass (gg n)) := by rw [gg_s, gB58]
theorem gB59 : xB.getD 59 xB0 = (2, fun G => x_run 3 (fX7_flyToDeck G)) := (xBk1 (j := 19) (by decide)).trans rfl
theorem ga59 (n : Nat) : (gg n 59).1 = 2 := by rw [gg_f, gB59]
theorem gb59 (n : Nat) : (gg (n + 1) 59).2 = x_run 3 (fX7_flyToDeck (gg n)) := by rw [gg_s, gB59]
theorem gB60 : xB.getD 60 xB0 = (1, fun G => x_run 2 (fX7_sailAll G)) := (xBk1 (j := 20) (by decide)).trans rfl
theorem ga60 (n : Nat) : (gg n 60).1 = 1 := by rw [gg_f, gB60]
theorem gb60 (n : Nat) : (gg (n + 1) 60).2 = x_run 2 (fX7_sailAll (gg n)) := by rw [gg_s, gB60]
theorem gB61 : xB.getD 61 xB0 = (2, fun G => x_run 3 (fX7_goalOf G)) := (xBk1 (j := 21) (by decide)).trans rfl
theorem ga61 (n : Nat) : (gg n 61).1 = 2 := by rw [gg_f, gB61]
theorem gb61 (n : Nat) : (gg (n + 1) 61).2 = x_run 3 (fX7_goalOf (gg n)) := by rw [gg_s, gB61]
theorem gB62 : xB.getD 62 xB0 = (4, fun G => x_run 8 (fX7_nearestBoat G)) := (xBk1 (j := 22) (by decide)).trans rfl
theorem ga62 (n : Nat) : (gg n 62).1 = 4 := by rw [gg_f, gB62]
theorem gb62 (n : Nat) : (gg (n + 1) 62).2 = x_run 8 (fX7_nearestBoat (gg n)) := by rw [gg_s, gB62]
theorem gB63 : xB.getD 63 xB0 = (3, fun G => x_run 5 (fX7_farFrom G)) := (xBk1 (j := 23) (by decide)).trans rfl
theorem ga63 (n : Nat) : (gg n 63).1 = 3 := by rw [gg_f, gB63]
theorem gb63 (n : Nat) : (gg (n + 1) 63).2 = x_run 5 (fX7_farFrom (gg n)) := by rw [gg_s, gB63]
theorem gB64 : xB.getD 64 xB0 = (3, fun G => x_run 4 (fX7_reach G)) := (xBk1 (j := 24) (by decide)).trans rfl
theorem ga64 (n : Nat) : (gg n 64).1 = 3 := by rw [gg_f, gB64]
theorem gb64 (n : Nat) : (gg (n + 1) 64).2 = x_run 4 (fX7_reach (gg n)) := by rw [gg_s, gB64]
theorem gB65 : xB.getD 65 xB0 = (2, fun G => x_run 6 (fX7_fly G)) := (xBk1 (j := 25) (by decide)).trans rfl
theorem ga65 (n : Nat) : (gg n 65).1 = 2 := by rw [gg_f, gB65]
theorem gb65 (n : Nat) : (gg (n + 1) 65).2 = x_run 6 (fX7_fly (gg n)) := by rw [gg_s, gB65]
theorem gB66 : xB.getD 66 xB0 = (3, fun G => x_run 4 (fX7_comeAboard G)) := (xBk1 (j := 26) (by decide)).trans rfl
theorem ga66 (n : Nat) : (gg n 66).1 = 3 := by rw [gg_f, gB66]
theorem gb66 (n : Nat) : (gg (n + 1) 66).2 = x_run 4 (fX7_comeAboard (gg n)) := by rw [gg_s, gB66]
theorem gB67 : xB.getD 67 xB0 = (2, fun G => x_run 3 (fX7_starve G)) := (xBk1 (j := 27) (by decide)).trans rfl
theorem ga67 (n : Nat) : (gg n 67).1 = 2 := by rw [gg_f, gB67]
theorem gb67 (n : Nat) : (gg (n + 1) 67).2 = x_run 3 (fX7_starve (gg n)) := by rw [gg_s, gB67]
theorem gB68 : xB.getD 68 xB0 = (4, fun G => x_run 4 (fX7_putLetter G)) := (xBk1 (j := 28) (by decide)).trans rfl
theorem ga68 (n : Nat) : (gg n 68).1 = 4 := by rw [gg_f, gB68]
theorem gb68 (n : Nat) : (gg (n + 1) 68).2 = x_run 4 (fX7_putLetter (gg n)) := by rw [gg_s, gB68]
theorem gB69 : xB.getD 69 xB0 = (1, fun G => x_run 1 (fX8_init G)) := (xBk1 (j := 29) (by decide)).trans rfl
theorem ga69 (n : Nat) : (gg n 69).1 = 1 := by rw [gg_f, gB69]
theorem gb69 (n : Nat) : (gg (n + 1) 69).2 = x_run 1 (fX8_init (gg n)) := by rw [gg_s, gB69]
theorem gB70 : xB.getD 70 xB0 = (3, fun G => x_run 5 (fX8_watch G)) := (xBk1 (j := 30) (by decide)).trans rfl
theorem ga70 (n : Nat) : (gg n 70).1 = 3 := by rw [gg_f, gB70]
theorem gb70 (n : Nat) : (gg (n + 1) 70).2 = x_run 5 (fX8_watch (gg n)) := by rw [gg_s, gB70]
theorem gB71 : xB.getD 71 xB0 = (3, fun G => x_run 7 (fX8_heardBy G)) := (xBk1 (j := 31) (by decide)).trans rfl
theorem ga71 (n : Nat) : (gg n 71).1 = 3 := by rw [gg_f, gB71]
theorem gb71 (n : Nat) : (gg (n + 1) 71).2 = x_run 7 (fX8_heardBy (gg n)) := by rw [gg_s, gB71]
theorem gB72 : xB.getD 72 xB0 = (3, fun G => x_run 6 (fX8_spread G)) := (xBk1 (j := 32) (by decide)).trans rfl
theorem ga72 (n : Nat) : (gg n 72).1 = 3 := by rw [gg_f, gB72]
theorem gb72 (n : Nat) : (gg (n + 1) 72).2 = x_run 6 (fX8_spread (gg n)) := by rw [gg_s, gB72]
theorem gB73 : xB.getD 73 xB0 = (3, fun G => x_run 7 (fX8_afterShouts G)) := (xBk1 (j := 33) (by decide)).trans rfl
theorem ga73 (n : Nat) : (gg n 73).1 = 3 := by rw [gg_f, gB73]
theorem gb73 (n : Nat) : (gg (n + 1) 73).2 = x_run 7 (fX8_afterShouts (gg n)) := by rw [gg_s, gB73]
theorem gB74 : xB.getD 74 xB0 = (1, fun G => x_run 3 (fX8_allKnow G)) := (xBk1 (j := 34) (by decide)).trans rfl
theorem ga74 (n : Nat) : (gg n 74).1 = 1 := by rw [gg_f, gB74]
theorem gb74 (n : Nat) : (gg (n + 1) 74).2 = x_run 3 (fX8_allKnow (gg n)) := by rw [gg_s, gB74]
theorem gB75 : xB.getD 75 xB0 = (2, fun G => x_run 2 (fX8_keepFor G)) := (xBk1 (j := 35) (by decide)).trans rfl
theorem ga75 (n : Nat) : (gg n 75).1 = 2 := by rw [gg_f, gB75]
theorem gb75 (n : Nat) : (gg (n + 1) 75).2 = x_run 2 (fX8_keepFor (gg n)) := by rw [gg_s, gB75]
theorem gB76 : xB.getD 76 xB0 = (2, fun G => x_run 7 (fX8_allKnowBy G)) := (xBk1 (j := 36) (by decide)).trans rfl
theorem ga76 (n : Nat) : (gg n 76).1 = 2 := by rw [gg_f, gB76]
theorem gb76 (n : Nat) : (gg (n + 1) 76).2 = x_run 7 (fX8_allKnowBy (gg n)) := by rw [gg_s, gB76]
theorem gB77 : xB.getD 77 xB0 = (1, fun G => x_run 1 (fX9_init G)) := (xBk1 (j := 37) (by decide)).trans rfl
theorem ga77 (n : Nat) : (gg n 77).1 = 1 := by rw [gg_f, gB77]
theorem gb77 (n : Nat) : (gg (n + 1) 77).2 = x_run 1 (fX9_init (gg n)) := by rw [gg_s, gB77]
theorem gB78 : xB.getD 78 xB0 = (1, fun G => x_run 1 (fX9_length G)) := (xBk1 (j := 38) (by decide)).trans rfl
theorem ga78 (n : Nat) : (gg n 78).1 = 1 := by rw [gg_f, gB78]
theorem gb78 (n : Nat) : (gg (n + 1) 78).2 = x_run 1 (fX9_length (gg n)) := by rw [gg_s, gB78]
theorem gB79 : xB.getD 79 xB0 = (1, fun G => x_run 1 (fX9_isEmpty G)) := (xBk1 (j := 39) (by decide)).trans rfl
theorem ga79 (n : Nat) : (gg n 79).1 = 1 := by rw [gg_f, gB79]
theorem gb79 (n : Nat) : (gg (n + 1) 79).2 = x_run 1 (fX9_isEmpty (gg n)) := by rw [gg_s, gB79]
theorem gB80 : xB.getD 80 xB0 = (2, fun G => x_run 3 (fX9_add G)) := (xBk2 (j := 0) (by decide)).trans rfl
theorem ga80 (n : Nat) : (gg n 80).1 = 2 := by rw [gg_f, gB80]
theorem gb80 (n : Nat) : (gg (n + 1) 80).2 = x_run 3 (fX9_add (gg n)) := by rw [gg_s, gB80]
theorem gB81 : xB.getD 81 xB0 = (2, fun G => x_run 2 (fX9_cut G)) := (xBk2 (j := 1) (by decide)).trans rfl
theorem ga81 (n : Nat) : (gg n 81).1 = 2 := by rw [gg_f, gB81]
theorem gb81 (n : Nat) : (gg (n + 1) 81).2 = x_run 2 (fX9_cut (gg n)) := by rw [gg_s, gB81]
theorem gB82 : xB.getD 82 xB0 = (2, fun G => x_run 2 (fX9_open G)) := (xBk2 (j := 2) (by decide)).trans rfl
theorem ga82 (n : Nat) : (gg n 82).1 = 2 := by rw [gg_f, gB82]
theorem gb82 (n : Nat) : (gg (n + 1) 82).2 = x_run 2 (fX9_open (gg n)) := by rw [gg_s, gB82]
theorem gB83 : xB.getD 83 xB0 = (1, fun G => x_run 1 (fX9_peek G)) := (xBk2 (j := 3) (by decide)).trans rfl
theorem ga83 (n : Nat) : (gg n 83).1 = 1 := by rw [gg_f, gB83]
theorem gb83 (n : Nat) : (gg (n + 1) 83).2 = x_run 1 (fX9_peek (gg n)) := by rw [gg_s, gB83]
theorem gB84 : xB.getD 84 xB0 = (2, fun G => x_run 2 (fX9_signAt G)) := (xBk2 (j := 4) (by decide)).trans rfl
theorem ga84 (n : Nat) : (gg n 84).1 = 2 := by rw [gg_f, gB84]
theorem gb84 (n : Nat) : (gg (n + 1) 84).2 = x_run 2 (fX9_signAt (gg n)) := by rw [gg_s, gB84]
theorem gB85 : xB.getD 85 xB0 = (1, fun G => x_run 1 (fX9_isAtEnd G)) := (xBk2 (j := 5) (by decide)).trans rfl
theorem ga85 (n : Nat) : (gg n 85).1 = 1 := by rw [gg_f, gB85]
theorem gb85 (n : Nat) : (gg (n + 1) 85).2 = x_run 1 (fX9_isAtEnd (gg n)) := by rw [gg_s, gB85]
theorem gB86 : xB.getD 86 xB0 = (1, fun G => x_run 1 (fX9_skip G)) := (xBk2 (j := 6) (by decide)).trans rfl
theorem ga86 (n : Nat) : (gg n 86).1 = 1 := by rw [gg_f, gB86]
theorem gb86 (n : Nat) : (gg (n + 1) 86).2 = x_run 1 (fX9_skip (gg n)) := by rw [gg_s, gB86]
theorem gB87 : xB.getD 87 xB0 = (2, fun G => x_run 2 (fX9_take G)) := (xBk2 (j := 7) (by decide)).trans rfl
theorem ga87 (n : Nat) : (gg n 87).1 = 2 := by rw [gg_f, gB87]
theorem gb87 (n : Nat) : (gg (n + 1) 87).2 = x_run 2 (fX9_take (gg n)) := by rw [gg_s, gB87]
theorem gB88 : xB.getD 88 xB0 = (2, fun G => x_run 2 (fX9_need G)) := (xBk2 (j := 8) (by decide)).trans rfl
theorem ga88 (n : Nat) : (gg n 88).1 = 2 := by rw [gg_f, gB88]
theorem gb88 (n : Nat) : (gg (n + 1) 88).2 = x_run 2 (fX9_need (gg n)) := by rw [gg_s, gB88]
theorem gB89 : xB.getD 89 xB0 = (1, fun G => x_run 1 (fX9_refuse G)) := (xBk2 (j := 9) (by decide)).trans rfl
theorem ga89 (n : Nat) : (gg n 89).1 = 1 := by rw [gg_f, gB89]
theorem gb89 (n : Nat) : (gg (n + 1) 89).2 = x_run 1 (fX9_refuse (gg n)) := by rw [gg_s, gB89]
theorem gB90 : xB.getD 90 xB0 = (3, fun G => x_run 4 (fX9_isDigit G)) := (xBk2 (j := 10) (by decide)).trans rfl
theorem ga90 (n : Nat) : (gg n 90).1 = 3 := by rw [gg_f, gB90]
theorem gb90 (n : Nat) : (gg (n + 1) 90).2 = x_run 4 (fX9_isDigit (gg n)) := by rw [gg_s, gB90]
theorem gB91 : xB.getD 91 xB0 = (3, fun G => x_run 4 (fX9_digit G)) := (xBk2 (j := 11) (by decide)).trans rfl
theorem ga91 (n : Nat) : (gg n 91).1 = 3 := by rw [gg_f, gB91]
theorem gb91 (n : Nat) : (gg (n + 1) 91).2 = x_run 4 (fX9_digit (gg n)) := by rw [gg_s, gB91]
theorem gB92 : xB.getD 92 xB0 = (1, fun G => x_run 2 (fX9_coordinate G)) := (xBk2 (j := 12) (by decide)).trans rfl
theorem ga92 (n : Nat) : (gg n 92).1 = 1 := by rw [gg_f, gB92]
theorem gb92 (n : Nat) : (gg (n + 1) 92).2 = x_run 2 (fX9_coordinate (gg n)) := by rw [gg_s, gB92]
theorem gB93 : xB.getD 93 xB0 = (2, fun G => x_run 3 (fX9_boatLetter G)) := (xBk2 (j := 13) (by decide)).trans rfl
theorem ga93 (n : Nat) : (gg n 93).1 = 2 := by rw [gg_f, gB93]
theorem gb93 (n : Nat) : (gg (n + 1) 93).2 = x_run 3 (fX9_boatLetter (gg n)) := by rw [gg_s, gB93]
theorem gB94 : xB.getD 94 xB0 = (1, fun G => x_run 1 (fX9_faultSoFar G)) := (xBk2 (j := 14) (by decide)).trans rfl
theorem ga94 (n : Nat) : (gg n 94).1 = 1 := by rw [gg_f, gB94]
theorem gb94 (n : Nat) : (gg (n + 1) 94).2 = x_run 1 (fX9_faultSoFar (gg n)) := by rw [gg_s, gB94]
theorem gB95 : xB.getD 95 xB0 = (1, fun G => x_run 2 (fX9_close G)) := (xBk2 (j := 15) (by decide)).trans rfl
theorem ga95 (n : Nat) : (gg n 95).1 = 1 := by rw [gg_f, gB95]
theorem gb95 (n : Nat) : (gg (n + 1) 95).2 = x_run 2 (fX9_close (gg n)) := by rw [gg_s, gB95]
theorem gB96 : xB.getD 96 xB0 = (1, fun G => x_run 1 (fX10_init G)) := (xBk2 (j := 16) (by decide)).trans rfl
theorem ga96 (n : Nat) : (gg n 96).1 = 1 := by rw [gg_f, gB96]
theorem gb96 (n : Nat) : (gg (n + 1) 96).2 = x_run 1 (fX10_init (gg n)) := by rw [gg_s, gB96]
theorem gB97 : xB.getD 97 xB0 = (4, fun G => x_run 7 (fX10_find G)) := (xBk2 (j := 17) (by decide)).trans rfl
theorem ga97 (n : Nat) : (gg n 97).1 = 4 := by rw [gg_f, gB97]
theorem gb97 (n : Nat) : (gg (n + 1) 97).2 = x_run 7 (fX10_find (gg n)) := by rw [gg_s, gB97]
theorem gB98 : xB.getD 98 xB0 = (2, fun G => x_run 3 (fX10_reckonPowers G)) := (xBk2 (j := 18) (by decide)).trans rfl
theorem ga98 (n : Nat) : (gg n 98).1 = 2 := by rw [gg_f, gB98]
theorem gb98 (n : Nat) : (gg (n + 1) 98).2 = x_run 3 (fX10_reckonPowers (gg n)) := by rw [gg_s, gB98]
theorem gB99 : xB.getD 99 xB0 = (1, fun G => x_run 5 (fX10_chanceOfTried G)) := (xBk2 (j := 19) (by decide)).trans rfl
theorem ga99 (n : Nat) : (gg n 99).1 = 1 := by rw [gg_f, gB99]
theorem gb99 (n : Nat) : (gg (n + 1) 99).2 = x_run 5 (fX10_chanceOfTried (gg n)) := by rw [gg_s, gB99]
theorem gB100 : xB.getD 100 xB0 = (1, fun G => x_run 3 (fX10_goToNextRow G)) := (xBk2 (j := 20) (by decide)).trans rfl
theorem ga100 (n : Nat) : (gg n 100).1 = 1 := by rw [gg_f, gB100]
theorem gb100 (n : Nat) : (gg (n + 1) 100).2 = x_run 3 (fX10_goToNextRow (gg n)) := by rw [gg_s, gB100]
theorem gB101 : xB.getD 101 xB0 = (1, fun G => x_run 2 (fX11_init G)) := (xBk2 (j := 21) (by decide)).trans rfl
theorem ga101 (n : Nat) : (gg n 101).1 = 1 := by rw [gg_f, gB101]
theorem gb101 (n : Nat) : (gg (n + 1) 101).2 = x_run 2 (fX11_init (gg n)) := by rw [gg_s, gB101]
theorem gB102 : xB.getD 102 xB0 = (2, fun G => x_run 2 (fX11_sign G)) := (xBk2 (j := 22) (by decide)).trans rfl
theorem ga102 (n : Nat) : (gg n 102).1 = 2 := by rw [gg_f, gB102]
theorem gb102 (n : Nat) : (gg (n + 1) 102).2 = x_run 2 (fX11_sign (gg n)) := by rw [gg_s, gB102]
theorem gB103 : xB.getD 103 xB0 = (2, fun G => x_run 2 (fX11_end G)) := (xBk2 (j := 23) (by decide)).trans rfl
theorem ga103 (n : Nat) : (gg n 103).1 = 2 := by rw [gg_f, gB103]
theorem gb103 (n : Nat) : (gg (n + 1) 103).2 = x_run 2 (fX11_end (gg n)) := by rw [gg_s, gB103]
theorem gB104 : xB.getD 104 xB0 = (1, fun G => x_run 3 (fX11_fleet G)) := (xBk2 (j := 24) (by decide)).trans rfl
theorem ga104 (n : Nat) : (gg n 104).1 = 1 := by rw [gg_f, gB104]
theorem gb104 (n : Nat) : (gg (n + 1) 104).2 = x_run 3 (fX11_fleet (gg n)) := by rw [gg_s, gB104]
theorem gB105 : xB.getD 105 xB0 = (1, fun G => x_run 3 (fX11_gulls G)) := (xBk2 (j := 25) (by decide)).trans rfl
theorem ga105 (n : Nat) : (gg n 105).1 = 1 := by rw [gg_f, gB105]
theorem gb105 (n : Nat) : (gg (n + 1) 105).2 = x_run 3 (fX11_gulls (gg n)) := by rw [gg_s, gB105]
theorem gB106 : xB.getD 106 xB0 = (1, fun G => x_run 1 (fX11_rule G)) := (xBk2 (j := 26) (by decide)).trans rfl
theorem ga106 (n : Nat) : (gg n 106).1 = 1 := by rw [gg_f, gB106]
theorem gb106 (n : Nat) : (gg (n + 1) 106).2 = x_run 1 (fX11_rule (gg n)) := by rw [gg_s, gB106]
theorem gB107 : xB.getD 107 xB0 = (3, fun G => x_run 4 (fX11_boat G)) := (xBk2 (j := 27) (by decide)).trans rfl
theorem ga107 (n : Nat) : (gg n 107).1 = 3 := by rw [gg_f, gB107]
theorem gb107 (n : Nat) : (gg (n + 1) 107).2 = x_run 4 (fX11_boat (gg n)) := by rw [gg_s, gB107]
theorem gB108 : xB.getD 108 xB0 = (3, fun G => x_run 4 (fX11_gull G)) := (xBk2 (j := 28) (by decide)).trans rfl
theorem ga108 (n : Nat) : (gg n 108).1 = 3 := by rw [gg_f, gB108]
theorem gb108 (n : Nat) : (gg (n + 1) 108).2 = x_run 4 (fX11_gull (gg n)) := by rw [gg_s, gB108]
theorem gB109 : xB.getD 109 xB0 = (3, fun G => x_run 4 (fX11_letter G)) := (xBk2 (j := 29) (by decide)).trans rfl
theorem ga109 (n : Nat) : (gg n 109).1 = 3 := by rw [gg_f, gB109]
theorem gb109 (n : Nat) : (gg (n + 1) 109).2 = x_run 4 (fX11_letter (gg n)) := by rw [gg_s, gB109]
theorem gB110 : xB.getD 110 xB0 = (3, fun G => x_run 4 (fX11_weather G)) := (xBk2 (j := 30) (by decide)).trans rfl
theorem ga110 (n : Nat) : (gg n 110).1 = 3 := by rw [gg_f, gB110]
theorem gb110 (n : Nat) : (gg (n + 1) 110).2 = x_run 4 (fX11_weather (gg n)) := by rw [gg_s, gB110]
theorem gB111 : xB.getD 111 xB0 = (5, fun G => x_run 5 (fX11_sheet G)) := (xBk2 (j := 31) (by decide)).trans rfl
theorem ga111 (n : Nat) : (gg n 111).1 = 5 := by rw [gg_f, gB111]
theorem gb111 (n : Nat) : (gg (n + 1) 111).2 = x_run 5 (fX11_sheet (gg n)) := by rw [gg_s, gB111]
theorem gB112 : xB.getD 112 xB0 = (1, fun G => x_run 4 (fX11_readBoats G)) := (xBk2 (j := 32) (by decide)).trans rfl
theorem ga112 (n : Nat) : (gg n 112).1 = 1 := by rw [gg_f, gB112]
theorem gb112 (n : Nat) : (gg (n + 1) 112).2 = x_run 4 (fX11_readBoats (gg n)) := by rw [gg_s, gB112]
theorem gB113 : xB.getD 113 xB0 = (1, fun G => x_run 4 (fX11_readGulls G)) := (xBk2 (j := 33) (by decide)).trans rfl
theorem ga113 (n : Nat) : (gg n 113).1 = 1 := by rw [gg_f, gB113]
theorem gb113 (n : Nat) : (gg (n + 1) 113).2 = x_run 4 (fX11_readGulls (gg n)) := by rw [gg_s, gB113]
theorem gB114 : xB.getD 114 xB0 = (2, fun G => x_run 4 (fX11_readGull G)) := (xBk2 (j := 34) (by decide)).trans rfl
theorem ga114 (n : Nat) : (gg n 114).1 = 2 := by rw [gg_f, gB114]
theorem gb114 (n : Nat) : (gg (n + 1) 114).2 = x_run 4 (fX11_readGull (gg n)) := by rw [gg_s, gB114]
theorem gB115 : xB.getD 115 xB0 = (2, fun G => x_run 2 (fX11_write G)) := (xBk2 (j := 35) (by decide)).trans rfl
theorem ga115 (n : Nat) : (gg n 115).1 = 2 := by rw [gg_f, gB115]
theorem gb115 (n : Nat) : (gg (n + 1) 115).2 = x_run 2 (fX11_write (gg n)) := by rw [gg_s, gB115]
theorem gB116 : xB.getD 116 xB0 = (3, fun G => x_run 3 (fX11_send G)) := (xBk2 (j := 36) (by decide)).trans rfl
theorem ga116 (n : Nat) : (gg n 116).1 = 3 := by rw [gg_f, gB116]
theorem gb116 (n : Nat) : (gg (n + 1) 116).2 = x_run 3 (fX11_send (gg n)) := by rw [gg_s, gB116]
theorem gB117 : xB.getD 117 xB0 = (3, fun G => x_run 3 (fX11_paint G)) := (xBk2 (j := 37) (by decide)).trans rfl
theorem ga117 (n : Nat) : (gg n 117).1 = 3 := by rw [gg_f, gB117]
theorem gb117 (n : Nat) : (gg (n + 1) 117).2 = x_run 3 (fX11_paint (gg n)) := by rw [gg_s, gB117]
theorem gB118 : xB.getD 118 xB0 = (2, fun G => x_run 2 (fX11_show G)) := (xBk2 (j := 38) (by decide)).trans rfl
theorem ga118 (n : Nat) : (gg n 118).1 = 2 := by rw [gg_f, gB118]
theorem gb118 (n : Nat) : (gg (n + 1) 118).2 = x_run 2 (fX11_show (gg n)) := by rw [gg_s, gB118]
theorem gB119 : xB.getD 119 xB0 = (3, fun G => x_run 3 (fX11_chum G)) := (xBk2 (j := 39) (by decide)).trans rfl
theorem ga119 (n : Nat) : (gg n 119).1 = 3 := by rw [gg_f, gB119]
theorem gb119 (n : Nat) : (gg (n + 1) 119).2 = x_run 3 (fX11_chum (gg n)) := by rw [gg_s, gB119]
theorem gB120 : xB.getD 120 xB0 = (2, fun G => x_run 2 (fX11_feed G)) := (xBk3 (j := 0) (by decide)).trans rfl
theorem ga120 (n : Nat) : (gg n 120).1 = 2 := by rw [gg_f, gB120]
theorem gb120 (n : Nat) : (gg (n + 1) 120).2 = x_run 2 (fX11_feed (gg n)) := by rw [gg_s, gB120]
theorem gB121 : xB.getD 121 xB0 = (1, fun G => x_run 1 (fX11_half G)) := (xBk3 (j := 1) (by decide)).trans rfl
theorem ga121 (n : Nat) : (gg n 121).1 = 1 := by rw [gg_f, gB121]
theorem gb121 (n : Nat) : (gg (n + 1) 121).2 = x_run 1 (fX11_half (gg n)) := by rw [gg_s, gB121]
theorem gB122 : xB.getD 122 xB0 = (2, fun G => x_run 2 (fX11_halves G)) := (xBk3 (j := 2) (by decide)).trans rfl
theorem ga122 (n : Nat) : (gg n 122).1 = 2 := by rw [gg_f, gB122]
theorem gb122 (n : Nat) : (gg (n + 1) 122).2 = x_run 2 (fX11_halves (gg n)) := by rw [gg_s, gB122]
theorem gB123 : xB.getD 123 xB0 = (1, fun G => x_run 3 (fX11_day G)) := (xBk3 (j := 3) (by decide)).trans rfl
theorem ga123 (n : Nat) : (gg n 123).1 = 1 := by rw [gg_f, gB123]
theorem gb123 (n : Nat) : (gg (n + 1) 123).2 = x_run 3 (fX11_day (gg n)) := by rw [gg_s, gB123]
theorem gB124 : xB.getD 124 xB0 = (1, fun G => x_run 1 (fX11_undo G)) := (xBk3 (j := 4) (by decide)).trans rfl
theorem ga124 (n : Nat) : (gg n 124).1 = 1 := by rw [gg_f, gB124]
theorem gb124 (n : Nat) : (gg (n + 1) 124).2 = x_run 1 (fX11_undo (gg n)) := by rw [gg_s, gB124]
theorem gB125 : xB.getD 125 xB0 = (2, fun G => x_run 2 (fX11_held G)) := (xBk3 (j := 5) (by decide)).trans rfl
theorem ga125 (n : Nat) : (gg n 125).1 = 2 := by rw [gg_f, gB125]
theorem gb125 (n : Nat) : (gg (n + 1) 125).2 = x_run 2 (fX11_held (gg n)) := by rw [gg_s, gB125]
theorem gB126 : xB.getD 126 xB0 = (2, fun G => x_run 2 (fX11_passAndTell G)) := (xBk3 (j := 6) (by decide)).trans rfl
theorem ga126 (n : Nat) : (gg n 126).1 = 2 := by rw [gg_f, gB126]
theorem gb126 (n : Nat) : (gg (n + 1) 126).2 = x_run 2 (fX11_passAndTell (gg n)) := by rw [gg_s, gB126]
theorem gB127 : xB.getD 127 xB0 = (4, fun G => x_run 4 (fX11_perform G)) := (xBk3 (j := 7) (by decide)).trans rfl
theorem ga127 (n : Nat) : (gg n 127).1 = 4 := by rw [gg_f, gB127]
theorem gb127 (n : Nat) : (gg (n + 1) 127).2 = x_run 4 (fX11_perform (gg n)) := by rw [gg_s, gB127]
theorem gB128 : xB.getD 128 xB0 = (3, fun G => x_run 5 (fX11_where G)) := (xBk3 (j := 8) (by decide)).trans rfl
theorem ga128 (n : Nat) : (gg n 128).1 = 3 := by rw [gg_f, gB128]
theorem gb128 (n : Nat) : (gg (n + 1) 128).2 = x_run 5 (fX11_where (gg n)) := by rw [gg_s, gB128]
theorem gB129 : xB.getD 129 xB0 = (2, fun G => x_run 2 (fX11_comes G)) := (xBk3 (j := 9) (by decide)).trans rfl
theorem ga129 (n : Nat) : (gg n 129).1 = 2 := by rw [gg_f, gB129]
theorem gb129 (n : Nat) : (gg (n + 1) 129).2 = x_run 2 (fX11_comes (gg n)) := by rw [gg_s, gB129]
theorem gB130 : xB.getD 130 xB0 = (2, fun G => x_run 2 (fX11_would G)) := (xBk3 (j := 10) (by decide)).trans rfl
theorem ga130 (n : Nat) : (gg n 130).1 = 2 := by rw [gg_f, gB130]
theorem gb130 (n : Nat) : (gg (n + 1) 130).2 = x_run 2 (fX11_would (gg n)) := by rw [gg_s, gB130]
theorem gB131 : xB.getD 131 xB0 = (2, fun G => x_run 4 (fX11_delivers G)) := (xBk3 (j := 11) (by decide)).trans rfl
theorem ga131 (n : Nat) : (gg n 131).1 = 2 := by rw [gg_f, gB131]
theorem gb131 (n : Nat) : (gg (n + 1) 131).2 = x_run 4 (fX11_delivers (gg n)) := by rw [gg_s, gB131]
theorem gB132 : xB.getD 132 xB0 = (2, fun G => x_run 5 (fX11_due G)) := (xBk3 (j := 12) (by decide)).trans rfl
theorem ga132 (n : Nat) : (gg n 132).1 = 2 := by rw [gg_f, gB132]
theorem gb132 (n : Nat) : (gg (n + 1) 132).2 = x_run 5 (fX11_due (gg n)) := by rw [gg_s, gB132]
theorem gB133 : xB.getD 133 xB0 = (2, fun G => x_run 4 (fX11_heads G)) := (xBk3 (j := 13) (by decide)).trans rfl
theorem ga133 (n : Nat) : (gg n 133).1 = 2 := by rw [gg_f, gB133]
theorem gb133 (n : Nat) : (gg (n + 1) 133).2 = x_run 4 (fX11_heads (gg n)) := by rw [gg_s, gB133]
theorem gB134 : xB.getD 134 xB0 = (3, fun G => x_run 9 (fX11_nearest G)) := (xBk3 (j := 14) (by decide)).trans rfl
theorem ga134 (n : Nat) : (gg n 134).1 = 3 := by rw [gg_f, gB134]
theorem gb134 (n : Nat) : (gg (n + 1) 134).2 = x_run 9 (fX11_nearest (gg n)) := by rw [gg_s, gB134]
theorem gB135 : xB.getD 135 xB0 = (1, fun G => x_run 1 (fX11_lookAhead G)) := (xBk3 (j := 15) (by decide)).trans rfl
theorem ga135 (n : Nat) : (gg n 135).1 = 1 := by rw [gg_f, gB135]
theorem gb135 (n : Nat) : (gg (n + 1) 135).2 = x_run 1 (fX11_lookAhead (gg n)) := by rw [gg_s, gB135]
theorem gB136 : xB.getD 136 xB0 = (2, fun G => x_run 3 (fX11_arrivalTold G)) := (xBk3 (j := 16) (by decide)).trans rfl
theorem ga136 (n : Nat) : (gg n 136).1 = 2 := by rw [gg_f, gB136]
theorem gb136 (n : Nat) : (gg (n + 1) 136).2 = x_run 3 (fX11_arrivalTold (gg n)) := by rw [gg_s, gB136]
theorem gB137 : xB.getD 137 xB0 = (4, fun G => x_run 8 (fX11_shouted G)) := (xBk3 (j := 17) (by decide)).trans rfl
theorem ga137 (n : Nat) : (gg n 137).1 = 4 := by rw [gg_f, gB137]
theorem gb137 (n : Nat) : (gg (n + 1) 137).2 = x_run 8 (fX11_shouted (gg n)) := by rw [gg_s, gB137]
theorem gB138 : xB.getD 138 xB0 = (3, fun G => x_run 4 (fX11_spreads G)) := (xBk3 (j := 18) (by decide)).trans rfl
theorem ga138 (n : Nat) : (gg n 138).1 = 3 := by rw [gg_f, gB138]
theorem gb138 (n : Nat) : (gg (n + 1) 138).2 = x_run 4 (fX11_spreads (gg n)) := by rw [gg_s, gB138]
theorem gB139 : xB.getD 139 xB0 = (2, fun G => x_run 6 (fX11_teller G)) := (xBk3 (j := 19) (by decide)).trans rfl
theorem ga139 (n : Nat) : (gg n 139).1 = 2 := by rw [gg_f, gB139]
theorem gb139 (n : Nat) : (gg (n + 1) 139).2 = x_run 6 (fX11_teller (gg n)) := by rw [gg_s, gB139]
theorem gB140 : xB.getD 140 xB0 = (3, fun G => x_run 9 (fX11_order G)) := (xBk3 (j := 20) (by decide)).trans rfl
theorem ga140 (n : Nat) : (gg n 140).1 = 3 := by rw [gg_f, gB140]
theorem gb140 (n : Nat) : (gg (n + 1) 140).2 = x_run 9 (fX11_order (gg n)) := by rw [gg_s, gB140]
theorem gB141 : xB.getD 141 xB0 = (2, fun G => x_run 2 (fX11_isShout G)) := (xBk3 (j := 21) (by decide)).trans rfl
theorem ga141 (n : Nat) : (gg n 141).1 = 2 := by rw [gg_f, gB141]
theorem gb141 (n : Nat) : (gg (n + 1) 141).2 = x_run 2 (fX11_isShout (gg n)) := by rw [gg_s, gB141]
theorem gB142 : xB.getD 142 xB0 = (2, fun G => x_run 2 (fX11_areBoats G)) := (xBk3 (j := 22) (by decide)).trans rfl
theorem ga142 (n : Nat) : (gg n 142).1 = 2 := by rw [gg_f, gB142]
theorem gb142 (n : Nat) : (gg (n + 1) 142).2 = x_run 2 (fX11_areBoats (gg n)) := by rw [gg_s, gB142]
theorem gB143 : xB.getD 143 xB0 = (2, fun G => x_run 2 (fX11_watchFleet G)) := (xBk3 (j := 23) (by decide)).trans rfl
theorem ga143 (n : Nat) : (gg n 143).1 = 2 := by rw [gg_f, gB143]
theorem gb143 (n : Nat) : (gg (n + 1) 143).2 = x_run 2 (fX11_watchFleet (gg n)) := by rw [gg_s, gB143]
theorem gB144 : xB.getD 144 xB0 = (2, fun G => x_run 5 (fX11_tellByGulls G)) := (xBk3 (j := 24) (by decide)).trans rfl
theorem ga144 (n : Nat) : (gg n 144).1 = 2 := by rw [gg_f, gB144]
theorem gb144 (n : Nat) : (gg (n + 1) 144).2 = x_run 5 (fX11_tellByGulls (gg n)) := by rw [gg_s, gB144]
theorem gB145 : xB.getD 145 xB0 = (2, fun G => x_run 6 (fX11_thief G)) := (xBk3 (j := 25) (by decide)).trans rfl
theorem ga145 (n : Nat) : (gg n 145).1 = 2 := by rw [gg_f, gB145]
theorem gb145 (n : Nat) : (gg (n + 1) 145).2 = x_run 6 (fX11_thief (gg n)) := by rw [gg_s, gB145]
theorem gB146 : xB.getD 146 xB0 = (1, fun G => x_run 5 (fX11_astray G)) := (xBk3 (j := 26) (by decide)).trans rfl
theorem ga146 (n : Nat) : (gg n 146).1 = 1 := by rw [gg_f, gB146]
theorem gb146 (n : Nat) : (gg (n + 1) 146).2 = x_run 5 (fX11_astray (gg n)) := by rw [gg_s, gB146]
theorem gB147 : xB.getD 147 xB0 = (2, fun G => x_run 6 (fX11_newOnWrongDecks G)) := (xBk3 (j := 27) (by decide)).trans rfl
theorem ga147 (n : Nat) : (gg n 147).1 = 2 := by rw [gg_f, gB147]
theorem gb147 (n : Nat) : (gg (n + 1) 147).2 = x_run 6 (fX11_newOnWrongDecks (gg n)) := by rw [gg_s, gB147]
theorem gB148 : xB.getD 148 xB0 = (3, fun G => x_run 7 (fX11_fits G)) := (xBk3 (j := 28) (by decide)).trans rfl
theorem ga148 (n : Nat) : (gg n 148).1 = 3 := by rw [gg_f, gB148]
theorem gb148 (n : Nat) : (gg (n + 1) 148).2 = x_run 7 (fX11_fits (gg n)) := by rw [gg_s, gB148]
theorem gB149 : xB.getD 149 xB0 = (2, fun G => x_run 4 (fX11_ring G)) := (xBk3 (j := 29) (by decide)).trans rfl
theorem ga149 (n : Nat) : (gg n 149).1 = 2 := by rw [gg_f, gB149]
theorem gb149 (n : Nat) : (gg (n + 1) 149).2 = x_run 4 (fX11_ring (gg n)) := by rw [gg_s, gB149]
theorem gB150 : xB.getD 150 xB0 = (4, fun G => x_run 8 (fX11_metJustNow G)) := (xBk3 (j := 30) (by decide)).trans rfl
theorem ga150 (n : Nat) : (gg n 150).1 = 4 := by rw [gg_f, gB150]
theorem gb150 (n : Nat) : (gg (n + 1) 150).2 = x_run 8 (fX11_metJustNow (gg n)) := by rw [gg_s, gB150]
theorem gB151 : xB.getD 151 xB0 = (1, fun G => x_run 3 (fX11_lonely G)) := (xBk3 (j := 31) (by decide)).trans rfl
theorem ga151 (n : Nat) : (gg n 151).1 = 1 := by rw [gg_f, gB151]
theorem gb151 (n : Nat) : (gg (n + 1) 151).2 = x_run 3 (fX11_lonely (gg n)) := by rw [gg_s, gB151]
theorem gB152 : xB.getD 152 xB0 = (3, fun G => x_run 4 (fX11_train G)) := (xBk3 (j := 32) (by decide)).trans rfl
theorem ga152 (n : Nat) : (gg n 152).1 = 3 := by rw [gg_f, gB152]
theorem gb152 (n : Nat) : (gg (n + 1) 152).2 = x_run 4 (fX11_train (gg n)) := by rw [gg_s, gB152]
theorem gB153 : xB.getD 153 xB0 = (2, fun G => x_run 5 (fX11_codes G)) := (xBk3 (j := 33) (by decide)).trans rfl
theorem ga153 (n : Nat) : (gg n 153).1 = 2 := by rw [gg_f, gB153]
theorem gb153 (n : Nat) : (gg (n + 1) 153).2 = x_run 5 (fX11_codes (gg n)) := by rw [gg_s, gB153]
theorem gB154 : xB.getD 154 xB0 = (3, fun G => x_run 3 (fX11_slip G)) := (xBk3 (j := 34) (by decide)).trans rfl
theorem ga154 (n : Nat) : (gg n 154).1 = 3 := by rw [gg_f, gB154]
theorem gb154 (n : Nat) : (gg (n + 1) 154).2 = x_run 3 (fX11_slip (gg n)) := by rw [gg_s, gB154]
theorem gB155 : xB.getD 155 xB0 = (5, fun G => x_run 7 (fX11_opens G)) := (xBk3 (j := 35) (by decide)).trans rfl
theorem ga155 (n : Nat) : (gg n 155).1 = 5 := by rw [gg_f, gB155]
theorem gb155 (n : Nat) : (gg (n + 1) 155).2 = x_run 7 (fX11_opens (gg n)) := by rw [gg_s, gB155]
theorem gB156 : xB.getD 156 xB0 = (3, fun G => x_run 3 (fX11_isSlip G)) := (xBk3 (j := 36) (by decide)).trans rfl
theorem ga156 (n : Nat) : (gg n 156).1 = 3 := by rw [gg_f, gB156]
theorem gb156 (n : Nat) : (gg (n + 1) 156).2 = x_run 3 (fX11_isSlip (gg n)) := by rw [gg_s, gB156]
theorem gB157 : xB.getD 157 xB0 = (4, fun G => x_run 5 (fX11_season G)) := (xBk3 (j := 37) (by decide)).trans rfl
theorem ga157 (n : Nat) : (gg n 157).1 = 4 := by rw [gg_f, gB157]
theorem gb157 (n : Nat) : (gg (n + 1) 157).2 = x_run 5 (fX11_season (gg n)) := by rw [gg_s, gB157]
theorem gB158 : xB.getD 158 xB0 = (2, fun G => x_run 2 (fX11_keep G)) := (xBk3 (j := 38) (by decide)).trans rfl
theorem ga158 (n : Nat) : (gg n 158).1 = 2 := by rw [gg_f, gB158]
theorem gb158 (n : Nat) : (gg (n + 1) 158).2 = x_run 2 (fX11_keep (gg n)) := by rw [gg_s, gB158]
theorem gB159 : xB.getD 159 xB0 = (2, fun G => x_run 2 (fX11_again G)) := (xBk3 (j := 39) (by decide)).trans rfl
theorem ga159 (n : Nat) : (gg n 159).1 = 2 := by rw [gg_f, gB159]
theorem gb159 (n : Nat) : (gg (n + 1) 159).2 = x_run 2 (fX11_again (gg n)) := by rw [gg_s, gB159]
theorem gB160 : xB.getD 160 xB0 = (2, fun G => x_run 2 (fX11_count G)) := (xBk4 (j := 0) (by decide)).trans rfl
theorem ga160 (n : Nat) : (gg n 160).1 = 2 := by rw [gg_f, gB160]
theorem gb160 (n : Nat) : (gg (n + 1) 160).2 = x_run 2 (fX11_count (gg n)) := by rw [gg_s, gB160]
theorem gB161 : xB.getD 161 xB0 = (2, fun G => x_run 2 (fX11_row G)) := (xBk4 (j := 1) (by decide)).trans rfl
theorem ga161 (n : Nat) : (gg n 161).1 = 2 := by rw [gg_f, gB161]
theorem gb161 (n : Nat) : (gg (n + 1) 161).2 = x_run 2 (fX11_row (gg n)) := by rw [gg_s, gB161]
theorem gB162 : xB.getD 162 xB0 = (2, fun G => x_run 2 (fX11_tellMore G)) := (xBk4 (j := 2) (by decide)).trans rfl
theorem ga162 (n : Nat) : (gg n 162).1 = 2 := by rw [gg_f, gB162]
theorem gb162 (n : Nat) : (gg (n + 1) 162).2 = x_run 2 (fX11_tellMore (gg n)) := by rw [gg_s, gB162]
theorem gB163 : xB.getD 163 xB0 = (2, fun G => x_run 2 (fX11_tellOne G)) := (xBk4 (j := 3) (by decide)).trans rfl
theorem ga163 (n : Nat) : (gg n 163).1 = 2 := by rw [gg_f, gB163]
theorem gb163 (n : Nat) : (gg (n + 1) 163).2 = x_run 2 (fX11_tellOne (gg n)) := by rw [gg_s, gB163]
theorem gB164 : xB.getD 164 xB0 = (3, fun G => x_run 3 (fX11_tellTwo G)) := (xBk4 (j := 4) (by decide)).trans rfl
theorem ga164 (n : Nat) : (gg n 164).1 = 3 := by rw [gg_f, gB164]
theorem gb164 (n : Nat) : (gg (n + 1) 164).2 = x_run 3 (fX11_tellTwo (gg n)) := by rw [gg_s, gB164]
theorem gB165 : xB.getD 165 xB0 = (4, fun G => x_run 4 (fX11_tellThree G)) := (xBk4 (j := 5) (by decide)).trans rfl
theorem ga165 (n : Nat) : (gg n 165).1 = 4 := by rw [gg_f, gB165]
theorem gb165 (n : Nat) : (gg (n + 1) 165).2 = x_run 4 (fX11_tellThree (gg n)) := by rw [gg_s, gB165]
theorem gB166 : xB.getD 166 xB0 = (4, fun G => x_run 4 (fX11_apart G)) := (xBk4 (j := 6) (by decide)).trans rfl
theorem ga166 (n : Nat) : (gg n 166).1 = 4 := by rw [gg_f, gB166]
theorem gb166 (n : Nat) : (gg (n + 1) 166).2 = x_run 4 (fX11_apart (gg n)) := by rw [gg_s, gB166]
theorem gB167 : xB.getD 167 xB0 = (1, fun G => x_run 1 (fX11_isAtSea G)) := (xBk4 (j := 7) (by decide)).trans rfl
theorem ga167 (n : Nat) : (gg n 167).1 = 1 := by rw [gg_f, gB167]
theorem gb167 (n : Nat) : (gg (n + 1) 167).2 = x_run 1 (fX11_isAtSea (gg n)) := by rw [gg_s, gB167]
theorem gB168 : xB.getD 168 xB0 = (2, fun G => x_run 2 (fX11_cellNumber G)) := (xBk4 (j := 8) (by decide)).trans rfl
theorem ga168 (n : Nat) : (gg n 168).1 = 2 := by rw [gg_f, gB168]
theorem gb168 (n : Nat) : (gg (n + 1) 168).2 = x_run 2 (fX11_cellNumber (gg n)) := by rw [gg_s, gB168]
theorem gB169 : xB.getD 169 xB0 = (1, fun G => x_run 1 (fX12_init G)) := (xBk4 (j := 9) (by decide)).trans rfl
theorem ga169 (n : Nat) : (gg n 169).1 = 1 := by rw [gg_f, gB169]
theorem gb169 (n : Nat) : (gg (n + 1) 169).2 = x_run 1 (fX12_init (gg n)) := by rw [gg_s, gB169]
theorem gB170 : xB.getD 170 xB0 = (1, fun G => x_run 1 (fX12_thrown G)) := (xBk4 (j := 10) (by decide)).trans rfl
theorem ga170 (n : Nat) : (gg n 170).1 = 1 := by rw [gg_f, gB170]
theorem gb170 (n : Nat) : (gg (n + 1) 170).2 = x_run 1 (fX12_thrown (gg n)) := by rw [gg_s, gB170]
theorem gB171 : xB.getD 171 xB0 = (3, fun G => x_run 3 (fX12_in G)) := (xBk4 (j := 11) (by decide)).trans rfl
theorem ga171 (n : Nat) : (gg n 171).1 = 3 := by rw [gg_f, gB171]
theorem gb171 (n : Nat) : (gg (n + 1) 171).2 = x_run 3 (fX12_in (gg n)) := by rw [gg_s, gB171]
theorem gB172 : xB.getD 172 xB0 = (2, fun G => x_run 2 (fX12_has G)) := (xBk4 (j := 12) (by decide)).trans rfl
theorem ga172 (n : Nat) : (gg n 172).1 = 2 := by rw [gg_f, gB172]
theorem gb172 (n : Nat) : (gg (n + 1) 172).2 = x_run 2 (fX12_has (gg n)) := by rw [gg_s, gB172]
theorem gB173 : xB.getD 173 xB0 = (1, fun G => x_run 1 (fX12_lost G)) := (xBk4 (j := 13) (by decide)).trans rfl
theorem ga173 (n : Nat) : (gg n 173).1 = 1 := by rw [gg_f, gB173]
theorem gb173 (n : Nat) : (gg (n + 1) 173).2 = x_run 1 (fX12_lost (gg n)) := by rw [gg_s, gB173]
theorem gB174 : xB.getD 174 xB0 = (2, fun G => x_run 2 (fX12_tell G)) := (xBk4 (j := 14) (by decide)).trans rfl
theorem ga174 (n : Nat) : (gg n 174).1 = 2 := by rw [gg_f, gB174]
theorem gb174 (n : Nat) : (gg (n + 1) 174).2 = x_run 2 (fX12_tell (gg n)) := by rw [gg_s, gB174]
theorem gB175 : xB.getD 175 xB0 = (2, fun G => x_run 2 (fX12_isBoat G)) := (xBk4 (j := 15) (by decide)).trans rfl
theorem ga175 (n : Nat) : (gg n 175).1 = 2 := by rw [gg_f, gB175]
theorem gb175 (n : Nat) : (gg (n + 1) 175).2 = x_run 2 (fX12_isBoat (gg n)) := by rw [gg_s, gB175]
theorem gB176 : xB.getD 176 xB0 = (2, fun G => x_run 2 (fX12_isGull G)) := (xBk4 (j := 16) (by decide)).trans rfl
theorem ga176 (n : Nat) : (gg n 176).1 = 2 := by rw [gg_f, gB176]
theorem gb176 (n : Nat) : (gg (n + 1) 176).2 = x_run 2 (fX12_isGull (gg n)) := by rw [gg_s, gB176]
theorem gB177 : xB.getD 177 xB0 = (2, fun G => x_run 2 (fX12_isLetter G)) := (xBk4 (j := 17) (by decide)).trans rfl
theorem ga177 (n : Nat) : (gg n 177).1 = 2 := by rw [gg_f, gB177]
theorem gb177 (n : Nat) : (gg (n + 1) 177).2 = x_run 2 (fX12_isLetter (gg n)) := by rw [gg_s, gB177]
theorem gB178 : xB.getD 178 xB0 = (2, fun G => x_run 3 (fX12_sign G)) := (xBk4 (j := 18) (by decide)).trans rfl
theorem ga178 (n : Nat) : (gg n 178).1 = 2 := by rw [gg_f, gB178]
theorem gb178 (n : Nat) : (gg (n + 1) 178).2 = x_run 3 (fX12_sign (gg n)) := by rw [gg_s, gB178]
theorem gB179 : xB.getD 179 xB0 = (2, fun G => x_run 2 (fX12_end G)) := (xBk4 (j := 19) (by decide)).trans rfl
theorem ga179 (n : Nat) : (gg n 179).1 = 2 := by rw [gg_f, gB179]
theorem gb179 (n : Nat) : (gg (n + 1) 179).2 = x_run 2 (fX12_end (gg n)) := by rw [gg_s, gB179]
theorem gB180 : xB.getD 180 xB0 = (4, fun G => x_run 4 (fX12_begin G)) := (xBk4 (j := 20) (by decide)).trans rfl
theorem ga180 (n : Nat) : (gg n 180).1 = 4 := by rw [gg_f, gB180]
theorem gb180 (n : Nat) : (gg (n + 1) 180).2 = x_run 4 (fX12_begin (gg n)) := by rw [gg_s, gB180]
theorem gB181 : xB.getD 181 xB0 = (1, fun G => x_run 1 (fX12_here G)) := (xBk4 (j := 21) (by decide)).trans rfl
theorem ga181 (n : Nat) : (gg n 181).1 = 1 := by rw [gg_f, gB181]
theorem gb181 (n : Nat) : (gg (n + 1) 181).2 = x_run 1 (fX12_here (gg n)) := by rw [gg_s, gB181]
theorem gB182 : xB.getD 182 xB0 = (1, fun G => x_run 1 (fX12_fine G)) := (xBk4 (j := 22) (by decide)).trans rfl
theorem ga182 (n : Nat) : (gg n 182).1 = 1 := by rw [gg_f, gB182]
theorem gb182 (n : Nat) : (gg (n + 1) 182).2 = x_run 1 (fX12_fine (gg n)) := by rw [gg_s, gB182]
theorem gB183 : xB.getD 183 xB0 = (2, fun G => x_run 2 (fX12_fault G)) := (xBk4 (j := 23) (by decide)).trans rfl
theorem ga183 (n : Nat) : (gg n 183).1 = 2 := by rw [gg_f, gB183]
theorem gb183 (n : Nat) : (gg (n + 1) 183).2 = x_run 2 (fX12_fault (gg n)) := by rw [gg_s, gB183]
theorem gB184 : xB.getD 184 xB0 = (2, fun G => x_run 2 (fX12_passes G)) := (xBk4 (j := 24) (by decide)).trans rfl
theorem ga184 (n : Nat) : (gg n 184).1 = 2 := by rw [gg_f, gB184]
theorem gb184 (n : Nat) : (gg (n + 1) 184).2 = x_run 2 (fX12_passes (gg n)) := by rw [gg_s, gB184]
theorem gB185 : xB.getD 185 xB0 = (2, fun G => x_run 2 (fX12_need G)) := (xBk4 (j := 25) (by decide)).trans rfl
theorem ga185 (n : Nat) : (gg n 185).1 = 2 := by rw [gg_f, gB185]
theorem gb185 (n : Nat) : (gg (n + 1) 185).2 = x_run 2 (fX12_need (gg n)) := by rw [gg_s, gB185]
theorem gB186 : xB.getD 186 xB0 = (3, fun G => x_run 3 (fX12_digit G)) := (xBk4 (j := 26) (by decide)).trans rfl
theorem ga186 (n : Nat) : (gg n 186).1 = 3 := by rw [gg_f, gB186]
theorem gb186 (n : Nat) : (gg (n + 1) 186).2 = x_run 3 (fX12_digit (gg n)) := by rw [gg_s, gB186]
theorem gB187 : xB.getD 187 xB0 = (2, fun G => x_run 4 (fX12_number G)) := (xBk4 (j := 27) (by decide)).trans rfl
theorem ga187 (n : Nat) : (gg n 187).1 = 2 := by rw [gg_f, gB187]
theorem gb187 (n : Nat) : (gg (n + 1) 187).2 = x_run 4 (fX12_number (gg n)) := by rw [gg_s, gB187]
theorem gB188 : xB.getD 188 xB0 = (2, fun G => x_run 2 (fX12_letter G)) := (xBk4 (j := 28) (by decide)).trans rfl
theorem ga188 (n : Nat) : (gg n 188).1 = 2 := by rw [gg_f, gB188]
theorem gb188 (n : Nat) : (gg (n + 1) 188).2 = x_run 2 (fX12_letter (gg n)) := by rw [gg_s, gB188]
theorem gB189 : xB.getD 189 xB0 = (1, fun G => x_run 2 (fX12_cell G)) := (xBk4 (j := 29) (by decide)).trans rfl
theorem ga189 (n : Nat) : (gg n 189).1 = 1 := by rw [gg_f, gB189]
theorem gb189 (n : Nat) : (gg (n + 1) 189).2 = x_run 2 (fX12_cell (gg n)) := by rw [gg_s, gB189]
theorem gB190 : xB.getD 190 xB0 = (2, fun G => x_run 6 (fX12_readBoat G)) := (xBk4 (j := 30) (by decide)).trans rfl
theorem ga190 (n : Nat) : (gg n 190).1 = 2 := by rw [gg_f, gB190]
theorem gb190 (n : Nat) : (gg (n + 1) 190).2 = x_run 6 (fX12_readBoat (gg n)) := by rw [gg_s, gB190]
theorem gB191 : xB.getD 191 xB0 = (1, fun G => x_run 4 (fX12_fleet G)) := (xBk4 (j := 31) (by decide)).trans rfl
theorem ga191 (n : Nat) : (gg n 191).1 = 1 := by rw [gg_f, gB191]
theorem gb191 (n : Nat) : (gg (n + 1) 191).2 = x_run 4 (fX12_fleet (gg n)) := by rw [gg_s, gB191]
theorem gB192 : xB.getD 192 xB0 = (1, fun G => x_run 4 (fX12_gulls G)) := (xBk4 (j := 32) (by decide)).trans rfl
theorem ga192 (n : Nat) : (gg n 192).1 = 1 := by rw [gg_f, gB192]
theorem gb192 (n : Nat) : (gg (n + 1) 192).2 = x_run 4 (fX12_gulls (gg n)) := by rw [gg_s, gB192]
theorem gB193 : xB.getD 193 xB0 = (2, fun G => x_run 3 (fX12_held G)) := (xBk4 (j := 33) (by decide)).trans rfl
theorem ga193 (n : Nat) : (gg n 193).1 = 2 := by rw [gg_f, gB193]
theorem gb193 (n : Nat) : (gg (n + 1) 193).2 = x_run 3 (fX12_held (gg n)) := by rw [gg_s, gB193]
theorem gB194 : xB.getD 194 xB0 = (2, fun G => x_run 5 (fX12_sum G)) := (xBk4 (j := 34) (by decide)).trans rfl
theorem ga194 (n : Nat) : (gg n 194).1 = 2 := by rw [gg_f, gB194]
theorem gb194 (n : Nat) : (gg (n + 1) 194).2 = x_run 5 (fX12_sum (gg n)) := by rw [gg_s, gB194]
theorem gB195 : xB.getD 195 xB0 = (2, fun G => x_run 5 (fX12_product G)) := (xBk4 (j := 35) (by decide)).trans rfl
theorem ga195 (n : Nat) : (gg n 195).1 = 2 := by rw [gg_f, gB195]
theorem gb195 (n : Nat) : (gg (n + 1) 195).2 = x_run 5 (fX12_product (gg n)) := by rw [gg_s, gB195]
theorem gB196 : xB.getD 196 xB0 = (1, fun G => x_run 1 (fX12_letterOf G)) := (xBk4 (j := 36) (by decide)).trans rfl
theorem ga196 (n : Nat) : (gg n 196).1 = 1 := by rw [gg_f, gB196]
theorem gb196 (n : Nat) : (gg (n + 1) 196).2 = x_run 1 (fX12_letterOf (gg n)) := by rw [gg_s, gB196]
theorem gB197 : xB.getD 197 xB0 = (2, fun G => x_run 4 (fX12_thing G)) := (xBk4 (j := 37) (by decide)).trans rfl
theorem ga197 (n : Nat) : (gg n 197).1 = 2 := by rw [gg_f, gB197]
theorem gb197 (n : Nat) : (gg (n + 1) 197).2 = x_run 4 (fX12_thing (gg n)) := by rw [gg_s, gB197]
theorem gB198 : xB.getD 198 xB0 = (1, fun G => x_run 3 (fX12_rule G)) := (xBk4 (j := 38) (by decide)).trans rfl
theorem ga198 (n : Nat) : (gg n 198).1 = 1 := by rw [gg_f, gB198]
theorem gb198 (n : Nat) : (gg (n + 1) 198).2 = x_run 3 (fX12_rule (gg n)) := by rw [gg_s, gB198]
theorem gB199 : xB.getD 199 xB0 = (4, fun G => x_run 5 (fX12_rangeOf G)) := (xBk4 (j := 39) (by decide)).trans rfl
theorem ga199 (n : Nat) : (gg n 199).1 = 4 := by rw [gg_f, gB199]
theorem gb199 (n : Nat) : (gg (n + 1) 199).2 = x_run 5 (fX12_rangeOf (gg n)) := by rw [gg_s, gB199]
theorem gB200 : xB.getD 200 xB0 = (3, fun G => x_run 3 (fX12_boat G)) := (xBk5 (j := 0) (by decide)).trans rfl
theorem ga200 (n : Nat) : (gg n 200).1 = 3 := by rw [gg_f, gB200]
theorem gb200 (n : Nat) : (gg (n + 1) 200).2 = x_run 3 (fX12_boat (gg n)) := by rw [gg_s, gB200]
theorem gB201 : xB.getD 201 xB0 = (3, fun G => x_run 3 (fX12_gull G)) := (xBk5 (j := 1) (by decide)).trans rfl
theorem ga201 (n : Nat) : (gg n 201).1 = 3 := by rw [gg_f, gB201]
theorem gb201 (n : Nat) : (gg (n + 1) 201).2 = x_run 3 (fX12_gull (gg n)) := by rw [gg_s, gB201]
theorem gB202 : xB.getD 202 xB0 = (3, fun G => x_run 3 (fX12_letter_ G)) := (xBk5 (j := 2) (by decide)).trans rfl
theorem ga202 (n : Nat) : (gg n 202).1 = 3 := by rw [gg_f, gB202]
theorem gb202 (n : Nat) : (gg (n + 1) 202).2 = x_run 3 (fX12_letter_ (gg n)) := by rw [gg_s, gB202]
theorem gB203 : xB.getD 203 xB0 = (3, fun G => x_run 5 (fX12_lettersAt G)) := (xBk5 (j := 3) (by decide)).trans rfl
theorem ga203 (n : Nat) : (gg n 203).1 = 3 := by rw [gg_f, gB203]
theorem gb203 (n : Nat) : (gg (n + 1) 203).2 = x_run 5 (fX12_lettersAt (gg n)) := by rw [gg_s, gB203]
theorem gB204 : xB.getD 204 xB0 = (3, fun G => x_run 4 (fX12_weather G)) := (xBk5 (j := 4) (by decide)).trans rfl
theorem ga204 (n : Nat) : (gg n 204).1 = 3 := by rw [gg_f, gB204]
theorem gb204 (n : Nat) : (gg (n + 1) 204).2 = x_run 4 (fX12_weather (gg n)) := by rw [gg_s, gB204]
theorem gB205 : xB.getD 205 xB0 = (5, fun G => x_run 9 (fX12_sheet G)) := (xBk5 (j := 5) (by decide)).trans rfl
theorem ga205 (n : Nat) : (gg n 205).1 = 5 := by rw [gg_f, gB205]
theorem gb205 (n : Nat) : (gg (n + 1) 205).2 = x_run 9 (fX12_sheet (gg n)) := by rw [gg_s, gB205]
theorem gB206 : xB.getD 206 xB0 = (2, fun G => x_run 3 (fX12_goBoats G)) := (xBk5 (j := 6) (by decide)).trans rfl
theorem ga206 (n : Nat) : (gg n 206).1 = 2 := by rw [gg_f, gB206]
theorem gb206 (n : Nat) : (gg (n + 1) 206).2 = x_run 3 (fX12_goBoats (gg n)) := by rw [gg_s, gB206]
theorem gB207 : xB.getD 207 xB0 = (4, fun G => x_run 6 (fX12_farTo G)) := (xBk5 (j := 7) (by decide)).trans rfl
theorem ga207 (n : Nat) : (gg n 207).1 = 4 := by rw [gg_f, gB207]
theorem gb207 (n : Nat) : (gg (n + 1) 207).2 = x_run 6 (fX12_farTo (gg n)) := by rw [gg_s, gB207]
theorem gB208 : xB.getD 208 xB0 = (4, fun G => x_run 6 (fX12_nearestTo G)) := (xBk5 (j := 8) (by decide)).trans rfl
theorem ga208 (n : Nat) : (gg n 208).1 = 4 := by rw [gg_f, gB208]
theorem gb208 (n : Nat) : (gg (n + 1) 208).2 = x_run 6 (fX12_nearestTo (gg n)) := by rw [gg_s, gB208]
theorem gB209 : xB.getD 209 xB0 = (3, fun G => x_run 4 (fX12_aimOf G)) := (xBk5 (j := 9) (by decide)).trans rfl
theorem ga209 (n : Nat) : (gg n 209).1 = 3 := by rw [gg_f, gB209]
theorem gb209 (n : Nat) : (gg (n + 1) 209).2 = x_run 4 (fX12_aimOf (gg n)) := by rw [gg_s, gB209]
theorem gB210 : xB.getD 210 xB0 = (3, fun G => x_run 3 (fX12_toward G)) := (xBk5 (j := 10) (by decide)).trans rfl
theorem ga210 (n : Nat) : (gg n 210).1 = 3 := by rw [gg_f, gB210]
theorem gb210 (n : Nat) : (gg (n + 1) 210).2 = x_run 3 (fX12_toward (gg n)) := by rw [gg_s, gB210]
theorem gB211 : xB.getD 211 xB0 = (2, fun G => x_run 3 (fX12_goHalf G)) := (xBk5 (j := 11) (by decide)).trans rfl
theorem ga211 (n : Nat) : (gg n 211).1 = 2 := by rw [gg_f, gB211]
theorem gb211 (n : Nat) : (gg (n + 1) 211).2 = x_run 3 (fX12_goHalf (gg n)) := by rw [gg_s, gB211]
theorem gB212 : xB.getD 212 xB0 = (3, fun G => x_run 9 (fX12_goGull G)) := (xBk5 (j := 12) (by decide)).trans rfl
theorem ga212 (n : Nat) : (gg n 212).1 = 3 := by rw [gg_f, gB212]
theorem gb212 (n : Nat) : (gg (n + 1) 212).2 = x_run 9 (fX12_goGull (gg n)) := by rw [gg_s, gB212]
theorem gB213 : xB.getD 213 xB0 = (3, fun G => x_run 4 (fX12_lay G)) := (xBk5 (j := 13) (by decide)).trans rfl
theorem ga213 (n : Nat) : (gg n 213).1 = 3 := by rw [gg_f, gB213]
theorem gb213 (n : Nat) : (gg (n + 1) 213).2 = x_run 4 (fX12_lay (gg n)) := by rw [gg_s, gB213]
theorem gB214 : xB.getD 214 xB0 = (2, fun G => x_run 3 (fX12_remember G)) := (xBk5 (j := 14) (by decide)).trans rfl
theorem ga214 (n : Nat) : (gg n 214).1 = 2 := by rw [gg_f, gB214]
theorem gb214 (n : Nat) : (gg (n + 1) 214).2 = x_run 3 (fX12_remember (gg n)) := by rw [gg_s, gB214]
theorem gB215 : xB.getD 215 xB0 = (2, fun G => x_run 2 (fX12_refusesWrite G)) := (xBk5 (j := 15) (by decide)).trans rfl
theorem ga215 (n : Nat) : (gg n 215).1 = 2 := by rw [gg_f, gB215]
theorem gb215 (n : Nat) : (gg (n + 1) 215).2 = x_run 2 (fX12_refusesWrite (gg n)) := by rw [gg_s, gB215]
theorem gB216 : xB.getD 216 xB0 = (2, fun G => x_run 3 (fX12_goWrite G)) := (xBk5 (j := 16) (by decide)).trans rfl
theorem ga216 (n : Nat) : (gg n 216).1 = 2 := by rw [gg_f, gB216]
theorem gb216 (n : Nat) : (gg (n + 1) 216).2 = x_run 3 (fX12_goWrite (gg n)) := by rw [gg_s, gB216]
theorem gB217 : xB.getD 217 xB0 = (2, fun G => x_run 3 (fX12_write G)) := (xBk5 (j := 17) (by decide)).trans rfl
theorem ga217 (n : Nat) : (gg n 217).1 = 2 := by rw [gg_f, gB217]
theorem gb217 (n : Nat) : (gg (n + 1) 217).2 = x_run 3 (fX12_write (gg n)) := by rw [gg_s, gB217]
theorem gB218 : xB.getD 218 xB0 = (3, fun G => x_run 3 (fX12_refusesSend G)) := (xBk5 (j := 18) (by decide)).trans rfl
theorem ga218 (n : Nat) : (gg n 218).1 = 3 := by rw [gg_f, gB218]
theorem gb218 (n : Nat) : (gg (n + 1) 218).2 = x_run 3 (fX12_refusesSend (gg n)) := by rw [gg_s, gB218]
theorem gB219 : xB.getD 219 xB0 = (3, fun G => x_run 3 (fX12_goSend G)) := (xBk5 (j := 19) (by decide)).trans rfl
theorem ga219 (n : Nat) : (gg n 219).1 = 3 := by rw [gg_f, gB219]
theorem gb219 (n : Nat) : (gg (n + 1) 219).2 = x_run 3 (fX12_goSend (gg n)) := by rw [gg_s, gB219]
theorem gB220 : xB.getD 220 xB0 = (3, fun G => x_run 4 (fX12_send G)) := (xBk5 (j := 20) (by decide)).trans rfl
theorem ga220 (n : Nat) : (gg n 220).1 = 3 := by rw [gg_f, gB220]
theorem gb220 (n : Nat) : (gg (n + 1) 220).2 = x_run 4 (fX12_send (gg n)) := by rw [gg_s, gB220]
theorem gB221 : xB.getD 221 xB0 = (3, fun G => x_run 4 (fX12_paint G)) := (xBk5 (j := 21) (by decide)).trans rfl
theorem ga221 (n : Nat) : (gg n 221).1 = 3 := by rw [gg_f, gB221]
theorem gb221 (n : Nat) : (gg (n + 1) 221).2 = x_run 4 (fX12_paint (gg n)) := by rw [gg_s, gB221]
theorem gB222 : xB.getD 222 xB0 = (2, fun G => x_run 2 (fX12_refusesRest G)) := (xBk5 (j := 22) (by decide)).trans rfl
theorem ga222 (n : Nat) : (gg n 222).1 = 2 := by rw [gg_f, gB222]
theorem gb222 (n : Nat) : (gg (n + 1) 222).2 = x_run 2 (fX12_refusesRest (gg n)) := by rw [gg_s, gB222]
theorem gB223 : xB.getD 223 xB0 = (2, fun G => x_run 2 (fX12_goShow G)) := (xBk5 (j := 23) (by decide)).trans rfl
theorem ga223 (n : Nat) : (gg n 223).1 = 2 := by rw [gg_f, gB223]
theorem gb223 (n : Nat) : (gg (n + 1) 223).2 = x_run 2 (fX12_goShow (gg n)) := by rw [gg_s, gB223]
theorem gB224 : xB.getD 224 xB0 = (2, fun G => x_run 3 (fX12_show G)) := (xBk5 (j := 24) (by decide)).trans rfl
theorem ga224 (n : Nat) : (gg n 224).1 = 2 := by rw [gg_f, gB224]
theorem gb224 (n : Nat) : (gg (n + 1) 224).2 = x_run 3 (fX12_show (gg n)) := by rw [gg_s, gB224]
theorem gB225 : xB.getD 225 xB0 = (3, fun G => x_run 4 (fX12_chum G)) := (xBk5 (j := 25) (by decide)).trans rfl
theorem ga225 (n : Nat) : (gg n 225).1 = 3 := by rw [gg_f, gB225]
theorem gb225 (n : Nat) : (gg (n + 1) 225).2 = x_run 4 (fX12_chum (gg n)) := by rw [gg_s, gB225]
theorem gB226 : xB.getD 226 xB0 = (2, fun G => x_run 3 (fX12_goFeed G)) := (xBk5 (j := 26) (by decide)).trans rfl
theorem ga226 (n : Nat) : (gg n 226).1 = 2 := by rw [gg_f, gB226]
theorem gb226 (n : Nat) : (gg (n + 1) 226).2 = x_run 3 (fX12_goFeed (gg n)) := by rw [gg_s, gB226]
theorem gB227 : xB.getD 227 xB0 = (2, fun G => x_run 3 (fX12_feed G)) := (xBk5 (j := 27) (by decide)).trans rfl
theorem ga227 (n : Nat) : (gg n 227).1 = 2 := by rw [gg_f, gB227]
theorem gb227 (n : Nat) : (gg (n + 1) 227).2 = x_run 3 (fX12_feed (gg n)) := by rw [gg_s, gB227]
theorem gB228 : xB.getD 228 xB0 = (3, fun G => x_run 4 (fX12_goHalves G)) := (xBk5 (j := 28) (by decide)).trans rfl
theorem ga228 (n : Nat) : (gg n 228).1 = 3 := by rw [gg_f, gB228]
theorem gb228 (n : Nat) : (gg (n + 1) 228).2 = x_run 4 (fX12_goHalves (gg n)) := by rw [gg_s, gB228]
theorem gB229 : xB.getD 229 xB0 = (1, fun G => x_run 1 (fX12_beginHalves G)) := (xBk5 (j := 29) (by decide)).trans rfl
theorem ga229 (n : Nat) : (gg n 229).1 = 1 := by rw [gg_f, gB229]
theorem gb229 (n : Nat) : (gg (n + 1) 229).2 = x_run 1 (fX12_beginHalves (gg n)) := by rw [gg_s, gB229]
theorem gB230 : xB.getD 230 xB0 = (1, fun G => x_run 1 (fX12_tellHalves G)) := (xBk5 (j := 30) (by decide)).trans rfl
theorem ga230 (n : Nat) : (gg n 230).1 = 1 := by rw [gg_f, gB230]
theorem gb230 (n : Nat) : (gg (n + 1) 230).2 = x_run 1 (fX12_tellHalves (gg n)) := by rw [gg_s, gB230]
theorem gB231 : xB.getD 231 xB0 = (1, fun G => x_run 1 (fX12_half G)) := (xBk5 (j := 31) (by decide)).trans rfl
theorem ga231 (n : Nat) : (gg n 231).1 = 1 := by rw [gg_f, gB231]
theorem gb231 (n : Nat) : (gg (n + 1) 231).2 = x_run 1 (fX12_half (gg n)) := by rw [gg_s, gB231]
theorem gB232 : xB.getD 232 xB0 = (2, fun G => x_run 2 (fX12_halves G)) := (xBk5 (j := 32) (by decide)).trans rfl
theorem ga232 (n : Nat) : (gg n 232).1 = 2 := by rw [gg_f, gB232]
theorem gb232 (n : Nat) : (gg (n + 1) 232).2 = x_run 2 (fX12_halves (gg n)) := by rw [gg_s, gB232]
theorem gB233 : xB.getD 233 xB0 = (1, fun G => x_run 4 (fX12_day G)) := (xBk5 (j := 33) (by decide)).trans rfl
theorem ga233 (n : Nat) : (gg n 233).1 = 1 := by rw [gg_f, gB233]
theorem gb233 (n : Nat) : (gg (n + 1) 233).2 = x_run 4 (fX12_day (gg n)) := by rw [gg_s, gB233]
theorem gB234 : xB.getD 234 xB0 = (2, fun G => x_run 3 (fX12_readAct G)) := (xBk5 (j := 34) (by decide)).trans rfl
theorem ga234 (n : Nat) : (gg n 234).1 = 2 := by rw [gg_f, gB234]
theorem gb234 (n : Nat) : (gg (n + 1) 234).2 = x_run 3 (fX12_readAct (gg n)) := by rw [gg_s, gB234]
theorem gB235 : xB.getD 235 xB0 = (4, fun G => x_run 4 (fX12_act G)) := (xBk5 (j := 35) (by decide)).trans rfl
theorem ga235 (n : Nat) : (gg n 235).1 = 4 := by rw [gg_f, gB235]
theorem gb235 (n : Nat) : (gg (n + 1) 235).2 = x_run 4 (fX12_act (gg n)) := by rw [gg_s, gB235]
theorem gB236 : xB.getD 236 xB0 = (1, fun G => x_run 2 (fX12_undo G)) := (xBk5 (j := 36) (by decide)).trans rfl
theorem ga236 (n : Nat) : (gg n 236).1 = 1 := by rw [gg_f, gB236]
theorem gb236 (n : Nat) : (gg (n + 1) 236).2 = x_run 2 (fX12_undo (gg n)) := by rw [gg_s, gB236]
theorem gB237 : xB.getD 237 xB0 = (1, fun G => x_run 1 (fX12_isLook G)) := (xBk5 (j := 37) (by decide)).trans rfl
theorem ga237 (n : Nat) : (gg n 237).1 = 1 := by rw [gg_f, gB237]
theorem gb237 (n : Nat) : (gg (n + 1) 237).2 = x_run 1 (fX12_isLook (gg n)) := by rw [gg_s, gB237]
theorem gB238 : xB.getD 238 xB0 = (3, fun G => x_run 4 (fX12_where G)) := (xBk5 (j := 38) (by decide)).trans rfl
theorem ga238 (n : Nat) : (gg n 238).1 = 3 := by rw [gg_f, gB238]
theorem gb238 (n : Nat) : (gg (n + 1) 238).2 = x_run 4 (fX12_where (gg n)) := by rw [gg_s, gB238]
theorem gB239 : xB.getD 239 xB0 = (2, fun G => x_run 3 (fX12_comesThen G)) := (xBk5 (j := 39) (by decide)).trans rfl
theorem ga239 (n : Nat) : (gg n 239).1 = 2 := by rw [gg_f, gB239]
theorem gb239 (n : Nat) : (gg (n + 1) 239).2 = x_run 3 (fX12_comesThen (gg n)) := by rw [gg_s, gB239]
theorem gB240 : xB.getD 240 xB0 = (2, fun G => x_run 2 (fX12_comes G)) := (xBk6 (j := 0) (by decide)).trans rfl
theorem ga240 (n : Nat) : (gg n 240).1 = 2 := by rw [gg_f, gB240]
theorem gb240 (n : Nat) : (gg (n + 1) 240).2 = x_run 2 (fX12_comes (gg n)) := by rw [gg_s, gB240]
theorem gB241 : xB.getD 241 xB0 = (2, fun G => x_run 2 (fX12_would G)) := (xBk6 (j := 1) (by decide)).trans rfl
theorem ga241 (n : Nat) : (gg n 241).1 = 2 := by rw [gg_f, gB241]
theorem gb241 (n : Nat) : (gg (n + 1) 241).2 = x_run 2 (fX12_would (gg n)) := by rw [gg_s, gB241]
theorem gB242 : xB.getD 242 xB0 = (2, fun G => x_run 4 (fX12_onDeck G)) := (xBk6 (j := 2) (by decide)).trans rfl
theorem ga242 (n : Nat) : (gg n 242).1 = 2 := by rw [gg_f, gB242]
theorem gb242 (n : Nat) : (gg (n + 1) 242).2 = x_run 4 (fX12_onDeck (gg n)) := by rw [gg_s, gB242]
theorem gB243 : xB.getD 243 xB0 = (2, fun G => x_run 3 (fX12_delivers G)) := (xBk6 (j := 3) (by decide)).trans rfl
theorem ga243 (n : Nat) : (gg n 243).1 = 2 := by rw [gg_f, gB243]
theorem gb243 (n : Nat) : (gg (n + 1) 243).2 = x_run 3 (fX12_delivers (gg n)) := by rw [gg_s, gB243]
theorem gB244 : xB.getD 244 xB0 = (2, fun G => x_run 5 (fX12_due G)) := (xBk6 (j := 4) (by decide)).trans rfl
theorem ga244 (n : Nat) : (gg n 244).1 = 2 := by rw [gg_f, gB244]
theorem gb244 (n : Nat) : (gg (n + 1) 244).2 = x_run 5 (fX12_due (gg n)) := by rw [gg_s, gB244]
theorem gB245 : xB.getD 245 xB0 = (2, fun G => x_run 4 (fX12_heads G)) := (xBk6 (j := 5) (by decide)).trans rfl
theorem ga245 (n : Nat) : (gg n 245).1 = 2 := by rw [gg_f, gB245]
theorem gb245 (n : Nat) : (gg (n + 1) 245).2 = x_run 4 (fX12_heads (gg n)) := by rw [gg_s, gB245]
theorem gB246 : xB.getD 246 xB0 = (3, fun G => x_run 3 (fX12_apart G)) := (xBk6 (j := 6) (by decide)).trans rfl
theorem ga246 (n : Nat) : (gg n 246).1 = 3 := by rw [gg_f, gB246]
theorem gb246 (n : Nat) : (gg (n + 1) 246).2 = x_run 3 (fX12_apart (gg n)) := by rw [gg_s, gB246]
theorem gB247 : xB.getD 247 xB0 = (3, fun G => x_run 6 (fX12_nearest G)) := (xBk6 (j := 7) (by decide)).trans rfl
theorem ga247 (n : Nat) : (gg n 247).1 = 3 := by rw [gg_f, gB247]
theorem gb247 (n : Nat) : (gg (n + 1) 247).2 = x_run 6 (fX12_nearest (gg n)) := by rw [gg_s, gB247]
theorem gB248 : xB.getD 248 xB0 = (4, fun G => x_run 9 (fX12_shoutOn G)) := (xBk6 (j := 8) (by decide)).trans rfl
theorem ga248 (n : Nat) : (gg n 248).1 = 4 := by rw [gg_f, gB248]
theorem gb248 (n : Nat) : (gg (n + 1) 248).2 = x_run 9 (fX12_shoutOn (gg n)) := by rw [gg_s, gB248]
theorem gB249 : xB.getD 249 xB0 = (2, fun G => x_run 2 (fX12_areBoats G)) := (xBk6 (j := 9) (by decide)).trans rfl
theorem ga249 (n : Nat) : (gg n 249).1 = 2 := by rw [gg_f, gB249]
theorem gb249 (n : Nat) : (gg (n + 1) 249).2 = x_run 2 (fX12_areBoats (gg n)) := by rw [gg_s, gB249]
theorem gB250 : xB.getD 250 xB0 = (1, fun G => x_run 1 (fX12_isShout G)) := (xBk6 (j := 10) (by decide)).trans rfl
theorem ga250 (n : Nat) : (gg n 250).1 = 1 := by rw [gg_f, gB250]
theorem gb250 (n : Nat) : (gg (n + 1) 250).2 = x_run 1 (fX12_isShout (gg n)) := by rw [gg_s, gB250]
theorem gB251 : xB.getD 251 xB0 = (4, fun G => x_run 7 (fX12_shoutFor G)) := (xBk6 (j := 11) (by decide)).trans rfl
theorem ga251 (n : Nat) : (gg n 251).1 = 4 := by rw [gg_f, gB251]
theorem gb251 (n : Nat) : (gg (n + 1) 251).2 = x_run 7 (fX12_shoutFor (gg n)) := by rw [gg_s, gB251]
theorem gB252 : xB.getD 252 xB0 = (4, fun G => x_run 6 (fX12_shouted G)) := (xBk6 (j := 12) (by decide)).trans rfl
theorem ga252 (n : Nat) : (gg n 252).1 = 4 := by rw [gg_f, gB252]
theorem gb252 (n : Nat) : (gg (n + 1) 252).2 = x_run 6 (fX12_shouted (gg n)) := by rw [gg_s, gB252]
theorem gB253 : xB.getD 253 xB0 = (3, fun G => x_run 5 (fX12_allKnow G)) := (xBk6 (j := 13) (by decide)).trans rfl
theorem ga253 (n : Nat) : (gg n 253).1 = 3 := by rw [gg_f, gB253]
theorem gb253 (n : Nat) : (gg (n + 1) 253).2 = x_run 5 (fX12_allKnow (gg n)) := by rw [gg_s, gB253]
theorem gB254 : xB.getD 254 xB0 = (3, fun G => x_run 4 (fX12_spreads G)) := (xBk6 (j := 14) (by decide)).trans rfl
theorem ga254 (n : Nat) : (gg n 254).1 = 3 := by rw [gg_f, gB254]
theorem gb254 (n : Nat) : (gg (n + 1) 254).2 = x_run 4 (fX12_spreads (gg n)) := by rw [gg_s, gB254]
theorem gB255 : xB.getD 255 xB0 = (2, fun G => x_run 6 (fX12_teller G)) := (xBk6 (j := 15) (by decide)).trans rfl
theorem ga255 (n : Nat) : (gg n 255).1 = 2 := by rw [gg_f, gB255]
theorem gb255 (n : Nat) : (gg (n + 1) 255).2 = x_run 6 (fX12_teller (gg n)) := by rw [gg_s, gB255]
theorem gB256 : xB.getD 256 xB0 = (4, fun G => x_run 9 (fX12_ordered G)) := (xBk6 (j := 16) (by decide)).trans rfl
theorem ga256 (n : Nat) : (gg n 256).1 = 4 := by rw [gg_f, gB256]
theorem gb256 (n : Nat) : (gg (n + 1) 256).2 = x_run 9 (fX12_ordered (gg n)) := by rw [gg_s, gB256]
theorem gB257 : xB.getD 257 xB0 = (3, fun G => x_run 8 (fX12_order G)) := (xBk6 (j := 17) (by decide)).trans rfl
theorem ga257 (n : Nat) : (gg n 257).1 = 3 := by rw [gg_f, gB257]
theorem gb257 (n : Nat) : (gg (n + 1) 257).2 = x_run 8 (fX12_order (gg n)) := by rw [gg_s, gB257]
theorem gB258 : xB.getD 258 xB0 = (3, fun G => x_run 5 (fX12_stolen G)) := (xBk6 (j := 18) (by decide)).trans rfl
theorem ga258 (n : Nat) : (gg n 258).1 = 3 := by rw [gg_f, gB258]
theorem gb258 (n : Nat) : (gg (n + 1) 258).2 = x_run 5 (fX12_stolen (gg n)) := by rw [gg_s, gB258]
theorem gB259 : xB.getD 259 xB0 = (2, fun G => x_run 6 (fX12_thief G)) := (xBk6 (j := 19) (by decide)).trans rfl
theorem ga259 (n : Nat) : (gg n 259).1 = 2 := by rw [gg_f, gB259]
theorem gb259 (n : Nat) : (gg (n + 1) 259).2 = x_run 6 (fX12_thief (gg n)) := by rw [gg_s, gB259]
theorem gB260 : xB.getD 260 xB0 = (1, fun G => x_run 5 (fX12_astray G)) := (xBk6 (j := 20) (by decide)).trans rfl
theorem ga260 (n : Nat) : (gg n 260).1 = 1 := by rw [gg_f, gB260]
theorem gb260 (n : Nat) : (gg (n + 1) 260).2 = x_run 5 (fX12_astray (gg n)) := by rw [gg_s, gB260]
theorem gB261 : xB.getD 261 xB0 = (5, fun G => x_run 13 (fX12_comesJust G)) := (xBk6 (j := 21) (by decide)).trans rfl
theorem ga261 (n : Nat) : (gg n 261).1 = 5 := by rw [gg_f, gB261]
theorem gb261 (n : Nat) : (gg (n + 1) 261).2 = x_run 13 (fX12_comesJust (gg n)) := by rw [gg_s, gB261]
theorem gB262 : xB.getD 262 xB0 = (3, fun G => x_run 10 (fX12_fits G)) := (xBk6 (j := 22) (by decide)).trans rfl
theorem ga262 (n : Nat) : (gg n 262).1 = 3 := by rw [gg_f, gB262]
theorem gb262 (n : Nat) : (gg (n + 1) 262).2 = x_run 10 (fX12_fits (gg n)) := by rw [gg_s, gB262]
theorem gB263 : xB.getD 263 xB0 = (2, fun G => x_run 4 (fX12_ring G)) := (xBk6 (j := 23) (by decide)).trans rfl
theorem ga263 (n : Nat) : (gg n 263).1 = 2 := by rw [gg_f, gB263]
theorem gb263 (n : Nat) : (gg (n + 1) 263).2 = x_run 4 (fX12_ring (gg n)) := by rw [gg_s, gB263]
theorem gB264 : xB.getD 264 xB0 = (1, fun G => x_run 6 (fX12_lonely G)) := (xBk6 (j := 24) (by decide)).trans rfl
theorem ga264 (n : Nat) : (gg n 264).1 = 1 := by rw [gg_f, gB264]
theorem gb264 (n : Nat) : (gg (n + 1) 264).2 = x_run 6 (fX12_lonely (gg n)) := by rw [gg_s, gB264]
theorem gB265 : xB.getD 265 xB0 = (2, fun G => x_run 6 (fX12_power G)) := (xBk6 (j := 25) (by decide)).trans rfl
theorem ga265 (n : Nat) : (gg n 265).1 = 2 := by rw [gg_f, gB265]
theorem gb265 (n : Nat) : (gg (n + 1) 265).2 = x_run 6 (fX12_power (gg n)) := by rw [gg_s, gB265]
theorem gB266 : xB.getD 266 xB0 = (5, fun G => x_run 7 (fX12_goTrain G)) := (xBk6 (j := 26) (by decide)).trans rfl
theorem ga266 (n : Nat) : (gg n 266).1 = 5 := by rw [gg_f, gB266]
theorem gb266 (n : Nat) : (gg (n + 1) 266).2 = x_run 7 (fX12_goTrain (gg n)) := by rw [gg_s, gB266]
theorem gB267 : xB.getD 267 xB0 = (3, fun G => x_run 4 (fX12_train G)) := (xBk6 (j := 27) (by decide)).trans rfl
theorem ga267 (n : Nat) : (gg n 267).1 = 3 := by rw [gg_f, gB267]
theorem gb267 (n : Nat) : (gg (n + 1) 267).2 = x_run 4 (fX12_train (gg n)) := by rw [gg_s, gB267]
theorem gB268 : xB.getD 268 xB0 = (2, fun G => x_run 2 (fX12_draw G)) := (xBk6 (j := 28) (by decide)).trans rfl
theorem ga268 (n : Nat) : (gg n 268).1 = 2 := by rw [gg_f, gB268]
theorem gb268 (n : Nat) : (gg (n + 1) 268).2 = x_run 2 (fX12_draw (gg n)) := by rw [gg_s, gB268]
theorem gB269 : xB.getD 269 xB0 = (2, fun G => x_run 4 (fX12_codes G)) := (xBk6 (j := 29) (by decide)).trans rfl
theorem ga269 (n : Nat) : (gg n 269).1 = 2 := by rw [gg_f, gB269]
theorem gb269 (n : Nat) : (gg (n + 1) 269).2 = x_run 4 (fX12_codes (gg n)) := by rw [gg_s, gB269]
theorem gB270 : xB.getD 270 xB0 = (3, fun G => x_run 3 (fX12_slip G)) := (xBk6 (j := 30) (by decide)).trans rfl
theorem ga270 (n : Nat) : (gg n 270).1 = 3 := by rw [gg_f, gB270]
theorem gb270 (n : Nat) : (gg (n + 1) 270).2 = x_run 3 (fX12_slip (gg n)) := by rw [gg_s, gB270]
theorem gB271 : xB.getD 271 xB0 = (5, fun G => x_run 7 (fX12_opens G)) := (xBk6 (j := 31) (by decide)).trans rfl
theorem ga271 (n : Nat) : (gg n 271).1 = 5 := by rw [gg_f, gB271]
theorem gb271 (n : Nat) : (gg (n + 1) 271).2 = x_run 7 (fX12_opens (gg n)) := by rw [gg_s, gB271]
theorem gB272 : xB.getD 272 xB0 = (4, fun G => x_run 8 (fX12_season G)) := (xBk6 (j := 32) (by decide)).trans rfl
theorem ga272 (n : Nat) : (gg n 272).1 = 4 := by rw [gg_f, gB272]
theorem gb272 (n : Nat) : (gg (n + 1) 272).2 = x_run 8 (fX12_season (gg n)) := by rw [gg_s, gB272]
theorem gB273 : xB.getD 273 xB0 = (2, fun G => x_run 2 (fX12_keep G)) := (xBk6 (j := 33) (by decide)).trans rfl
theorem ga273 (n : Nat) : (gg n 273).1 = 2 := by rw [gg_f, gB273]
theorem gb273 (n : Nat) : (gg (n + 1) 273).2 = x_run 2 (fX12_keep (gg n)) := by rw [gg_s, gB273]
theorem gB274 : xB.getD 274 xB0 = (2, fun G => x_run 3 (fX12_again G)) := (xBk6 (j := 34) (by decide)).trans rfl
theorem ga274 (n : Nat) : (gg n 274).1 = 2 := by rw [gg_f, gB274]
theorem gb274 (n : Nat) : (gg (n + 1) 274).2 = x_run 3 (fX12_again (gg n)) := by rw [gg_s, gB274]
theorem gB275 : xB.getD 275 xB0 = (2, fun G => x_run 4 (fX12_gullsThat G)) := (xBk6 (j := 35) (by decide)).trans rfl
theorem ga275 (n : Nat) : (gg n 275).1 = 2 := by rw [gg_f, gB275]
theorem gb275 (n : Nat) : (gg (n + 1) 275).2 = x_run 4 (fX12_gullsThat (gg n)) := by rw [gg_s, gB275]
theorem gB276 : xB.getD 276 xB0 = (2, fun G => x_run 2 (fX12_count G)) := (xBk6 (j := 36) (by decide)).trans rfl
theorem ga276 (n : Nat) : (gg n 276).1 = 2 := by rw [gg_f, gB276]
theorem gb276 (n : Nat) : (gg (n + 1) 276).2 = x_run 2 (fX12_count (gg n)) := by rw [gg_s, gB276]
theorem gB277 : xB.getD 277 xB0 = (2, fun G => x_run 2 (fX12_row G)) := (xBk6 (j := 37) (by decide)).trans rfl
theorem ga277 (n : Nat) : (gg n 277).1 = 2 := by rw [gg_f, gB277]
theorem gb277 (n : Nat) : (gg (n + 1) 277).2 = x_run 2 (fX12_row (gg n)) := by rw [gg_s, gB277]
theorem gB278 : xB.getD 278 xB0 = (2, fun G => x_run 3 (fJ9_floorMod_7cf53 G)) := (xBk6 (j := 38) (by decide)).trans rfl
theorem ga278 (n : Nat) : (gg n 278).1 = 2 := by rw [gg_f, gB278]
theorem gb278 (n : Nat) : (gg (n + 1) 278).2 = x_run 3 (fJ9_floorMod_7cf53 (gg n)) := by rw [gg_s, gB278]
theorem gB279 : xB.getD 279 xB0 = (1, fun G => x_run 1 (fJ9_abs_0f7a4 G)) := (xBk6 (j := 39) (by decide)).trans rfl
theorem ga279 (n : Nat) : (gg n 279).1 = 1 := by rw [gg_f, gB279]
theorem gb279 (n : Nat) : (gg (n + 1) 279).2 = x_run 1 (fJ9_abs_0f7a4 (gg n)) := by rw [gg_s, gB279]
theorem gB280 : xB.getD 280 xB0 = (2, fun G => x_run 2 (fJ9_max_7cf53 G)) := (xBk7 (j := 0) (by decide)).trans rfl
theorem ga280 (n : Nat) : (gg n 280).1 = 2 := by rw [gg_f, gB280]
theorem gb280 (n : Nat) : (gg (n + 1) 280).2 = x_run 2 (fJ9_max_7cf53 (gg n)) := by rw [gg_s, gB280]
theorem gB281 : xB.getD 281 xB0 = (2, fun G => x_run 2 (fJ9_min_7cf53 G)) := (xBk7 (j := 1) (by decide)).trans rfl
theorem ga281 (n : Nat) : (gg n 281).1 = 2 := by rw [gg_f, gB281]
theorem gb281 (n : Nat) : (gg (n + 1) 281).2 = x_run 2 (fJ9_min_7cf53 (gg n)) := by rw [gg_s, gB281]
theorem gB282 : xB.getD 282 xB0 = (1, fun G => x_run 1 (fJ6_bitCount_0f7a4 G)) := (xBk7 (j := 2) (by decide)).trans rfl
theorem ga282 (n : Nat) : (gg n 282).1 = 1 := by rw [gg_f, gB282]
theorem gb282 (n : Nat) : (gg (n + 1) 282).2 = x_run 1 (fJ6_bitCount_0f7a4 (gg n)) := by rw [gg_s, gB282]
theorem gB283 : xB.getD 283 xB0 = (2, fun G => x_run 4 (fJ7_fill_53178 G)) := (xBk7 (j := 3) (by decide)).trans rfl
theorem ga283 (n : Nat) : (gg n 283).1 = 2 := by rw [gg_f, gB283]
theorem gb283 (n : Nat) : (gg (n + 1) 283).2 = x_run 4 (fJ7_fill_53178 (gg n)) := by rw [gg_s, gB283]
