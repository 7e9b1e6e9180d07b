/-! ===== the reference's cells, instruction by instruction ===== -/
section ER
variable {G : xG} {rg : Nat} {l : List Instr} {L S : List xV} {h : xH} {r : xR}
theorem er_g0 : xIs x_dd G rg (.getfield 768 :: l) (L, .inr (.inr (.inl (1, 0))) :: S, hR h r) = xIs x_dd G rg l (L, .inr (.inr (.inl (1, 1))) :: S, hR h r) := rfl
theorem er_g1 : xIs x_dd G rg (.getfield 769 :: l) (L, .inr (.inr (.inl (1, 0))) :: S, hR h r) = xIs x_dd G rg l (L, .inl (r.1 1) :: S, hR h r) := rfl
theorem er_s1 {v : Int} : xIs x_dd G rg (.putfield 769 :: l) (L, .inl v :: .inr (.inr (.inl (1, 0))) :: S, hR h r) = xIs x_dd G rg l (L, S, hR h (xr_i r 1 v)) := rfl
theorem er_g2 : xIs x_dd G rg (.getfield 770 :: l) (L, .inr (.inr (.inl (1, 0))) :: S, hR h r) = xIs x_dd G rg l (L, .inl (r.1 2) :: S, hR h r) := rfl
theorem er_s2 {v : Int} : xIs x_dd G rg (.putfield 770 :: l) (L, .inl v :: .inr (.inr (.inl (1, 0))) :: S, hR h r) = xIs x_dd G rg l (L, S, hR h (xr_i r 2 v)) := rfl
theorem er_g3 : xIs x_dd G rg (.getfield 771 :: l) (L, .inr (.inr (.inl (1, 0))) :: S, hR h r) = xIs x_dd G rg l (L, .inr (.inr (.inl (1, 2))) :: S, hR h r) := rfl
theorem er_g4 : xIs x_dd G rg (.getfield 772 :: l) (L, .inr (.inr (.inl (1, 0))) :: S, hR h r) = xIs x_dd G rg l (L, .inr (.inr (.inl (1, 3))) :: S, hR h r) := rfl
theorem er_g5 : xIs x_dd G rg (.getfield 773 :: l) (L, .inr (.inr (.inl (1, 0))) :: S, hR h r) = xIs x_dd G rg l (L, .inl (r.1 5) :: S, hR h r) := rfl
theorem er_s5 {v : Int} : xIs x_dd G rg (.putfield 773 :: l) (L, .inl v :: .inr (.inr (.inl (1, 0))) :: S, hR h r) = xIs x_dd G rg l (L, S, hR h (xr_i r 5 v)) := rfl
theorem er_g6 : xIs x_dd G rg (.getfield 774 :: l) (L, .inr (.inr (.inl (1, 0))) :: S, hR h r) = xIs x_dd G rg l (L, .inl (r.1 6) :: S, hR h r) := rfl
theorem er_s6 {v : Int} : xIs x_dd G rg (.putfield 774 :: l) (L, .inl v :: .inr (.inr (.inl (1, 0))) :: S, hR h r) = xIs x_dd G rg l (L, S, hR h (xr_i r 6 v)) := rfl
theorem er_g7 : xIs x_dd G rg (.getfield 775 :: l) (L, .inr (.inr (.inl (1, 0))) :: S, hR h r) = xIs x_dd G rg l (L, .inr (.inr (.inl (1, 4))) :: S, hR h r) := rfl
theorem er_g8 : xIs x_dd G rg (.getfield 776 :: l) (L, .inr (.inr (.inl (1, 0))) :: S, hR h r) = xIs x_dd G rg l (L, .inl (r.1 8) :: S, hR h r) := rfl
theorem er_s8 {v : Int} : xIs x_dd G rg (.putfield 776 :: l) (L, .inl v :: .inr (.inr (.inl (1, 0))) :: S, hR h r) = xIs x_dd G rg l (L, S, hR h (xr_i r 8 v)) := rfl
theorem er_g9 : xIs x_dd G rg (.getfield 777 :: l) (L, .inr (.inr (.inl (1, 0))) :: S, hR h r) = xIs x_dd G rg l (L, .inr (.inr (.inl (1, 5))) :: S, hR h r) := rfl
theorem er_g10 : xIs x_dd G rg (.getfield 778 :: l) (L, .inr (.inr (.inl (1, 0))) :: S, hR h r) = xIs x_dd G rg l (L, .inl (r.1 10) :: S, hR h r) := rfl
theorem er_s10 {v : Int} : xIs x_dd G rg (.putfield 778 :: l) (L, .inl v :: .inr (.inr (.inl (1, 0))) :: S, hR h r) = xIs x_dd G rg l (L, S, hR h (xr_i r 10 v)) := rfl
theorem er_g11 : xIs x_dd G rg (.getfield 779 :: l) (L, .inr (.inr (.inl (1, 0))) :: S, hR h r) = xIs x_dd G rg l (L, .inl (r.1 11) :: S, hR h r) := rfl
theorem er_s11 {v : Int} : xIs x_dd G rg (.putfield 779 :: l) (L, .inl v :: .inr (.inr (.inl (1, 0))) :: S, hR h r) = xIs x_dd G rg l (L, S, hR h (xr_i r 11 v)) := rfl
theorem er_g12 : xIs x_dd G rg (.getfield 780 :: l) (L, .inr (.inr (.inl (1, 0))) :: S, hR h r) = xIs x_dd G rg l (L, xr_read (r.1 12) :: S, hR h r) := rfl
theorem er_g13 : xIs x_dd G rg (.getfield 781 :: l) (L, .inr (.inr (.inl (1, 0))) :: S, hR h r) = xIs x_dd G rg l (L, .inl (r.1 13) :: S, hR h r) := rfl
theorem er_s13 {v : Int} : xIs x_dd G rg (.putfield 781 :: l) (L, .inl v :: .inr (.inr (.inl (1, 0))) :: S, hR h r) = xIs x_dd G rg l (L, S, hR h (xr_i r 13 v)) := rfl
theorem er_g14 : xIs x_dd G rg (.getfield 782 :: l) (L, .inr (.inr (.inl (1, 0))) :: S, hR h r) = xIs x_dd G rg l (L, .inl (r.1 14) :: S, hR h r) := rfl
theorem er_s14 {v : Int} : xIs x_dd G rg (.putfield 782 :: l) (L, .inl v :: .inr (.inr (.inl (1, 0))) :: S, hR h r) = xIs x_dd G rg l (L, S, hR h (xr_i r 14 v)) := rfl
theorem er_g15 : xIs x_dd G rg (.getfield 783 :: l) (L, .inr (.inr (.inl (1, 0))) :: S, hR h r) = xIs x_dd G rg l (L, .inl (r.1 15) :: S, hR h r) := rfl
theorem er_s15 {v : Int} : xIs x_dd G rg (.putfield 783 :: l) (L, .inl v :: .inr (.inr (.inl (1, 0))) :: S, hR h r) = xIs x_dd G rg l (L, S, hR h (xr_i r 15 v)) := rfl
theorem er_g16 : xIs x_dd G rg (.getfield 784 :: l) (L, .inr (.inr (.inl (1, 0))) :: S, hR h r) = xIs x_dd G rg l (L, .inl (r.1 16) :: S, hR h r) := rfl
theorem er_s16 {v : Int} : xIs x_dd G rg (.putfield 784 :: l) (L, .inl v :: .inr (.inr (.inl (1, 0))) :: S, hR h r) = xIs x_dd G rg l (L, S, hR h (xr_i r 16 v)) := rfl
theorem er_g17 : xIs x_dd G rg (.getfield 785 :: l) (L, .inr (.inr (.inl (1, 0))) :: S, hR h r) = xIs x_dd G rg l (L, .inr (.inr (.inl (1, 6))) :: S, hR h r) := rfl
theorem er_g18 : xIs x_dd G rg (.getfield 786 :: l) (L, .inr (.inr (.inl (1, 0))) :: S, hR h r) = xIs x_dd G rg l (L, .inr (.inr (.inl (1, 7))) :: S, hR h r) := rfl
theorem er_g19 : xIs x_dd G rg (.getfield 787 :: l) (L, .inr (.inr (.inl (1, 0))) :: S, hR h r) = xIs x_dd G rg l (L, .inr (.inr (.inl (1, 8))) :: S, hR h r) := rfl
theorem er_g20 : xIs x_dd G rg (.getfield 788 :: l) (L, .inr (.inr (.inl (1, 0))) :: S, hR h r) = xIs x_dd G rg l (L, .inl (r.1 20) :: S, hR h r) := rfl
theorem er_s20 {v : Int} : xIs x_dd G rg (.putfield 788 :: l) (L, .inl v :: .inr (.inr (.inl (1, 0))) :: S, hR h r) = xIs x_dd G rg l (L, S, hR h (xr_i r 20 v)) := rfl
theorem er_g21 : xIs x_dd G rg (.getfield 789 :: l) (L, .inr (.inr (.inl (1, 0))) :: S, hR h r) = xIs x_dd G rg l (L, .inl (r.1 21) :: S, hR h r) := rfl
theorem er_g22 : xIs x_dd G rg (.getfield 790 :: l) (L, .inr (.inr (.inl (1, 0))) :: S, hR h r) = xIs x_dd G rg l (L, .inr (.inr (.inl (1, 9))) :: S, hR h r) := rfl
theorem er_g23 : xIs x_dd G rg (.getfield 791 :: l) (L, .inr (.inr (.inl (1, 0))) :: S, hR h r) = xIs x_dd G rg l (L, .inl (r.1 23) :: S, hR h r) := rfl
theorem er_s23 {v : Int} : xIs x_dd G rg (.putfield 791 :: l) (L, .inl v :: .inr (.inr (.inl (1, 0))) :: S, hR h r) = xIs x_dd G rg l (L, S, hR h (xr_i r 23 v)) := rfl
theorem er_g24 : xIs x_dd G rg (.getfield 792 :: l) (L, .inr (.inr (.inl (1, 0))) :: S, hR h r) = xIs x_dd G rg l (L, .inl (r.1 24) :: S, hR h r) := rfl
theorem er_s24 {v : Int} : xIs x_dd G rg (.putfield 792 :: l) (L, .inl v :: .inr (.inr (.inl (1, 0))) :: S, hR h r) = xIs x_dd G rg l (L, S, hR h (xr_i r 24 v)) := rfl
theorem er_g25 : xIs x_dd G rg (.getfield 793 :: l) (L, .inr (.inr (.inl (1, 0))) :: S, hR h r) = xIs x_dd G rg l (L, .inl (r.1 25) :: S, hR h r) := rfl
theorem er_s25 {v : Int} : xIs x_dd G rg (.putfield 793 :: l) (L, .inl v :: .inr (.inr (.inl (1, 0))) :: S, hR h r) = xIs x_dd G rg l (L, S, hR h (xr_i r 25 v)) := rfl
theorem er_g26 : xIs x_dd G rg (.getfield 794 :: l) (L, .inr (.inr (.inl (1, 0))) :: S, hR h r) = xIs x_dd G rg l (L, .inr (.inr (.inl (1, 10))) :: S, hR h r) := rfl
theorem er_g27 : xIs x_dd G rg (.getfield 795 :: l) (L, .inr (.inr (.inl (1, 0))) :: S, hR h r) = xIs x_dd G rg l (L, .inr (.inr (.inl (1, 11))) :: S, hR h r) := rfl
theorem er_g28 : xIs x_dd G rg (.getfield 796 :: l) (L, .inr (.inr (.inl (1, 0))) :: S, hR h r) = xIs x_dd G rg l (L, .inl (r.1 28) :: S, hR h r) := rfl
theorem er_s28 {v : Int} : xIs x_dd G rg (.putfield 796 :: l) (L, .inl v :: .inr (.inr (.inl (1, 0))) :: S, hR h r) = xIs x_dd G rg l (L, S, hR h (xr_i r 28 v)) := rfl
theorem er_g29 : xIs x_dd G rg (.getfield 797 :: l) (L, .inr (.inr (.inl (1, 0))) :: S, hR h r) = xIs x_dd G rg l (L, .inr (.inr (.inl (1, 12))) :: S, hR h r) := rfl
theorem er_g30 : xIs x_dd G rg (.getfield 798 :: l) (L, .inr (.inr (.inl (1, 0))) :: S, hR h r) = xIs x_dd G rg l (L, .inl (r.1 30) :: S, hR h r) := rfl
theorem er_s30 {v : Int} : xIs x_dd G rg (.putfield 798 :: l) (L, .inl v :: .inr (.inr (.inl (1, 0))) :: S, hR h r) = xIs x_dd G rg l (L, S, hR h (xr_i r 30 v)) := rfl
theorem er_g31 : xIs x_dd G rg (.getfield 799 :: l) (L, .inr (.inr (.inl (1, 0))) :: S, hR h r) = xIs x_dd G rg l (L, .inl (r.1 31) :: S, hR h r) := rfl
theorem er_s31 {v : Int} : xIs x_dd G rg (.putfield 799 :: l) (L, .inl v :: .inr (.inr (.inl (1, 0))) :: S, hR h r) = xIs x_dd G rg l (L, S, hR h (xr_i r 31 v)) := rfl
theorem er_g32 : xIs x_dd G rg (.getfield 800 :: l) (L, .inr (.inr (.inl (1, 0))) :: S, hR h r) = xIs x_dd G rg l (L, .inl (r.1 32) :: S, hR h r) := rfl
theorem er_s32 {v : Int} : xIs x_dd G rg (.putfield 800 :: l) (L, .inl v :: .inr (.inr (.inl (1, 0))) :: S, hR h r) = xIs x_dd G rg l (L, S, hR h (xr_i r 32 v)) := rfl
theorem er_g33 : xIs x_dd G rg (.getfield 801 :: l) (L, .inr (.inr (.inl (1, 0))) :: S, hR h r) = xIs x_dd G rg l (L, .inl (r.1 33) :: S, hR h r) := rfl
theorem er_s33 {v : Int} : xIs x_dd G rg (.putfield 801 :: l) (L, .inl v :: .inr (.inr (.inl (1, 0))) :: S, hR h r) = xIs x_dd G rg l (L, S, hR h (xr_i r 33 v)) := rfl
theorem er_g34 : xIs x_dd G rg (.getfield 802 :: l) (L, .inr (.inr (.inl (1, 0))) :: S, hR h r) = xIs x_dd G rg l (L, .inr (.inr (.inl (1, 13))) :: S, hR h r) := rfl
theorem er_g35 : xIs x_dd G rg (.getfield 803 :: l) (L, .inr (.inr (.inl (1, 0))) :: S, hR h r) = xIs x_dd G rg l (L, .inr (.inr (.inl (1, 14))) :: S, hR h r) := rfl
theorem er_g36 : xIs x_dd G rg (.getfield 804 :: l) (L, .inr (.inr (.inl (1, 0))) :: S, hR h r) = xIs x_dd G rg l (L, .inr (.inr (.inl (1, 15))) :: S, hR h r) := rfl
theorem er_g37 : xIs x_dd G rg (.getfield 805 :: l) (L, .inr (.inr (.inl (1, 0))) :: S, hR h r) = xIs x_dd G rg l (L, .inr (.inr (.inl (1, 16))) :: S, hR h r) := rfl
theorem er_g38 : xIs x_dd G rg (.getfield 806 :: l) (L, .inr (.inr (.inl (1, 0))) :: S, hR h r) = xIs x_dd G rg l (L, .inr (.inr (.inl (1, 17))) :: S, hR h r) := rfl
theorem er_g39 : xIs x_dd G rg (.getfield 807 :: l) (L, .inr (.inr (.inl (1, 0))) :: S, hR h r) = xIs x_dd G rg l (L, .inr (.inl (r.1 39)) :: S, hR h r) := rfl
theorem er_s39 {v : Int} : xIs x_dd G rg (.putfield 13095 :: l) (L, .inr (.inl v) :: .inr (.inr (.inl (1, 0))) :: S, hR h r) = xIs x_dd G rg l (L, S, hR h (xr_i r 39 v)) := rfl
theorem er_g40 : xIs x_dd G rg (.getfield 808 :: l) (L, .inr (.inr (.inl (1, 0))) :: S, hR h r) = xIs x_dd G rg l (L, .inr (.inr (.inl (1, 18))) :: S, hR h r) := rfl
theorem er_g41 : xIs x_dd G rg (.getfield 809 :: l) (L, .inr (.inr (.inl (1, 0))) :: S, hR h r) = xIs x_dd G rg l (L, .inr (.inr (.inl (1, 19))) :: S, hR h r) := rfl
theorem er_g42 : xIs x_dd G rg (.getfield 810 :: l) (L, .inr (.inr (.inl (1, 0))) :: S, hR h r) = xIs x_dd G rg l (L, .inl (r.1 42) :: S, hR h r) := rfl
theorem er_s42 {v : Int} : xIs x_dd G rg (.putfield 810 :: l) (L, .inl v :: .inr (.inr (.inl (1, 0))) :: S, hR h r) = xIs x_dd G rg l (L, S, hR h (xr_i r 42 v)) := rfl
theorem er_g43 : xIs x_dd G rg (.getfield 811 :: l) (L, .inr (.inr (.inl (1, 0))) :: S, hR h r) = xIs x_dd G rg l (L, .inl (r.1 43) :: S, hR h r) := rfl
theorem er_s43 {v : Int} : xIs x_dd G rg (.putfield 811 :: l) (L, .inl v :: .inr (.inr (.inl (1, 0))) :: S, hR h r) = xIs x_dd G rg l (L, S, hR h (xr_i r 43 v)) := rfl
theorem er_g44 : xIs x_dd G rg (.getfield 812 :: l) (L, .inr (.inr (.inl (1, 0))) :: S, hR h r) = xIs x_dd G rg l (L, .inl (r.1 44) :: S, hR h r) := rfl
theorem er_s44 {v : Int} : xIs x_dd G rg (.putfield 812 :: l) (L, .inl v :: .inr (.inr (.inl (1, 0))) :: S, hR h r) = xIs x_dd G rg l (L, S, hR h (xr_i r 44 v)) := rfl
theorem er_g45 : xIs x_dd G rg (.getfield 813 :: l) (L, .inr (.inr (.inl (1, 0))) :: S, hR h r) = xIs x_dd G rg l (L, .inr (.inr (.inl (1, 20))) :: S, hR h r) := rfl
theorem er_g46 : xIs x_dd G rg (.getfield 814 :: l) (L, .inr (.inr (.inl (1, 0))) :: S, hR h r) = xIs x_dd G rg l (L, .inr (.inr (.inl (1, 21))) :: S, hR h r) := rfl
theorem er_g47 : xIs x_dd G rg (.getfield 815 :: l) (L, .inr (.inr (.inl (1, 0))) :: S, hR h r) = xIs x_dd G rg l (L, .inr (.inr (.inl (1, 22))) :: S, hR h r) := rfl
theorem er_s21a : xIs x_dd G rg (.putfield 4885 :: l) (L, .inl 0 :: .inr (.inr (.inl (1, 0))) :: S, hR h r) = xIs x_dd G rg l (L, S, hR h (xr_i r 21 0)) := rfl
theorem er_s21b : xIs x_dd G rg (.putfield 4885 :: l) (L, .inl 1 :: .inr (.inr (.inl (1, 0))) :: S, hR h r) = xIs x_dd G rg l (L, S, hR h (xr_i r 21 1)) := rfl
theorem er_s12a : xIs x_dd G rg (.putfield 8972 :: l) (L, .inr (.inr (.inl (1, 4))) :: .inr (.inr (.inl (1, 0))) :: S, hR h r) = xIs x_dd G rg l (L, S, hR h (xr_i r 12 1)) := rfl
theorem er_s12b : xIs x_dd G rg (.putfield 8972 :: l) (L, .inr (.inr (.inl (1, 8))) :: .inr (.inr (.inl (1, 0))) :: S, hR h r) = xIs x_dd G rg l (L, S, hR h (xr_i r 12 2)) := rfl
theorem er_r1 {i : Int} (h0 : 0 ≤ i) (h1 : i < 116) : xIs x_dd G rg (.iaload :: l) (L, .inl i :: .inr (.inr (.inl (1, 1))) :: S, hR h r) = xIs x_dd G rg l (L, .inl (r.2 1 i.toNat) :: S, hR h r) := e_iaload (hR_c1 h r) h0 h1
theorem er_w1 {i v : Int} (h0 : 0 ≤ i) (h1 : i < 116) : xIs x_dd G rg (.iastore :: l) (L, .inl v :: .inl i :: .inr (.inr (.inl (1, 1))) :: S, hR h r) = xIs x_dd G rg l (L, S, hR h (xr_a r 1 i.toNat v)) := e_iastore (hR_c1 h r) h0 h1
theorem er_r2 {i : Int} (h0 : 0 ≤ i) (h1 : i < 8) : xIs x_dd G rg (.iaload :: l) (L, .inl i :: .inr (.inr (.inl (1, 2))) :: S, hR h r) = xIs x_dd G rg l (L, .inl (r.2 2 i.toNat) :: S, hR h r) := e_iaload (hR_c2 h r) h0 h1
theorem er_w2 {i v : Int} (h0 : 0 ≤ i) (h1 : i < 8) : xIs x_dd G rg (.iastore :: l) (L, .inl v :: .inl i :: .inr (.inr (.inl (1, 2))) :: S, hR h r) = xIs x_dd G rg l (L, S, hR h (xr_a r 2 i.toNat v)) := e_iastore (hR_c2 h r) h0 h1
theorem er_r3 {i : Int} (h0 : 0 ≤ i) (h1 : i < 8) : xIs x_dd G rg (.iaload :: l) (L, .inl i :: .inr (.inr (.inl (1, 3))) :: S, hR h r) = xIs x_dd G rg l (L, .inl (r.2 3 i.toNat) :: S, hR h r) := e_iaload (hR_c3 h r) h0 h1
theorem er_w3 {i v : Int} (h0 : 0 ≤ i) (h1 : i < 8) : xIs x_dd G rg (.iastore :: l) (L, .inl v :: .inl i :: .inr (.inr (.inl (1, 3))) :: S, hR h r) = xIs x_dd G rg l (L, S, hR h (xr_a r 3 i.toNat v)) := e_iastore (hR_c3 h r) h0 h1
theorem er_r4 {i : Int} (h0 : 0 ≤ i) (h1 : i < 80) : xIs x_dd G rg (.baload :: l) (L, .inl i :: .inr (.inr (.inl (1, 4))) :: S, hR h r) = xIs x_dd G rg l (L, .inl (r.2 4 i.toNat) :: S, hR h r) := e_baload (hR_c4 h r) h0 h1
theorem er_w4 {i v : Int} (h0 : 0 ≤ i) (h1 : i < 80) : xIs x_dd G rg (.bastore :: l) (L, .inl v :: .inl i :: .inr (.inr (.inl (1, 4))) :: S, hR h r) = xIs x_dd G rg l (L, S, hR h (xr_a r 4 i.toNat (xb8 v))) := e_bastore (hR_c4 h r) h0 h1
theorem er_r5 {i : Int} (h0 : 0 ≤ i) (h1 : i < 16) : xIs x_dd G rg (.iaload :: l) (L, .inl i :: .inr (.inr (.inl (1, 5))) :: S, hR h r) = xIs x_dd G rg l (L, .inl (r.2 5 i.toNat) :: S, hR h r) := e_iaload (hR_c5 h r) h0 h1
theorem er_w5 {i v : Int} (h0 : 0 ≤ i) (h1 : i < 16) : xIs x_dd G rg (.iastore :: l) (L, .inl v :: .inl i :: .inr (.inr (.inl (1, 5))) :: S, hR h r) = xIs x_dd G rg l (L, S, hR h (xr_a r 5 i.toNat v)) := e_iastore (hR_c5 h r) h0 h1
theorem er_r6 {i : Int} (h0 : 0 ≤ i) (h1 : i < 30) : xIs x_dd G rg (.iaload :: l) (L, .inl i :: .inr (.inr (.inl (1, 6))) :: S, hR h r) = xIs x_dd G rg l (L, .inl (r.2 6 i.toNat) :: S, hR h r) := e_iaload (hR_c6 h r) h0 h1
theorem er_w6 {i v : Int} (h0 : 0 ≤ i) (h1 : i < 30) : xIs x_dd G rg (.iastore :: l) (L, .inl v :: .inl i :: .inr (.inr (.inl (1, 6))) :: S, hR h r) = xIs x_dd G rg l (L, S, hR h (xr_a r 6 i.toNat v)) := e_iastore (hR_c6 h r) h0 h1
theorem er_r7 {i : Int} (h0 : 0 ≤ i) (h1 : i < 16) : xIs x_dd G rg (.iaload :: l) (L, .inl i :: .inr (.inr (.inl (1, 7))) :: S, hR h r) = xIs x_dd G rg l (L, .inl (r.2 7 i.toNat) :: S, hR h r) := e_iaload (hR_c7 h r) h0 h1
theorem er_w7 {i v : Int} (h0 : 0 ≤ i) (h1 : i < 16) : xIs x_dd G rg (.iastore :: l) (L, .inl v :: .inl i :: .inr (.inr (.inl (1, 7))) :: S, hR h r) = xIs x_dd G rg l (L, S, hR h (xr_a r 7 i.toNat v)) := e_iastore (hR_c7 h r) h0 h1
theorem er_r8 {i : Int} (h0 : 0 ≤ i) (h1 : i < 40) : xIs x_dd G rg (.baload :: l) (L, .inl i :: .inr (.inr (.inl (1, 8))) :: S, hR h r) = xIs x_dd G rg l (L, .inl (r.2 8 i.toNat) :: S, hR h r) := e_baload (hR_c8 h r) h0 h1
theorem er_w8 {i v : Int} (h0 : 0 ≤ i) (h1 : i < 40) : xIs x_dd G rg (.bastore :: l) (L, .inl v :: .inl i :: .inr (.inr (.inl (1, 8))) :: S, hR h r) = xIs x_dd G rg l (L, S, hR h (xr_a r 8 i.toNat (xb8 v))) := e_bastore (hR_c8 h r) h0 h1
theorem er_r9 {i : Int} (h0 : 0 ≤ i) (h1 : i < 7) : xIs x_dd G rg (.iaload :: l) (L, .inl i :: .inr (.inr (.inl (1, 9))) :: S, hR h r) = xIs x_dd G rg l (L, .inl (r.2 9 i.toNat) :: S, hR h r) := e_iaload (hR_c9 h r) h0 h1
theorem er_w9 {i v : Int} (h0 : 0 ≤ i) (h1 : i < 7) : xIs x_dd G rg (.iastore :: l) (L, .inl v :: .inl i :: .inr (.inr (.inl (1, 9))) :: S, hR h r) = xIs x_dd G rg l (L, S, hR h (xr_a r 9 i.toNat v)) := e_iastore (hR_c9 h r) h0 h1
theorem er_r10 {i : Int} (h0 : 0 ≤ i) (h1 : i < 8) : xIs x_dd G rg (.iaload :: l) (L, .inl i :: .inr (.inr (.inl (1, 10))) :: S, hR h r) = xIs x_dd G rg l (L, .inl (r.2 10 i.toNat) :: S, hR h r) := e_iaload (hR_c10 h r) h0 h1
theorem er_w10 {i v : Int} (h0 : 0 ≤ i) (h1 : i < 8) : xIs x_dd G rg (.iastore :: l) (L, .inl v :: .inl i :: .inr (.inr (.inl (1, 10))) :: S, hR h r) = xIs x_dd G rg l (L, S, hR h (xr_a r 10 i.toNat v)) := e_iastore (hR_c10 h r) h0 h1
theorem er_r11 {i : Int} (h0 : 0 ≤ i) (h1 : i < 1392) : xIs x_dd G rg (.iaload :: l) (L, .inl i :: .inr (.inr (.inl (1, 11))) :: S, hR h r) = xIs x_dd G rg l (L, .inl (r.2 11 i.toNat) :: S, hR h r) := e_iaload (hR_c11 h r) h0 h1
theorem er_w11 {i v : Int} (h0 : 0 ≤ i) (h1 : i < 1392) : xIs x_dd G rg (.iastore :: l) (L, .inl v :: .inl i :: .inr (.inr (.inl (1, 11))) :: S, hR h r) = xIs x_dd G rg l (L, S, hR h (xr_a r 11 i.toNat v)) := e_iastore (hR_c11 h r) h0 h1
theorem er_r12 {i : Int} (h0 : 0 ≤ i) (h1 : i < 116) : xIs x_dd G rg (.iaload :: l) (L, .inl i :: .inr (.inr (.inl (1, 12))) :: S, hR h r) = xIs x_dd G rg l (L, .inl (r.2 12 i.toNat) :: S, hR h r) := e_iaload (hR_c12 h r) h0 h1
theorem er_w12 {i v : Int} (h0 : 0 ≤ i) (h1 : i < 116) : xIs x_dd G rg (.iastore :: l) (L, .inl v :: .inl i :: .inr (.inr (.inl (1, 12))) :: S, hR h r) = xIs x_dd G rg l (L, S, hR h (xr_a r 12 i.toNat v)) := e_iastore (hR_c12 h r) h0 h1
theorem er_r13 {i : Int} (h0 : 0 ≤ i) (h1 : i < 240) : xIs x_dd G rg (.iaload :: l) (L, .inl i :: .inr (.inr (.inl (1, 13))) :: S, hR h r) = xIs x_dd G rg l (L, .inl (r.2 13 i.toNat) :: S, hR h r) := e_iaload (hR_c13 h r) h0 h1
theorem er_w13 {i v : Int} (h0 : 0 ≤ i) (h1 : i < 240) : xIs x_dd G rg (.iastore :: l) (L, .inl v :: .inl i :: .inr (.inr (.inl (1, 13))) :: S, hR h r) = xIs x_dd G rg l (L, S, hR h (xr_a r 13 i.toNat v)) := e_iastore (hR_c13 h r) h0 h1
theorem er_r14 {i : Int} (h0 : 0 ≤ i) (h1 : i < 116) : xIs x_dd G rg (.iaload :: l) (L, .inl i :: .inr (.inr (.inl (1, 14))) :: S, hR h r) = xIs x_dd G rg l (L, .inl (r.2 14 i.toNat) :: S, hR h r) := e_iaload (hR_c14 h r) h0 h1
theorem er_w14 {i v : Int} (h0 : 0 ≤ i) (h1 : i < 116) : xIs x_dd G rg (.iastore :: l) (L, .inl v :: .inl i :: .inr (.inr (.inl (1, 14))) :: S, hR h r) = xIs x_dd G rg l (L, S, hR h (xr_a r 14 i.toNat v)) := e_iastore (hR_c14 h r) h0 h1
theorem er_r15 {i : Int} (h0 : 0 ≤ i) (h1 : i < 6) : xIs x_dd G rg (.iaload :: l) (L, .inl i :: .inr (.inr (.inl (1, 15))) :: S, hR h r) = xIs x_dd G rg l (L, .inl (r.2 15 i.toNat) :: S, hR h r) := e_iaload (hR_c15 h r) h0 h1
theorem er_w15 {i v : Int} (h0 : 0 ≤ i) (h1 : i < 6) : xIs x_dd G rg (.iastore :: l) (L, .inl v :: .inl i :: .inr (.inr (.inl (1, 15))) :: S, hR h r) = xIs x_dd G rg l (L, S, hR h (xr_a r 15 i.toNat v)) := e_iastore (hR_c15 h r) h0 h1
theorem er_r16 {i : Int} (h0 : 0 ≤ i) (h1 : i < 6) : xIs x_dd G rg (.iaload :: l) (L, .inl i :: .inr (.inr (.inl (1, 16))) :: S, hR h r) = xIs x_dd G rg l (L, .inl (r.2 16 i.toNat) :: S, hR h r) := e_iaload (hR_c16 h r) h0 h1
theorem er_w16 {i v : Int} (h0 : 0 ≤ i) (h1 : i < 6) : xIs x_dd G rg (.iastore :: l) (L, .inl v :: .inl i :: .inr (.inr (.inl (1, 16))) :: S, hR h r) = xIs x_dd G rg l (L, S, hR h (xr_a r 16 i.toNat v)) := e_iastore (hR_c16 h r) h0 h1
theorem er_r17 {i : Int} (h0 : 0 ≤ i) (h1 : i < 6) : xIs x_dd G rg (.iaload :: l) (L, .inl i :: .inr (.inr (.inl (1, 17))) :: S, hR h r) = xIs x_dd G rg l (L, .inl (r.2 17 i.toNat) :: S, hR h r) := e_iaload (hR_c17 h r) h0 h1
theorem er_w17 {i v : Int} (h0 : 0 ≤ i) (h1 : i < 6) : xIs x_dd G rg (.iastore :: l) (L, .inl v :: .inl i :: .inr (.inr (.inl (1, 17))) :: S, hR h r) = xIs x_dd G rg l (L, S, hR h (xr_a r 17 i.toNat v)) := e_iastore (hR_c17 h r) h0 h1
theorem er_r18 {i : Int} (h0 : 0 ≤ i) (h1 : i < 12) : xIs x_dd G rg (.iaload :: l) (L, .inl i :: .inr (.inr (.inl (1, 18))) :: S, hR h r) = xIs x_dd G rg l (L, .inl (r.2 18 i.toNat) :: S, hR h r) := e_iaload (hR_c18 h r) h0 h1
theorem er_w18 {i v : Int} (h0 : 0 ≤ i) (h1 : i < 12) : xIs x_dd G rg (.iastore :: l) (L, .inl v :: .inl i :: .inr (.inr (.inl (1, 18))) :: S, hR h r) = xIs x_dd G rg l (L, S, hR h (xr_a r 18 i.toNat v)) := e_iastore (hR_c18 h r) h0 h1
theorem er_r19 {i : Int} (h0 : 0 ≤ i) (h1 : i < 12) : xIs x_dd G rg (.iaload :: l) (L, .inl i :: .inr (.inr (.inl (1, 19))) :: S, hR h r) = xIs x_dd G rg l (L, .inl (r.2 19 i.toNat) :: S, hR h r) := e_iaload (hR_c19 h r) h0 h1
theorem er_w19 {i v : Int} (h0 : 0 ≤ i) (h1 : i < 12) : xIs x_dd G rg (.iastore :: l) (L, .inl v :: .inl i :: .inr (.inr (.inl (1, 19))) :: S, hR h r) = xIs x_dd G rg l (L, S, hR h (xr_a r 19 i.toNat v)) := e_iastore (hR_c19 h r) h0 h1
theorem er_r20 {i : Int} (h0 : 0 ≤ i) (h1 : i < 232) : xIs x_dd G rg (.iaload :: l) (L, .inl i :: .inr (.inr (.inl (1, 20))) :: S, hR h r) = xIs x_dd G rg l (L, .inl (r.2 20 i.toNat) :: S, hR h r) := e_iaload (hR_c20 h r) h0 h1
theorem er_w20 {i v : Int} (h0 : 0 ≤ i) (h1 : i < 232) : xIs x_dd G rg (.iastore :: l) (L, .inl v :: .inl i :: .inr (.inr (.inl (1, 20))) :: S, hR h r) = xIs x_dd G rg l (L, S, hR h (xr_a r 20 i.toNat v)) := e_iastore (hR_c20 h r) h0 h1
theorem er_r21 {i : Int} (h0 : 0 ≤ i) (h1 : i < 2) : xIs x_dd G rg (.baload :: l) (L, .inl i :: .inr (.inr (.inl (1, 21))) :: S, hR h r) = xIs x_dd G rg l (L, .inl (r.2 21 i.toNat) :: S, hR h r) := e_zaload (hR_c21 h r) h0 h1
theorem er_w21 {i v : Int} (h0 : 0 ≤ i) (h1 : i < 2) : xIs x_dd G rg (.bastore :: l) (L, .inl v :: .inl i :: .inr (.inr (.inl (1, 21))) :: S, hR h r) = xIs x_dd G rg l (L, S, hR h (xr_a r 21 i.toNat (xz1 v))) := e_zastore (hR_c21 h r) h0 h1
theorem er_r22 {i : Int} (h0 : 0 ≤ i) (h1 : i < 2) : xIs x_dd G rg (.iaload :: l) (L, .inl i :: .inr (.inr (.inl (1, 22))) :: S, hR h r) = xIs x_dd G rg l (L, .inl (r.2 22 i.toNat) :: S, hR h r) := e_iaload (hR_c22 h r) h0 h1
theorem er_w22 {i v : Int} (h0 : 0 ≤ i) (h1 : i < 2) : xIs x_dd G rg (.iastore :: l) (L, .inl v :: .inl i :: .inr (.inr (.inl (1, 22))) :: S, hR h r) = xIs x_dd G rg l (L, S, hR h (xr_a r 22 i.toNat v)) := e_iastore (hR_c22 h r) h0 h1
theorem er_now {j : Nat} (hj : j = 1 ∨ j = 12 ∨ j = 14) : xcell (hR h r) 1 j = some (.inr (.inl (0, 116, r.2 j))) := by
  rcases hj with rfl | rfl | rfl <;> rfl
theorem er_nowp {j : Nat} (hj : j = 1 ∨ j = 12 ∨ j = 14) (i : Nat) (v : Int) : xput (hR h r) 1 j (.inr (.inl (0, 116, xfu (r.2 j) i v))) = hR h (xr_a r j i v) := by
  rcases hj with rfl | rfl | rfl <;> rfl
theorem er_rj {j : Nat} {i : Int} (hj : j = 1 ∨ j = 12 ∨ j = 14) (h0 : 0 ≤ i) (h1 : i < 116) : xIs x_dd G rg (.iaload :: l) (L, .inl i :: .inr (.inr (.inl (1, j))) :: S, hR h r) = xIs x_dd G rg l (L, .inl (r.2 j i.toNat) :: S, hR h r) := e_iaload (er_now hj) h0 h1
theorem er_wj {j : Nat} {i v : Int} (hj : j = 1 ∨ j = 12 ∨ j = 14) (h0 : 0 ≤ i) (h1 : i < 116) : xIs x_dd G rg (.iastore :: l) (L, .inl v :: .inl i :: .inr (.inr (.inl (1, j))) :: S, hR h r) = xIs x_dd G rg l (L, S, hR h (xr_a r j i.toNat v)) := by
  rw [e_iastore (er_now hj) h0 h1, er_nowp hj]
end ER
