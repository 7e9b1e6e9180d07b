/-! ===== the classes, their constant pools (printed by program) ===== -/
set_option maxRecDepth 100000 in
theorem kfX0_7 : x_Fok RX0 7 0 := ⟨(RX0, TX0, 6), tyX0 0, rfl, ckX0, by decide, x_in 186 rfl rfl, tyX0_ok 0 (by decide), rfl, rfl⟩
set_option maxRecDepth 100000 in
theorem kfX0_13 : x_Fok RX0 13 1 := ⟨(RX0, TX0, 6), tyX0 1, rfl, ckX0, by decide, x_in 190 rfl rfl, tyX0_ok 1 (by decide), rfl, rfl⟩
set_option maxRecDepth 100000 in
theorem kfX0_16 : x_Fok RX0 16 2 := ⟨(RX0, TX0, 6), tyX0 2, rfl, ckX0, by decide, x_in 194 rfl rfl, tyX0_ok 2 (by decide), rfl, rfl⟩
set_option maxRecDepth 100000 in
theorem kfX0_19 : x_Fok RX0 19 3 := ⟨(RX0, TX0, 6), tyX0 3, rfl, ckX0, by decide, x_in 196 rfl rfl, tyX0_ok 3 (by decide), rfl, rfl⟩
set_option maxRecDepth 100000 in
theorem kfX0_22 : x_Fok RX0 22 4 := ⟨(RX0, TX0, 6), tyX0 4, rfl, ckX0, by decide, x_in 198 rfl rfl, tyX0_ok 4 (by decide), rfl, rfl⟩
set_option maxRecDepth 100000 in
theorem kfX0_25 : x_Fok RX0 25 5 := ⟨(RX0, TX0, 6), tyX0 5, rfl, ckX0, by decide, x_in 201 rfl rfl, tyX0_ok 5 (by decide), rfl, rfl⟩
set_option maxRecDepth 100000 in
theorem kmX0_1 : x_Ook RX0 1 := ⟨x_in 185 rfl rfl, x_in 121 rfl rfl, x_in 122 rfl rfl⟩
set_option maxRecDepth 100000 in
theorem kmX0_28 : x_Lok xM xN RX0 28 0 1481 := ⟨_, rfl, mkX9_coordinate, x_in 543 rfl rfl, x_in 544 rfl rfl, x_in 545 rfl rfl, ⟨(RX9, TX9, 5), rfl, rfl⟩, 0, rfl, mpX9_coordinate⟩
set_option maxRecDepth 100000 in
theorem kmX0_34 : x_Lok xM xN RX0 34 0 1417 := ⟨_, rfl, mkX9_need, x_in 563 rfl rfl, x_in 564 rfl rfl, x_in 565 rfl rfl, ⟨(RX9, TX9, 5), rfl, rfl⟩, 1, rfl, mpX9_need⟩
set_option maxRecDepth 100000 in
theorem kmX0_38 : x_Lok xM xN RX0 38 0 48 := ⟨_, rfl, mkX0_readCourse, x_in 571 rfl rfl, x_in 573 rfl rfl, x_in 1 rfl rfl, ⟨(RX0, TX0, 6), rfl, rfl⟩, 1, rfl, mpX0_readCourse⟩
set_option maxRecDepth 100000 in
theorem kmX0_42 : x_Lok xM xN RX0 42 0 1465 := ⟨_, rfl, mkX9_digit, x_in 577 rfl rfl, x_in 548 rfl rfl, x_in 549 rfl rfl, ⟨(RX9, TX9, 5), rfl, rfl⟩, 2, rfl, mpX9_digit⟩
set_option maxRecDepth 100000 in
theorem kmX0_46 : x_Lok xM xN RX0 46 0 1401 := ⟨_, rfl, mkX9_take, x_in 575 rfl rfl, x_in 568 rfl rfl, x_in 569 rfl rfl, ⟨(RX9, TX9, 5), rfl, rfl⟩, 1, rfl, mpX9_take⟩
set_option maxRecDepth 100000 in
theorem kmX0_50 : x_Lok xM xN RX0 50 0 1433 := ⟨_, rfl, mkX9_refuse, x_in 576 rfl rfl, x_in 560 rfl rfl, x_in 561 rfl rfl, ⟨(RX9, TX9, 5), rfl, rfl⟩, 0, rfl, mpX9_refuse⟩
set_option maxRecDepth 100000 in
theorem kmX0_53 : x_Lok xM xN RX0 53 3 2683 := ⟨_, rfl, mkX11_isAtSea, List.mem_of_getElem? (i := 10) rfl, x_in 893 rfl rfl, mpX11_isAtSea⟩
set_option maxRecDepth 100000 in
def KX0 : xK := (RX0, [(7, 0), (13, 1), (16, 2), (19, 3), (22, 4), (25, 5)], [(1, 6, 0), (28, 0, 1481), (34, 0, 1417), (38, 0, 48), (42, 0, 1465), (46, 0, 1401), (50, 0, 1433), (53, 3, 2683)], [], [], [], [])
set_option maxRecDepth 100000 in
theorem k1X0 : ∀ q ∈ KX0.2.1, x_Fok KX0.1 q.1 q.2 := List.forall_mem_cons.mpr ⟨kfX0_7, List.forall_mem_cons.mpr ⟨kfX0_13, List.forall_mem_cons.mpr ⟨kfX0_16, List.forall_mem_cons.mpr ⟨kfX0_19, List.forall_mem_cons.mpr ⟨kfX0_22, List.forall_mem_cons.mpr ⟨kfX0_25, fun _ h => absurd h List.not_mem_nil⟩⟩⟩⟩⟩⟩
set_option maxRecDepth 100000 in
theorem k2X0 : ∀ q ∈ KX0.2.2.1, if q.2.1 = 6 then x_Ook KX0.1 q.1 else x_Lok xM xN KX0.1 q.1 q.2.1 q.2.2 := List.forall_mem_cons.mpr ⟨kmX0_1, List.forall_mem_cons.mpr ⟨kmX0_28, List.forall_mem_cons.mpr ⟨kmX0_34, List.forall_mem_cons.mpr ⟨kmX0_38, List.forall_mem_cons.mpr ⟨kmX0_42, List.forall_mem_cons.mpr ⟨kmX0_46, List.forall_mem_cons.mpr ⟨kmX0_50, List.forall_mem_cons.mpr ⟨kmX0_53, fun _ h => absurd h List.not_mem_nil⟩⟩⟩⟩⟩⟩⟩⟩
set_option maxRecDepth 100000 in
theorem k3X0 : ∀ q ∈ KX0.2.2.2.1, x_Nok KX0.1 q.1 q.2 := fun _ h => absurd h List.not_mem_nil
set_option maxRecDepth 100000 in
theorem k4X0 : ∀ q ∈ KX0.2.2.2.2.1, x_Aok KX0.1 q.1 q.2 := fun _ h => absurd h List.not_mem_nil
set_option maxRecDepth 100000 in
theorem k5X0 : ∀ q ∈ KX0.2.2.2.2.2.1, Cond.constant KX0.1 q.1 (Int32.ofInt q.2) ∈ xT ∧ xin q.2 := fun _ h => absurd h List.not_mem_nil
set_option maxRecDepth 100000 in
theorem k6X0 : ∀ q ∈ KX0.2.2.2.2.2.2, Cond.constantLong KX0.1 q.1 (Int64.ofInt q.2) ∈ xT ∧ xlin q.2 := fun _ h => absurd h List.not_mem_nil
set_option maxRecDepth 100000 in
theorem kkX0 : x_Kok xM xN KX0 := ⟨k1X0, k2X0, k3X0, k4X0, k5X0, k6X0⟩
set_option maxRecDepth 100000 in
theorem kfX1_11 : x_Fok RX1 11 24640 := ⟨(RX1, TX1, 4), tyX1 0, rfl, ckX1, by decide, x_in 374 rfl rfl, tyX1_ok 0 (by decide), Or.inr ⟨_, rfl⟩, fun _ => ⟨rfl, rfl⟩⟩
set_option maxRecDepth 100000 in
theorem kfX1_15 : x_Fok RX1 15 24641 := ⟨(RX1, TX1, 4), tyX1 1, rfl, ckX1, by decide, x_in 376 rfl rfl, tyX1_ok 1 (by decide), Or.inr ⟨_, rfl⟩, fun _ => ⟨rfl, rfl⟩⟩
set_option maxRecDepth 100000 in
theorem kfX1_18 : x_Fok RX1 18 24642 := ⟨(RX1, TX1, 4), tyX1 2, rfl, ckX1, by decide, x_in 378 rfl rfl, tyX1_ok 2 (by decide), Or.inr ⟨_, rfl⟩, fun _ => ⟨rfl, rfl⟩⟩
set_option maxRecDepth 100000 in
theorem kfX1_21 : x_Fok RX1 21 67 := ⟨(RX1, TX1, 4), tyX1 3, rfl, ckX1, by decide, x_in 380 rfl rfl, tyX1_ok 3 (by decide), rfl, rfl⟩
set_option maxRecDepth 100000 in
theorem kmX1_3 : x_Ook RX1 3 := ⟨x_in 373 rfl rfl, x_in 121 rfl rfl, x_in 122 rfl rfl⟩
set_option maxRecDepth 100000 in
theorem kmX1_25 : x_Lok xM xN RX1 25 0 1321 := ⟨_, rfl, mkX9_open, x_in 971 rfl rfl, x_in 525 rfl rfl, x_in 526 rfl rfl, ⟨(RX9, TX9, 5), rfl, rfl⟩, 1, rfl, mpX9_open⟩
set_option maxRecDepth 100000 in
theorem kmX1_31 : x_Lok xM xN RX1 31 0 1273 := ⟨_, rfl, mkX9_isEmpty, x_in 972 rfl rfl, x_in 532 rfl rfl, x_in 533 rfl rfl, ⟨(RX9, TX9, 5), rfl, rfl⟩, 0, rfl, mpX9_isEmpty⟩
set_option maxRecDepth 100000 in
theorem kmX1_35 : x_Lok xM xN RX1 35 0 113 := ⟨_, rfl, mkX1_readAct, x_in 973 rfl rfl, x_in 975 rfl rfl, x_in 22 rfl rfl, ⟨(RX1, TX1, 4), rfl, rfl⟩, 1, rfl, mpX1_readAct⟩
set_option maxRecDepth 100000 in
theorem kmX1_39 : x_Lok xM xN RX1 39 0 1401 := ⟨_, rfl, mkX9_take, x_in 982 rfl rfl, x_in 568 rfl rfl, x_in 569 rfl rfl, ⟨(RX9, TX9, 5), rfl, rfl⟩, 1, rfl, mpX9_take⟩
set_option maxRecDepth 100000 in
theorem kmX1_43 : x_Lok xM xN RX1 43 0 1529 := ⟨_, rfl, mkX9_close, x_in 984 rfl rfl, x_in 581 rfl rfl, x_in 582 rfl rfl, ⟨(RX9, TX9, 5), rfl, rfl⟩, 0, rfl, mpX9_close⟩
set_option maxRecDepth 100000 in
theorem kmX1_47 : x_Lok xM xN RX1 47 0 1337 := ⟨_, rfl, mkX9_peek, x_in 977 rfl rfl, x_in 556 rfl rfl, x_in 557 rfl rfl, ⟨(RX9, TX9, 5), rfl, rfl⟩, 0, rfl, mpX9_peek⟩
set_option maxRecDepth 100000 in
theorem kmX1_50 : x_Lok xM xN RX1 50 0 1385 := ⟨_, rfl, mkX9_skip, x_in 978 rfl rfl, x_in 660 rfl rfl, x_in 661 rfl rfl, ⟨(RX9, TX9, 5), rfl, rfl⟩, 0, rfl, mpX9_skip⟩
set_option maxRecDepth 100000 in
theorem kmX1_53 : x_Lok xM xN RX1 53 0 1449 := ⟨_, rfl, mkX9_isDigit, x_in 979 rfl rfl, x_in 552 rfl rfl, x_in 553 rfl rfl, ⟨(RX9, TX9, 5), rfl, rfl⟩, 2, rfl, mpX9_isDigit⟩
set_option maxRecDepth 100000 in
theorem kmX1_57 : x_Lok xM xN RX1 57 0 1465 := ⟨_, rfl, mkX9_digit, x_in 980 rfl rfl, x_in 548 rfl rfl, x_in 549 rfl rfl, ⟨(RX9, TX9, 5), rfl, rfl⟩, 2, rfl, mpX9_digit⟩
set_option maxRecDepth 100000 in
theorem kmX1_61 : x_Lok xM xN RX1 61 0 1497 := ⟨_, rfl, mkX9_boatLetter, x_in 981 rfl rfl, x_in 605 rfl rfl, x_in 606 rfl rfl, ⟨(RX9, TX9, 5), rfl, rfl⟩, 1, rfl, mpX9_boatLetter⟩
set_option maxRecDepth 100000 in
theorem kmX1_65 : x_Lok xM xN RX1 65 0 1433 := ⟨_, rfl, mkX9_refuse, x_in 983 rfl rfl, x_in 560 rfl rfl, x_in 561 rfl rfl, ⟨(RX9, TX9, 5), rfl, rfl⟩, 0, rfl, mpX9_refuse⟩
set_option maxRecDepth 100000 in
def KX1 : xK := (RX1, [(11, 24640), (15, 24641), (18, 24642), (21, 67)], [(3, 6, 0), (25, 0, 1321), (31, 0, 1273), (35, 0, 113), (39, 0, 1401), (43, 0, 1529), (47, 0, 1337), (50, 0, 1385), (53, 0, 1449), (57, 0, 1465), (61, 0, 1497), (65, 0, 1433)], [], [], [], [])
set_option maxRecDepth 100000 in
theorem k1X1 : ∀ q ∈ KX1.2.1, x_Fok KX1.1 q.1 q.2 := List.forall_mem_cons.mpr ⟨kfX1_11, List.forall_mem_cons.mpr ⟨kfX1_15, List.forall_mem_cons.mpr ⟨kfX1_18, List.forall_mem_cons.mpr ⟨kfX1_21, fun _ h => absurd h List.not_mem_nil⟩⟩⟩⟩
set_option maxRecDepth 100000 in
theorem k2X1 : ∀ q ∈ KX1.2.2.1, if q.2.1 = 6 then x_Ook KX1.1 q.1 else x_Lok xM xN KX1.1 q.1 q.2.1 q.2.2 := List.forall_mem_cons.mpr ⟨kmX1_3, List.forall_mem_cons.mpr ⟨kmX1_25, List.forall_mem_cons.mpr ⟨kmX1_31, List.forall_mem_cons.mpr ⟨kmX1_35, List.forall_mem_cons.mpr ⟨kmX1_39, List.forall_mem_cons.mpr ⟨kmX1_43, List.forall_mem_cons.mpr ⟨kmX1_47, List.forall_mem_cons.mpr ⟨kmX1_50, List.forall_mem_cons.mpr ⟨kmX1_53, List.forall_mem_cons.mpr ⟨kmX1_57, List.forall_mem_cons.mpr ⟨kmX1_61, List.forall_mem_cons.mpr ⟨kmX1_65, fun _ h => absurd h List.not_mem_nil⟩⟩⟩⟩⟩⟩⟩⟩⟩⟩⟩⟩
set_option maxRecDepth 100000 in
theorem k3X1 : ∀ q ∈ KX1.2.2.2.1, x_Nok KX1.1 q.1 q.2 := fun _ h => absurd h List.not_mem_nil
set_option maxRecDepth 100000 in
theorem k4X1 : ∀ q ∈ KX1.2.2.2.2.1, x_Aok KX1.1 q.1 q.2 := fun _ h => absurd h List.not_mem_nil
set_option maxRecDepth 100000 in
theorem k5X1 : ∀ q ∈ KX1.2.2.2.2.2.1, Cond.constant KX1.1 q.1 (Int32.ofInt q.2) ∈ xT ∧ xin q.2 := fun _ h => absurd h List.not_mem_nil
set_option maxRecDepth 100000 in
theorem k6X1 : ∀ q ∈ KX1.2.2.2.2.2.2, Cond.constantLong KX1.1 q.1 (Int64.ofInt q.2) ∈ xT ∧ xlin q.2 := fun _ h => absurd h List.not_mem_nil
set_option maxRecDepth 100000 in
theorem kkX1 : x_Kok xM xN KX1 := ⟨k1X1, k2X1, k3X1, k4X1, k5X1, k6X1⟩
set_option maxRecDepth 100000 in
theorem kfX2_7 : x_Fok RX2 7 128 := ⟨(RX2, TX2, 1), tyX2 0, rfl, ckX2, by decide, x_in 446 rfl rfl, tyX2_ok 0 (by decide), rfl, rfl⟩
set_option maxRecDepth 100000 in
theorem kmX2_1 : x_Ook RX2 1 := ⟨x_in 445 rfl rfl, x_in 121 rfl rfl, x_in 122 rfl rfl⟩
set_option maxRecDepth 100000 in
def KX2 : xK := (RX2, [(7, 128)], [(1, 6, 0)], [], [], [(13, 1103515245)], [])
set_option maxRecDepth 100000 in
theorem k1X2 : ∀ q ∈ KX2.2.1, x_Fok KX2.1 q.1 q.2 := List.forall_mem_cons.mpr ⟨kfX2_7, fun _ h => absurd h List.not_mem_nil⟩
set_option maxRecDepth 100000 in
theorem k2X2 : ∀ q ∈ KX2.2.2.1, if q.2.1 = 6 then x_Ook KX2.1 q.1 else x_Lok xM xN KX2.1 q.1 q.2.1 q.2.2 := List.forall_mem_cons.mpr ⟨kmX2_1, fun _ h => absurd h List.not_mem_nil⟩
set_option maxRecDepth 100000 in
theorem k3X2 : ∀ q ∈ KX2.2.2.2.1, x_Nok KX2.1 q.1 q.2 := fun _ h => absurd h List.not_mem_nil
set_option maxRecDepth 100000 in
theorem k4X2 : ∀ q ∈ KX2.2.2.2.2.1, x_Aok KX2.1 q.1 q.2 := fun _ h => absurd h List.not_mem_nil
set_option maxRecDepth 100000 in
theorem k5X2 : ∀ q ∈ KX2.2.2.2.2.2.1, Cond.constant KX2.1 q.1 (Int32.ofInt q.2) ∈ xT ∧ xin q.2 := List.forall_mem_cons.mpr ⟨⟨x_in 1228 rfl rfl, by unfold xin; decide⟩, fun _ h => absurd h List.not_mem_nil⟩
set_option maxRecDepth 100000 in
theorem k6X2 : ∀ q ∈ KX2.2.2.2.2.2.2, Cond.constantLong KX2.1 q.1 (Int64.ofInt q.2) ∈ xT ∧ xlin q.2 := fun _ h => absurd h List.not_mem_nil
set_option maxRecDepth 100000 in
theorem kkX2 : x_Kok xM xN KX2 := ⟨k1X2, k2X2, k3X2, k4X2, k5X2, k6X2⟩
set_option maxRecDepth 100000 in
theorem kfX3_9 : x_Fok RX3 9 199 := ⟨(RX3, TX3, 8), tyX3 7, rfl, ckX3, by decide, x_in 243 rfl rfl, tyX3_ok 7 (by decide), rfl, rfl⟩
set_option maxRecDepth 100000 in
theorem kfX3_15 : x_Fok RX3 15 192 := ⟨(RX3, TX3, 8), tyX3 0, rfl, ckX3, by decide, x_in 222 rfl rfl, tyX3_ok 0 (by decide), rfl, rfl⟩
set_option maxRecDepth 100000 in
theorem kfX3_18 : x_Fok RX3 18 193 := ⟨(RX3, TX3, 8), tyX3 1, rfl, ckX3, by decide, x_in 225 rfl rfl, tyX3_ok 1 (by decide), rfl, rfl⟩
set_option maxRecDepth 100000 in
theorem kfX3_21 : x_Fok RX3 21 194 := ⟨(RX3, TX3, 8), tyX3 2, rfl, ckX3, by decide, x_in 228 rfl rfl, tyX3_ok 2 (by decide), rfl, rfl⟩
set_option maxRecDepth 100000 in
theorem kfX3_24 : x_Fok RX3 24 195 := ⟨(RX3, TX3, 8), tyX3 3, rfl, ckX3, by decide, x_in 231 rfl rfl, tyX3_ok 3 (by decide), rfl, rfl⟩
set_option maxRecDepth 100000 in
theorem kfX3_27 : x_Fok RX3 27 196 := ⟨(RX3, TX3, 8), tyX3 4, rfl, ckX3, by decide, x_in 234 rfl rfl, tyX3_ok 4 (by decide), rfl, rfl⟩
set_option maxRecDepth 100000 in
theorem kfX3_30 : x_Fok RX3 30 197 := ⟨(RX3, TX3, 8), tyX3 5, rfl, ckX3, by decide, x_in 237 rfl rfl, tyX3_ok 5 (by decide), rfl, rfl⟩
set_option maxRecDepth 100000 in
theorem kfX3_33 : x_Fok RX3 33 198 := ⟨(RX3, TX3, 8), tyX3 6, rfl, ckX3, by decide, x_in 240 rfl rfl, tyX3_ok 6 (by decide), rfl, rfl⟩
set_option maxRecDepth 100000 in
theorem kmX3_3 : x_Ook RX3 3 := ⟨x_in 221 rfl rfl, x_in 121 rfl rfl, x_in 122 rfl rfl⟩
set_option maxRecDepth 100000 in
theorem kmX3_36 : x_Lok xM xN RX3 36 0 227 := ⟨_, rfl, mkX3_restAshore, x_in 617 rfl rfl, x_in 618 rfl rfl, x_in 619 rfl rfl, ⟨(RX3, TX3, 8), rfl, rfl⟩, 0, rfl, mpX3_restAshore⟩
set_option maxRecDepth 100000 in
theorem kmX3_39 : x_Lok xM xN RX3 39 2 4464 := ⟨_, rfl, mkJ9_abs_0f7a4, x_in 928 rfl rfl, x_in 834 rfl rfl, mpJ9_abs_0f7a4⟩
set_option maxRecDepth 100000 in
theorem kmX3_45 : x_Lok xM xN RX3 45 2 4496 := ⟨_, rfl, mkJ9_min_7cf53, x_in 929 rfl rfl, x_in 529 rfl rfl, mpJ9_min_7cf53⟩
set_option maxRecDepth 100000 in
def KX3 : xK := (RX3, [(9, 199), (15, 192), (18, 193), (21, 194), (24, 195), (27, 196), (30, 197), (33, 198)], [(3, 6, 0), (36, 0, 227), (39, 2, 4464), (45, 2, 4496)], [], [], [], [])
set_option maxRecDepth 100000 in
theorem k1X3 : ∀ q ∈ KX3.2.1, x_Fok KX3.1 q.1 q.2 := List.forall_mem_cons.mpr ⟨kfX3_9, List.forall_mem_cons.mpr ⟨kfX3_15, List.forall_mem_cons.mpr ⟨kfX3_18, List.forall_mem_cons.mpr ⟨kfX3_21, List.forall_mem_cons.mpr ⟨kfX3_24, List.forall_mem_cons.mpr ⟨kfX3_27, List.forall_mem_cons.mpr ⟨kfX3_30, List.forall_mem_cons.mpr ⟨kfX3_33, fun _ h => absurd h List.not_mem_nil⟩⟩⟩⟩⟩⟩⟩⟩
set_option maxRecDepth 100000 in
theorem k2X3 : ∀ q ∈ KX3.2.2.1, if q.2.1 = 6 then x_Ook KX3.1 q.1 else x_Lok xM xN KX3.1 q.1 q.2.1 q.2.2 := List.forall_mem_cons.mpr ⟨kmX3_3, List.forall_mem_cons.mpr ⟨kmX3_36, List.forall_mem_cons.mpr ⟨kmX3_39, List.forall_mem_cons.mpr ⟨kmX3_45, fun _ h => absurd h List.not_mem_nil⟩⟩⟩⟩
set_option maxRecDepth 100000 in
theorem k3X3 : ∀ q ∈ KX3.2.2.2.1, x_Nok KX3.1 q.1 q.2 := fun _ h => absurd h List.not_mem_nil
set_option maxRecDepth 100000 in
theorem k4X3 : ∀ q ∈ KX3.2.2.2.2.1, x_Aok KX3.1 q.1 q.2 := fun _ h => absurd h List.not_mem_nil
set_option maxRecDepth 100000 in
theorem k5X3 : ∀ q ∈ KX3.2.2.2.2.2.1, Cond.constant KX3.1 q.1 (Int32.ofInt q.2) ∈ xT ∧ xin q.2 := fun _ h => absurd h List.not_mem_nil
set_option maxRecDepth 100000 in
theorem k6X3 : ∀ q ∈ KX3.2.2.2.2.2.2, Cond.constantLong KX3.1 q.1 (Int64.ofInt q.2) ∈ xT ∧ xlin q.2 := fun _ h => absurd h List.not_mem_nil
set_option maxRecDepth 100000 in
theorem kkX3 : x_Kok xM xN KX3 := ⟨k1X3, k2X3, k3X3, k4X3, k5X3, k6X3⟩
set_option maxRecDepth 100000 in
theorem kfX4_11 : x_Fok RX4 11 24832 := ⟨(RX4, TX4, 3), tyX4 0, rfl, ckX4, by decide, x_in 358 rfl rfl, tyX4_ok 0 (by decide), Or.inr ⟨_, rfl⟩, fun _ => ⟨rfl, rfl⟩⟩
set_option maxRecDepth 100000 in
theorem kfX4_18 : x_Fok RX4 18 258 := ⟨(RX4, TX4, 3), tyX4 2, rfl, ckX4, by decide, x_in 360 rfl rfl, tyX4_ok 2 (by decide), rfl, rfl⟩
set_option maxRecDepth 100000 in
theorem kfX4_22 : x_Fok RX4 22 257 := ⟨(RX4, TX4, 3), tyX4 1, rfl, ckX4, by decide, x_in 359 rfl rfl, tyX4_ok 1 (by decide), rfl, rfl⟩
set_option maxRecDepth 100000 in
theorem kmX4_3 : x_Ook RX4 3 := ⟨x_in 354 rfl rfl, x_in 121 rfl rfl, x_in 122 rfl rfl⟩
set_option maxRecDepth 100000 in
theorem kmX4_15 : x_Lok xM xN RX4 15 4 599 := ⟨_, rfl, mkX7_init, x_in 357 rfl rfl, x_in 172 rfl rfl, rfl, rfl, 1, rfl, mpX7_init⟩
set_option maxRecDepth 100000 in
theorem kmX4_25 : x_Lok xM xN RX4 25 0 615 := ⟨_, rfl, mkX7_copyFrom, x_in 780 rfl rfl, x_in 781 rfl rfl, x_in 782 rfl rfl, ⟨(RX7, TX7, 16), rfl, rfl⟩, 1, rfl, mpX7_copyFrom⟩
set_option maxRecDepth 100000 in
theorem knX4_9 : x_Nok RX4 9 7 := ⟨(RX7, TX7, 16), rfl, ckX7, x_in 355 rfl rfl, x_in 170 rfl rfl, x_in 92 rfl rfl⟩
set_option maxRecDepth 100000 in
theorem kaX4_9 : x_Aok RX4 9 7 := ⟨(RX7, TX7, 16), rfl, x_in 355 rfl rfl, List.mem_of_getElem? (i := 3) rfl⟩
set_option maxRecDepth 100000 in
def KX4 : xK := (RX4, [(11, 24832), (18, 258), (22, 257)], [(3, 6, 0), (15, 4, 599), (25, 0, 615)], [(9, 7)], [(9, 7)], [], [])
set_option maxRecDepth 100000 in
theorem k1X4 : ∀ q ∈ KX4.2.1, x_Fok KX4.1 q.1 q.2 := List.forall_mem_cons.mpr ⟨kfX4_11, List.forall_mem_cons.mpr ⟨kfX4_18, List.forall_mem_cons.mpr ⟨kfX4_22, fun _ h => absurd h List.not_mem_nil⟩⟩⟩
set_option maxRecDepth 100000 in
theorem k2X4 : ∀ q ∈ KX4.2.2.1, if q.2.1 = 6 then x_Ook KX4.1 q.1 else x_Lok xM xN KX4.1 q.1 q.2.1 q.2.2 := List.forall_mem_cons.mpr ⟨kmX4_3, List.forall_mem_cons.mpr ⟨kmX4_15, List.forall_mem_cons.mpr ⟨kmX4_25, fun _ h => absurd h List.not_mem_nil⟩⟩⟩
set_option maxRecDepth 100000 in
theorem k3X4 : ∀ q ∈ KX4.2.2.2.1, x_Nok KX4.1 q.1 q.2 := List.forall_mem_cons.mpr ⟨knX4_9, fun _ h => absurd h List.not_mem_nil⟩
set_option maxRecDepth 100000 in
theorem k4X4 : ∀ q ∈ KX4.2.2.2.2.1, x_Aok KX4.1 q.1 q.2 := List.forall_mem_cons.mpr ⟨kaX4_9, fun _ h => absurd h List.not_mem_nil⟩
set_option maxRecDepth 100000 in
theorem k5X4 : ∀ q ∈ KX4.2.2.2.2.2.1, Cond.constant KX4.1 q.1 (Int32.ofInt q.2) ∈ xT ∧ xin q.2 := fun _ h => absurd h List.not_mem_nil
set_option maxRecDepth 100000 in
theorem k6X4 : ∀ q ∈ KX4.2.2.2.2.2.2, Cond.constantLong KX4.1 q.1 (Int64.ofInt q.2) ∈ xT ∧ xlin q.2 := fun _ h => absurd h List.not_mem_nil
set_option maxRecDepth 100000 in
theorem kkX4 : x_Kok xM xN KX4 := ⟨k1X4, k2X4, k3X4, k4X4, k5X4, k6X4⟩
set_option maxRecDepth 100000 in
theorem kfX5_9 : x_Fok RX5 9 322 := ⟨(RX5, TX5, 3), tyX5 2, rfl, ckX5, by decide, x_in 274 rfl rfl, tyX5_ok 2 (by decide), rfl, rfl⟩
set_option maxRecDepth 100000 in
theorem kfX5_15 : x_Fok RX5 15 320 := ⟨(RX5, TX5, 3), tyX5 0, rfl, ckX5, by decide, x_in 268 rfl rfl, tyX5_ok 0 (by decide), rfl, rfl⟩
set_option maxRecDepth 100000 in
theorem kfX5_18 : x_Fok RX5 18 321 := ⟨(RX5, TX5, 3), tyX5 1, rfl, ckX5, by decide, x_in 271 rfl rfl, tyX5_ok 1 (by decide), rfl, rfl⟩
set_option maxRecDepth 100000 in
theorem kmX5_3 : x_Ook RX5 3 := ⟨x_in 267 rfl rfl, x_in 121 rfl rfl, x_in 122 rfl rfl⟩
set_option maxRecDepth 100000 in
def KX5 : xK := (RX5, [(9, 322), (15, 320), (18, 321)], [(3, 6, 0)], [], [], [], [])
set_option maxRecDepth 100000 in
theorem k1X5 : ∀ q ∈ KX5.2.1, x_Fok KX5.1 q.1 q.2 := List.forall_mem_cons.mpr ⟨kfX5_9, List.forall_mem_cons.mpr ⟨kfX5_15, List.forall_mem_cons.mpr ⟨kfX5_18, fun _ h => absurd h List.not_mem_nil⟩⟩⟩
set_option maxRecDepth 100000 in
theorem k2X5 : ∀ q ∈ KX5.2.2.1, if q.2.1 = 6 then x_Ook KX5.1 q.1 else x_Lok xM xN KX5.1 q.1 q.2.1 q.2.2 := List.forall_mem_cons.mpr ⟨kmX5_3, fun _ h => absurd h List.not_mem_nil⟩
set_option maxRecDepth 100000 in
theorem k3X5 : ∀ q ∈ KX5.2.2.2.1, x_Nok KX5.1 q.1 q.2 := fun _ h => absurd h List.not_mem_nil
set_option maxRecDepth 100000 in
theorem k4X5 : ∀ q ∈ KX5.2.2.2.2.1, x_Aok KX5.1 q.1 q.2 := fun _ h => absurd h List.not_mem_nil
set_option maxRecDepth 100000 in
theorem k5X5 : ∀ q ∈ KX5.2.2.2.2.2.1, Cond.constant KX5.1 q.1 (Int32.ofInt q.2) ∈ xT ∧ xin q.2 := fun _ h => absurd h List.not_mem_nil
set_option maxRecDepth 100000 in
theorem k6X5 : ∀ q ∈ KX5.2.2.2.2.2.2, Cond.constantLong KX5.1 q.1 (Int64.ofInt q.2) ∈ xT ∧ xlin q.2 := fun _ h => absurd h List.not_mem_nil
set_option maxRecDepth 100000 in
theorem kkX5 : x_Kok xM xN KX5 := ⟨k1X5, k2X5, k3X5, k4X5, k5X5, k6X5⟩
set_option maxRecDepth 100000 in
theorem kfX6_11 : x_Fok RX6 11 24960 := ⟨(RX6, TX6, 5), tyX6 0, rfl, ckX6, by decide, x_in 152 rfl rfl, tyX6_ok 0 (by decide), Or.inr ⟨_, rfl⟩, fun _ => ⟨rfl, rfl⟩⟩
set_option maxRecDepth 100000 in
theorem kfX6_15 : x_Fok RX6 15 24962 := ⟨(RX6, TX6, 5), tyX6 2, rfl, ckX6, by decide, x_in 154 rfl rfl, tyX6_ok 2 (by decide), Or.inr ⟨_, rfl⟩, fun _ => ⟨rfl, rfl⟩⟩
set_option maxRecDepth 100000 in
theorem kfX6_18 : x_Fok RX6 18 24964 := ⟨(RX6, TX6, 5), tyX6 4, rfl, ckX6, by decide, x_in 156 rfl rfl, tyX6_ok 4 (by decide), Or.inr ⟨_, rfl⟩, fun _ => ⟨rfl, rfl⟩⟩
set_option maxRecDepth 100000 in
theorem kfX6_21 : x_Fok RX6 21 387 := ⟨(RX6, TX6, 5), tyX6 3, rfl, ckX6, by decide, x_in 155 rfl rfl, tyX6_ok 3 (by decide), rfl, rfl⟩
set_option maxRecDepth 100000 in
theorem kfX6_49 : x_Fok RX6 49 385 := ⟨(RX6, TX6, 5), tyX6 1, rfl, ckX6, by decide, x_in 153 rfl rfl, tyX6_ok 1 (by decide), rfl, rfl⟩
set_option maxRecDepth 100000 in
theorem kmX6_3 : x_Ook RX6 3 := ⟨x_in 151 rfl rfl, x_in 121 rfl rfl, x_in 122 rfl rfl⟩
set_option maxRecDepth 100000 in
theorem kmX6_25 : x_Lok xM xN RX6 25 0 1321 := ⟨_, rfl, mkX9_open, x_in 629 rfl rfl, x_in 525 rfl rfl, x_in 526 rfl rfl, ⟨(RX9, TX9, 5), rfl, rfl⟩, 1, rfl, mpX9_open⟩
set_option maxRecDepth 100000 in
theorem kmX6_31 : x_Lok xM xN RX6 31 0 1273 := ⟨_, rfl, mkX9_isEmpty, x_in 630 rfl rfl, x_in 532 rfl rfl, x_in 533 rfl rfl, ⟨(RX9, TX9, 5), rfl, rfl⟩, 0, rfl, mpX9_isEmpty⟩
set_option maxRecDepth 100000 in
theorem kmX6_35 : x_Lok xM xN RX6 35 0 454 := ⟨_, rfl, mkX6_readComparison, x_in 631 rfl rfl, x_in 633 rfl rfl, x_in 4 rfl rfl, ⟨(RX6, TX6, 5), rfl, rfl⟩, 2, rfl, mpX6_readComparison⟩
set_option maxRecDepth 100000 in
theorem kmX6_39 : x_Lok xM xN RX6 39 0 1529 := ⟨_, rfl, mkX9_close, x_in 750 rfl rfl, x_in 581 rfl rfl, x_in 582 rfl rfl, ⟨(RX9, TX9, 5), rfl, rfl⟩, 0, rfl, mpX9_close⟩
set_option maxRecDepth 100000 in
theorem kmX6_52 : x_Lok xM xN RX6 52 0 470 := ⟨_, rfl, mkX6_readSum, x_in 635 rfl rfl, x_in 637 rfl rfl, x_in 5 rfl rfl, ⟨(RX6, TX6, 5), rfl, rfl⟩, 2, rfl, mpX6_readSum⟩
set_option maxRecDepth 100000 in
theorem kmX6_55 : x_Lok xM xN RX6 55 0 1337 := ⟨_, rfl, mkX9_peek, x_in 652 rfl rfl, x_in 556 rfl rfl, x_in 557 rfl rfl, ⟨(RX9, TX9, 5), rfl, rfl⟩, 0, rfl, mpX9_peek⟩
set_option maxRecDepth 100000 in
theorem kmX6_58 : x_Lok xM xN RX6 58 0 1385 := ⟨_, rfl, mkX9_skip, x_in 659 rfl rfl, x_in 660 rfl rfl, x_in 661 rfl rfl, ⟨(RX9, TX9, 5), rfl, rfl⟩, 0, rfl, mpX9_skip⟩
set_option maxRecDepth 100000 in
theorem kmX6_61 : x_Lok xM xN RX6 61 0 534 := ⟨_, rfl, mkX6_put, x_in 655 rfl rfl, x_in 657 rfl rfl, x_in 9 rfl rfl, ⟨(RX6, TX6, 5), rfl, rfl⟩, 1, rfl, mpX6_put⟩
set_option maxRecDepth 100000 in
theorem kmX6_64 : x_Lok xM xN RX6 64 0 486 := ⟨_, rfl, mkX6_readProduct, x_in 639 rfl rfl, x_in 641 rfl rfl, x_in 6 rfl rfl, ⟨(RX6, TX6, 5), rfl, rfl⟩, 2, rfl, mpX6_readProduct⟩
set_option maxRecDepth 100000 in
theorem kmX6_67 : x_Lok xM xN RX6 67 0 502 := ⟨_, rfl, mkX6_readFactor, x_in 643 rfl rfl, x_in 645 rfl rfl, x_in 7 rfl rfl, ⟨(RX6, TX6, 5), rfl, rfl⟩, 2, rfl, mpX6_readFactor⟩
set_option maxRecDepth 100000 in
theorem kmX6_70 : x_Lok xM xN RX6 70 0 1401 := ⟨_, rfl, mkX9_take, x_in 647 rfl rfl, x_in 568 rfl rfl, x_in 569 rfl rfl, ⟨(RX9, TX9, 5), rfl, rfl⟩, 1, rfl, mpX9_take⟩
set_option maxRecDepth 100000 in
theorem kmX6_74 : x_Lok xM xN RX6 74 0 518 := ⟨_, rfl, mkX6_readThing, x_in 648 rfl rfl, x_in 650 rfl rfl, x_in 8 rfl rfl, ⟨(RX6, TX6, 5), rfl, rfl⟩, 2, rfl, mpX6_readThing⟩
set_option maxRecDepth 100000 in
theorem kmX6_77 : x_Lok xM xN RX6 77 0 1449 := ⟨_, rfl, mkX9_isDigit, x_in 653 rfl rfl, x_in 552 rfl rfl, x_in 553 rfl rfl, ⟨(RX9, TX9, 5), rfl, rfl⟩, 2, rfl, mpX9_isDigit⟩
set_option maxRecDepth 100000 in
theorem kmX6_81 : x_Lok xM xN RX6 81 0 1465 := ⟨_, rfl, mkX9_digit, x_in 654 rfl rfl, x_in 548 rfl rfl, x_in 549 rfl rfl, ⟨(RX9, TX9, 5), rfl, rfl⟩, 2, rfl, mpX9_digit⟩
set_option maxRecDepth 100000 in
theorem kmX6_85 : x_Lok xM xN RX6 85 0 1417 := ⟨_, rfl, mkX9_need, x_in 663 rfl rfl, x_in 564 rfl rfl, x_in 565 rfl rfl, ⟨(RX9, TX9, 5), rfl, rfl⟩, 1, rfl, mpX9_need⟩
set_option maxRecDepth 100000 in
theorem kmX6_97 : x_Lok xM xN RX6 97 0 1433 := ⟨_, rfl, mkX9_refuse, x_in 749 rfl rfl, x_in 560 rfl rfl, x_in 561 rfl rfl, ⟨(RX9, TX9, 5), rfl, rfl⟩, 0, rfl, mpX9_refuse⟩
set_option maxRecDepth 100000 in
theorem kmX6_100 : x_Lok xM xN RX6 100 0 566 := ⟨_, rfl, mkX6_run, x_in 915 rfl rfl, x_in 917 rfl rfl, x_in 14 rfl rfl, ⟨(RX6, TX6, 5), rfl, rfl⟩, 1, rfl, mpX6_run⟩
set_option maxRecDepth 100000 in
theorem kmX6_104 : x_Lok xM xN RX6 104 2 4496 := ⟨_, rfl, mkJ9_min_7cf53, x_in 922 rfl rfl, x_in 529 rfl rfl, mpJ9_min_7cf53⟩
set_option maxRecDepth 100000 in
theorem kmX6_109 : x_Lok xM xN RX6 109 2 4480 := ⟨_, rfl, mkJ9_max_7cf53, x_in 923 rfl rfl, x_in 694 rfl rfl, mpJ9_max_7cf53⟩
set_option maxRecDepth 100000 in
theorem kmX6_112 : x_Lok xM xN RX6 112 2 582 := ⟨_, rfl, mkX6_join, x_in 919 rfl rfl, x_in 920 rfl rfl, mpX6_join⟩
set_option maxRecDepth 100000 in
def KX6 : xK := (RX6, [(11, 24960), (15, 24962), (18, 24964), (21, 387), (49, 385)], [(3, 6, 0), (25, 0, 1321), (31, 0, 1273), (35, 0, 454), (39, 0, 1529), (52, 0, 470), (55, 0, 1337), (58, 0, 1385), (61, 0, 534), (64, 0, 486), (67, 0, 502), (70, 0, 1401), (74, 0, 518), (77, 0, 1449), (81, 0, 1465), (85, 0, 1417), (97, 0, 1433), (100, 0, 566), (104, 2, 4496), (109, 2, 4480), (112, 2, 582)], [], [], [], [])
set_option maxRecDepth 100000 in
theorem k1X6 : ∀ q ∈ KX6.2.1, x_Fok KX6.1 q.1 q.2 := List.forall_mem_cons.mpr ⟨kfX6_11, List.forall_mem_cons.mpr ⟨kfX6_15, List.forall_mem_cons.mpr ⟨kfX6_18, List.forall_mem_cons.mpr ⟨kfX6_21, List.forall_mem_cons.mpr ⟨kfX6_49, fun _ h => absurd h List.not_mem_nil⟩⟩⟩⟩⟩
set_option maxRecDepth 100000 in
theorem k2X6 : ∀ q ∈ KX6.2.2.1, if q.2.1 = 6 then x_Ook KX6.1 q.1 else x_Lok xM xN KX6.1 q.1 q.2.1 q.2.2 := List.forall_mem_cons.mpr ⟨kmX6_3, List.forall_mem_cons.mpr ⟨kmX6_25, List.forall_mem_cons.mpr ⟨kmX6_31, List.forall_mem_cons.mpr ⟨kmX6_35, List.forall_mem_cons.mpr ⟨kmX6_39, List.forall_mem_cons.mpr ⟨kmX6_52, List.forall_mem_cons.mpr ⟨kmX6_55, List.forall_mem_cons.mpr ⟨kmX6_58, List.forall_mem_cons.mpr ⟨kmX6_61, List.forall_mem_cons.mpr ⟨kmX6_64, List.forall_mem_cons.mpr ⟨kmX6_67, List.forall_mem_cons.mpr ⟨kmX6_70, List.forall_mem_cons.mpr ⟨kmX6_74, List.forall_mem_cons.mpr ⟨kmX6_77, List.forall_mem_cons.mpr ⟨kmX6_81, List.forall_mem_cons.mpr ⟨kmX6_85, List.forall_mem_cons.mpr ⟨kmX6_97, List.forall_mem_cons.mpr ⟨kmX6_100, List.forall_mem_cons.mpr ⟨kmX6_104, List.forall_mem_cons.mpr ⟨kmX6_109, List.forall_mem_cons.mpr ⟨kmX6_112, fun _ h => absurd h List.not_mem_nil⟩⟩⟩⟩⟩⟩⟩⟩⟩⟩⟩⟩⟩⟩⟩⟩⟩⟩⟩⟩⟩
set_option maxRecDepth 100000 in
theorem k3X6 : ∀ q ∈ KX6.2.2.2.1, x_Nok KX6.1 q.1 q.2 := fun _ h => absurd h List.not_mem_nil
set_option maxRecDepth 100000 in
theorem k4X6 : ∀ q ∈ KX6.2.2.2.2.1, x_Aok KX6.1 q.1 q.2 := fun _ h => absurd h List.not_mem_nil
set_option maxRecDepth 100000 in
theorem k5X6 : ∀ q ∈ KX6.2.2.2.2.2.1, Cond.constant KX6.1 q.1 (Int32.ofInt q.2) ∈ xT ∧ xin q.2 := fun _ h => absurd h List.not_mem_nil
set_option maxRecDepth 100000 in
theorem k6X6 : ∀ q ∈ KX6.2.2.2.2.2.2, Cond.constantLong KX6.1 q.1 (Int64.ofInt q.2) ∈ xT ∧ xlin q.2 := fun _ h => absurd h List.not_mem_nil
set_option maxRecDepth 100000 in
theorem kkX6 : x_Kok xM xN KX6 := ⟨k1X6, k2X6, k3X6, k4X6, k5X6, k6X6⟩
set_option maxRecDepth 100000 in
theorem kfX7_11 : x_Fok RX7 11 25024 := ⟨(RX7, TX7, 16), tyX7 0, rfl, ckX7, by decide, x_in 284 rfl rfl, tyX7_ok 0 (by decide), Or.inr ⟨_, rfl⟩, fun _ => ⟨rfl, rfl⟩⟩
set_option maxRecDepth 100000 in
theorem kfX7_19 : x_Fok RX7 19 25025 := ⟨(RX7, TX7, 16), tyX7 1, rfl, ckX7, by decide, x_in 287 rfl rfl, tyX7_ok 1 (by decide), Or.inr ⟨_, rfl⟩, fun _ => ⟨rfl, rfl⟩⟩
set_option maxRecDepth 100000 in
theorem kfX7_25 : x_Fok RX7 25 25026 := ⟨(RX7, TX7, 16), tyX7 2, rfl, ckX7, by decide, x_in 289 rfl rfl, tyX7_ok 2 (by decide), Or.inr ⟨_, rfl⟩, fun _ => ⟨rfl, rfl⟩⟩
set_option maxRecDepth 100000 in
theorem kfX7_29 : x_Fok RX7 29 461 := ⟨(RX7, TX7, 16), tyX7 13, rfl, ckX7, by decide, x_in 312 rfl rfl, tyX7_ok 13 (by decide), rfl, rfl⟩
set_option maxRecDepth 100000 in
theorem kfX7_33 : x_Fok RX7 33 25039 := ⟨(RX7, TX7, 16), tyX7 15, rfl, ckX7, by decide, x_in 315 rfl rfl, tyX7_ok 15 (by decide), Or.inr ⟨_, rfl⟩, fun _ => ⟨rfl, rfl⟩⟩
set_option maxRecDepth 100000 in
theorem kfX7_37 : x_Fok RX7 37 25038 := ⟨(RX7, TX7, 16), tyX7 14, rfl, ckX7, by decide, x_in 314 rfl rfl, tyX7_ok 14 (by decide), Or.inl ⟨_, rfl⟩, fun _ => ⟨rfl, rfl⟩⟩
set_option maxRecDepth 100000 in
theorem kfX7_44 : x_Fok RX7 44 451 := ⟨(RX7, TX7, 16), tyX7 3, rfl, ckX7, by decide, x_in 291 rfl rfl, tyX7_ok 3 (by decide), rfl, rfl⟩
set_option maxRecDepth 100000 in
theorem kfX7_47 : x_Fok RX7 47 452 := ⟨(RX7, TX7, 16), tyX7 4, rfl, ckX7, by decide, x_in 294 rfl rfl, tyX7_ok 4 (by decide), rfl, rfl⟩
set_option maxRecDepth 100000 in
theorem kfX7_50 : x_Fok RX7 50 453 := ⟨(RX7, TX7, 16), tyX7 5, rfl, ckX7, by decide, x_in 296 rfl rfl, tyX7_ok 5 (by decide), rfl, rfl⟩
set_option maxRecDepth 100000 in
theorem kfX7_53 : x_Fok RX7 53 454 := ⟨(RX7, TX7, 16), tyX7 6, rfl, ckX7, by decide, x_in 298 rfl rfl, tyX7_ok 6 (by decide), rfl, rfl⟩
set_option maxRecDepth 100000 in
theorem kfX7_66 : x_Fok RX7 66 457 := ⟨(RX7, TX7, 16), tyX7 9, rfl, ckX7, by decide, x_in 304 rfl rfl, tyX7_ok 9 (by decide), rfl, rfl⟩
set_option maxRecDepth 100000 in
theorem kfX7_69 : x_Fok RX7 69 458 := ⟨(RX7, TX7, 16), tyX7 10, rfl, ckX7, by decide, x_in 306 rfl rfl, tyX7_ok 10 (by decide), rfl, rfl⟩
set_option maxRecDepth 100000 in
theorem kfX7_72 : x_Fok RX7 72 459 := ⟨(RX7, TX7, 16), tyX7 11, rfl, ckX7, by decide, x_in 308 rfl rfl, tyX7_ok 11 (by decide), rfl, rfl⟩
set_option maxRecDepth 100000 in
theorem kfX7_75 : x_Fok RX7 75 460 := ⟨(RX7, TX7, 16), tyX7 12, rfl, ckX7, by decide, x_in 310 rfl rfl, tyX7_ok 12 (by decide), rfl, rfl⟩
set_option maxRecDepth 100000 in
theorem kfX7_82 : x_Fok RX7 82 198 := ⟨(RX3, TX3, 8), tyX3 6, rfl, ckX3, by decide, x_in 241 rfl rfl, tyX3_ok 6 (by decide), rfl, rfl⟩
set_option maxRecDepth 100000 in
theorem kfX7_85 : x_Fok RX7 85 192 := ⟨(RX3, TX3, 8), tyX3 0, rfl, ckX3, by decide, x_in 224 rfl rfl, tyX3_ok 0 (by decide), rfl, rfl⟩
set_option maxRecDepth 100000 in
theorem kfX7_88 : x_Fok RX7 88 321 := ⟨(RX5, TX5, 3), tyX5 1, rfl, ckX5, by decide, x_in 273 rfl rfl, tyX5_ok 1 (by decide), rfl, rfl⟩
set_option maxRecDepth 100000 in
theorem kfX7_91 : x_Fok RX7 91 322 := ⟨(RX5, TX5, 3), tyX5 2, rfl, ckX5, by decide, x_in 276 rfl rfl, tyX5_ok 2 (by decide), rfl, rfl⟩
set_option maxRecDepth 100000 in
theorem kfX7_106 : x_Fok RX7 106 195 := ⟨(RX3, TX3, 8), tyX3 3, rfl, ckX3, by decide, x_in 233 rfl rfl, tyX3_ok 3 (by decide), rfl, rfl⟩
set_option maxRecDepth 100000 in
theorem kfX7_112 : x_Fok RX7 112 320 := ⟨(RX5, TX5, 3), tyX5 0, rfl, ckX5, by decide, x_in 270 rfl rfl, tyX5_ok 0 (by decide), rfl, rfl⟩
set_option maxRecDepth 100000 in
theorem kfX7_120 : x_Fok RX7 120 199 := ⟨(RX3, TX3, 8), tyX3 7, rfl, ckX3, by decide, x_in 245 rfl rfl, tyX3_ok 7 (by decide), rfl, rfl⟩
set_option maxRecDepth 100000 in
theorem kfX7_127 : x_Fok RX7 127 4 := ⟨(RX0, TX0, 6), tyX0 4, rfl, ckX0, by decide, x_in 200 rfl rfl, tyX0_ok 4 (by decide), rfl, rfl⟩
set_option maxRecDepth 100000 in
theorem kfX7_130 : x_Fok RX7 130 193 := ⟨(RX3, TX3, 8), tyX3 1, rfl, ckX3, by decide, x_in 227 rfl rfl, tyX3_ok 1 (by decide), rfl, rfl⟩
set_option maxRecDepth 100000 in
theorem kfX7_131 : x_Fok RX7 131 5 := ⟨(RX0, TX0, 6), tyX0 5, rfl, ckX0, by decide, x_in 203 rfl rfl, tyX0_ok 5 (by decide), rfl, rfl⟩
set_option maxRecDepth 100000 in
theorem kfX7_151 : x_Fok RX7 151 456 := ⟨(RX7, TX7, 16), tyX7 8, rfl, ckX7, by decide, x_in 303 rfl rfl, tyX7_ok 8 (by decide), rfl, rfl⟩
set_option maxRecDepth 100000 in
theorem kfX7_158 : x_Fok RX7 158 0 := ⟨(RX0, TX0, 6), tyX0 0, rfl, ckX0, by decide, x_in 189 rfl rfl, tyX0_ok 0 (by decide), rfl, rfl⟩
set_option maxRecDepth 100000 in
theorem kfX7_161 : x_Fok RX7 161 1 := ⟨(RX0, TX0, 6), tyX0 1, rfl, ckX0, by decide, x_in 193 rfl rfl, tyX0_ok 1 (by decide), rfl, rfl⟩
set_option maxRecDepth 100000 in
theorem kfX7_164 : x_Fok RX7 164 196 := ⟨(RX3, TX3, 8), tyX3 4, rfl, ckX3, by decide, x_in 236 rfl rfl, tyX3_ok 4 (by decide), rfl, rfl⟩
set_option maxRecDepth 100000 in
theorem kfX7_169 : x_Fok RX7 169 197 := ⟨(RX3, TX3, 8), tyX3 5, rfl, ckX3, by decide, x_in 239 rfl rfl, tyX3_ok 5 (by decide), rfl, rfl⟩
set_option maxRecDepth 100000 in
theorem kfX7_170 : x_Fok RX7 170 194 := ⟨(RX3, TX3, 8), tyX3 2, rfl, ckX3, by decide, x_in 230 rfl rfl, tyX3_ok 2 (by decide), rfl, rfl⟩
set_option maxRecDepth 100000 in
theorem kfX7_173 : x_Fok RX7 173 455 := ⟨(RX7, TX7, 16), tyX7 7, rfl, ckX7, by decide, x_in 301 rfl rfl, tyX7_ok 7 (by decide), rfl, rfl⟩
set_option maxRecDepth 100000 in
theorem kmX7_3 : x_Ook RX7 3 := ⟨x_in 174 rfl rfl, x_in 121 rfl rfl, x_in 122 rfl rfl⟩
set_option maxRecDepth 100000 in
theorem kmX7_41 : x_Lok xM xN RX7 41 5 0 := ⟨_, rfl, mkX0_init, List.mem_of_getElem? (i := 2) rfl, x_in 183 rfl rfl, rfl, rfl, 0, rfl, mpX0_init⟩
set_option maxRecDepth 100000 in
theorem kmX7_42 : x_Lok xM xN RX7 42 5 179 := ⟨_, rfl, mkX3_init, List.mem_of_getElem? (i := 3) rfl, x_in 219 rfl rfl, rfl, rfl, 0, rfl, mpX3_init⟩
set_option maxRecDepth 100000 in
theorem kmX7_43 : x_Lok xM xN RX7 43 5 357 := ⟨_, rfl, mkX5_init, List.mem_of_getElem? (i := 4) rfl, x_in 265 rfl rfl, rfl, rfl, 0, rfl, mpX5_init⟩
set_option maxRecDepth 100000 in
theorem kmX7_56 : x_Lok xM xN RX7 56 0 16 := ⟨_, rfl, mkX0_copyFrom, x_in 784 rfl rfl, x_in 785 rfl rfl, x_in 786 rfl rfl, ⟨(RX0, TX0, 6), rfl, rfl⟩, 1, rfl, mpX0_copyFrom⟩
set_option maxRecDepth 100000 in
theorem kmX7_60 : x_Lok xM xN RX7 60 0 195 := ⟨_, rfl, mkX3_copyFrom, x_in 788 rfl rfl, x_in 789 rfl rfl, x_in 790 rfl rfl, ⟨(RX3, TX3, 8), rfl, rfl⟩, 1, rfl, mpX3_copyFrom⟩
set_option maxRecDepth 100000 in
theorem kmX7_63 : x_Lok xM xN RX7 63 0 373 := ⟨_, rfl, mkX5_copyFrom, x_in 792 rfl rfl, x_in 793 rfl rfl, x_in 794 rfl rfl, ⟨(RX5, TX5, 3), rfl, rfl⟩, 1, rfl, mpX5_copyFrom⟩
set_option maxRecDepth 100000 in
theorem kmX7_78 : x_Lok xM xN RX7 78 0 663 := ⟨_, rfl, mkX7_hasGull, x_in 821 rfl rfl, x_in 822 rfl rfl, x_in 823 rfl rfl, ⟨(RX7, TX7, 16), rfl, rfl⟩, 1, rfl, mpX7_hasGull⟩
set_option maxRecDepth 100000 in
theorem kmX7_94 : x_Lok xM xN RX7 94 2 791 := ⟨_, rfl, mkX7_narrowed, x_in 767 rfl rfl, x_in 768 rfl rfl, mpX7_narrowed⟩
set_option maxRecDepth 100000 in
theorem kmX7_98 : x_Lok xM xN RX7 98 2 4496 := ⟨_, rfl, mkJ9_min_7cf53, x_in 770 rfl rfl, x_in 529 rfl rfl, mpJ9_min_7cf53⟩
set_option maxRecDepth 100000 in
theorem kmX7_103 : x_Lok xM xN RX7 103 2 4480 := ⟨_, rfl, mkJ9_max_7cf53, x_in 771 rfl rfl, x_in 694 rfl rfl, mpJ9_max_7cf53⟩
set_option maxRecDepth 100000 in
theorem kmX7_109 : x_Lok xM xN RX7 109 0 647 := ⟨_, rfl, mkX7_hasBoat, x_in 800 rfl rfl, x_in 610 rfl rfl, x_in 611 rfl rfl, ⟨(RX7, TX7, 16), rfl, rfl⟩, 1, rfl, mpX7_hasBoat⟩
set_option maxRecDepth 100000 in
theorem kmX7_113 : x_Lok xM xN RX7 113 0 389 := ⟨_, rfl, mkX5_put, x_in 801 rfl rfl, x_in 802 rfl rfl, x_in 803 rfl rfl, ⟨(RX5, TX5, 3), rfl, rfl⟩, 2, rfl, mpX5_put⟩
set_option maxRecDepth 100000 in
theorem kmX7_117 : x_Lok xM xN RX7 117 0 679 := ⟨_, rfl, mkX7_hasLetter, x_in 825 rfl rfl, x_in 826 rfl rfl, x_in 827 rfl rfl, ⟨(RX7, TX7, 16), rfl, rfl⟩, 1, rfl, mpX7_hasLetter⟩
set_option maxRecDepth 100000 in
theorem kmX7_123 : x_Lok xM xN RX7 123 0 1015 := ⟨_, rfl, mkX7_farFrom, x_in 829 rfl rfl, x_in 830 rfl rfl, x_in 831 rfl rfl, ⟨(RX7, TX7, 16), rfl, rfl⟩, 2, rfl, mpX7_farFrom⟩
set_option maxRecDepth 100000 in
theorem kmX7_134 : x_Lok xM xN RX7 134 0 871 := ⟨_, rfl, mkX7_putChum, x_in 993 rfl rfl, x_in 857 rfl rfl, x_in 858 rfl rfl, ⟨(RX7, TX7, 16), rfl, rfl⟩, 2, rfl, mpX7_putChum⟩
set_option maxRecDepth 100000 in
theorem kmX7_137 : x_Lok xM xN RX7 137 0 967 := ⟨_, rfl, mkX7_sailAll, x_in 884 rfl rfl, x_in 885 rfl rfl, x_in 886 rfl rfl, ⟨(RX7, TX7, 16), rfl, rfl⟩, 0, rfl, mpX7_sailAll⟩
set_option maxRecDepth 100000 in
theorem kmX7_140 : x_Lok xM xN RX7 140 0 1047 := ⟨_, rfl, mkX7_fly, x_in 895 rfl rfl, x_in 897 rfl rfl, x_in 12 rfl rfl, ⟨(RX7, TX7, 16), rfl, rfl⟩, 1, rfl, mpX7_fly⟩
set_option maxRecDepth 100000 in
theorem kmX7_144 : x_Lok xM xN RX7 144 0 695 := ⟨_, rfl, mkX7_isGull, x_in 1035 rfl rfl, x_in 1024 rfl rfl, x_in 1025 rfl rfl, ⟨(RX7, TX7, 16), rfl, rfl⟩, 2, rfl, mpX7_isGull⟩
set_option maxRecDepth 100000 in
theorem kmX7_148 : x_Lok xM xN RX7 148 0 64 := ⟨_, rfl, mkX0_sail, x_in 888 rfl rfl, x_in 889 rfl rfl, x_in 890 rfl rfl, ⟨(RX0, TX0, 6), rfl, rfl⟩, 0, rfl, mpX0_sail⟩
set_option maxRecDepth 100000 in
theorem kmX7_154 : x_Lok xM xN RX7 154 0 999 := ⟨_, rfl, mkX7_nearestBoat, x_in 903 rfl rfl, x_in 905 rfl rfl, x_in 13 rfl rfl, ⟨(RX7, TX7, 16), rfl, rfl⟩, 3, rfl, mpX7_nearestBoat⟩
set_option maxRecDepth 100000 in
theorem kmX7_165 : x_Lok xM xN RX7 165 2 4464 := ⟨_, rfl, mkJ9_abs_0f7a4, x_in 833 rfl rfl, x_in 834 rfl rfl, mpJ9_abs_0f7a4⟩
set_option maxRecDepth 100000 in
theorem kmX7_176 : x_Lok xM xN RX7 176 0 550 := ⟨_, rfl, mkX6_reckon, x_in 911 rfl rfl, x_in 912 rfl rfl, x_in 913 rfl rfl, ⟨(RX6, TX6, 5), rfl, rfl⟩, 1, rfl, mpX6_reckon⟩
set_option maxRecDepth 100000 in
theorem kmX7_182 : x_Lok xM xN RX7 182 0 983 := ⟨_, rfl, mkX7_goalOf, x_in 899 rfl rfl, x_in 900 rfl rfl, x_in 901 rfl rfl, ⟨(RX7, TX7, 16), rfl, rfl⟩, 1, rfl, mpX7_goalOf⟩
set_option maxRecDepth 100000 in
theorem kmX7_186 : x_Lok xM xN RX7 186 0 1031 := ⟨_, rfl, mkX7_reach, x_in 907 rfl rfl, x_in 908 rfl rfl, x_in 909 rfl rfl, ⟨(RX7, TX7, 16), rfl, rfl⟩, 2, rfl, mpX7_reach⟩
set_option maxRecDepth 100000 in
theorem kmX7_189 : x_Lok xM xN RX7 189 0 243 := ⟨_, rfl, mkX3_flyTowards, x_in 924 rfl rfl, x_in 925 rfl rfl, x_in 926 rfl rfl, ⟨(RX3, TX3, 8), rfl, rfl⟩, 3, rfl, mpX3_flyTowards⟩
set_option maxRecDepth 100000 in
theorem kmX7_193 : x_Lok xM xN RX7 193 0 1079 := ⟨_, rfl, mkX7_starve, x_in 930 rfl rfl, x_in 932 rfl rfl, x_in 15 rfl rfl, ⟨(RX7, TX7, 16), rfl, rfl⟩, 1, rfl, mpX7_starve⟩
set_option maxRecDepth 100000 in
theorem kmX7_196 : x_Lok xM xN RX7 196 0 1095 := ⟨_, rfl, mkX7_putLetter, x_in 934 rfl rfl, x_in 936 rfl rfl, x_in 16 rfl rfl, ⟨(RX7, TX7, 16), rfl, rfl⟩, 3, rfl, mpX7_putLetter⟩
set_option maxRecDepth 100000 in
theorem kmX7_200 : x_Lok xM xN RX7 200 0 227 := ⟨_, rfl, mkX3_restAshore, x_in 938 rfl rfl, x_in 618 rfl rfl, x_in 619 rfl rfl, ⟨(RX3, TX3, 8), rfl, rfl⟩, 0, rfl, mpX3_restAshore⟩
set_option maxRecDepth 100000 in
theorem kmX7_203 : x_Lok xM xN RX7 203 0 1063 := ⟨_, rfl, mkX7_comeAboard, x_in 939 rfl rfl, x_in 941 rfl rfl, x_in 17 rfl rfl, ⟨(RX7, TX7, 16), rfl, rfl⟩, 2, rfl, mpX7_comeAboard⟩
set_option maxRecDepth 100000 in
theorem knX7_9 : x_Nok RX7 9 0 := ⟨(RX0, TX0, 6), rfl, ckX0, x_in 175 rfl rfl, x_in 181 rfl rfl, x_in 93 rfl rfl⟩
set_option maxRecDepth 100000 in
theorem knX7_17 : x_Nok RX7 17 3 := ⟨(RX3, TX3, 8), rfl, ckX3, x_in 177 rfl rfl, x_in 217 rfl rfl, x_in 94 rfl rfl⟩
set_option maxRecDepth 100000 in
theorem knX7_23 : x_Nok RX7 23 5 := ⟨(RX5, TX5, 3), rfl, ckX5, x_in 179 rfl rfl, x_in 263 rfl rfl, x_in 95 rfl rfl⟩
set_option maxRecDepth 100000 in
theorem kaX7_9 : x_Aok RX7 9 0 := ⟨(RX0, TX0, 6), rfl, x_in 175 rfl rfl, List.mem_of_getElem? (i := 0) rfl⟩
set_option maxRecDepth 100000 in
theorem kaX7_17 : x_Aok RX7 17 3 := ⟨(RX3, TX3, 8), rfl, x_in 177 rfl rfl, List.mem_of_getElem? (i := 1) rfl⟩
set_option maxRecDepth 100000 in
theorem kaX7_23 : x_Aok RX7 23 5 := ⟨(RX5, TX5, 3), rfl, x_in 179 rfl rfl, List.mem_of_getElem? (i := 2) rfl⟩
set_option maxRecDepth 100000 in
def KX7 : xK := (RX7, [(11, 25024), (19, 25025), (25, 25026), (29, 461), (33, 25039), (37, 25038), (44, 451), (47, 452), (50, 453), (53, 454), (66, 457), (69, 458), (72, 459), (75, 460), (82, 198), (85, 192), (88, 321), (91, 322), (106, 195), (112, 320), (120, 199), (127, 4), (130, 193), (131, 5), (151, 456), (158, 0), (161, 1), (164, 196), (169, 197), (170, 194), (173, 455)], [(3, 6, 0), (41, 5, 0), (42, 5, 179), (43, 5, 357), (56, 0, 16), (60, 0, 195), (63, 0, 373), (78, 0, 663), (94, 2, 791), (98, 2, 4496), (103, 2, 4480), (109, 0, 647), (113, 0, 389), (117, 0, 679), (123, 0, 1015), (134, 0, 871), (137, 0, 967), (140, 0, 1047), (144, 0, 695), (148, 0, 64), (154, 0, 999), (165, 2, 4464), (176, 0, 550), (182, 0, 983), (186, 0, 1031), (189, 0, 243), (193, 0, 1079), (196, 0, 1095), (200, 0, 227), (203, 0, 1063)], [(9, 0), (17, 3), (23, 5)], [(9, 0), (17, 3), (23, 5)], [], [])
set_option maxRecDepth 100000 in
theorem k1X7 : ∀ q ∈ KX7.2.1, x_Fok KX7.1 q.1 q.2 := List.forall_mem_cons.mpr ⟨kfX7_11, List.forall_mem_cons.mpr ⟨kfX7_19, List.forall_mem_cons.mpr ⟨kfX7_25, List.forall_mem_cons.mpr ⟨kfX7_29, List.forall_mem_cons.mpr ⟨kfX7_33, List.forall_mem_cons.mpr ⟨kfX7_37, List.forall_mem_cons.mpr ⟨kfX7_44, List.forall_mem_cons.mpr ⟨kfX7_47, List.forall_mem_cons.mpr ⟨kfX7_50, List.forall_mem_cons.mpr ⟨kfX7_53, List.forall_mem_cons.mpr ⟨kfX7_66, List.forall_mem_cons.mpr ⟨kfX7_69, List.forall_mem_cons.mpr ⟨kfX7_72, List.forall_mem_cons.mpr ⟨kfX7_75, List.forall_mem_cons.mpr ⟨kfX7_82, List.forall_mem_cons.mpr ⟨kfX7_85, List.forall_mem_cons.mpr ⟨kfX7_88, List.forall_mem_cons.mpr ⟨kfX7_91, List.forall_mem_cons.mpr ⟨kfX7_106, List.forall_mem_cons.mpr ⟨kfX7_112, List.forall_mem_cons.mpr ⟨kfX7_120, List.forall_mem_cons.mpr ⟨kfX7_127, List.forall_mem_cons.mpr ⟨kfX7_130, List.forall_mem_cons.mpr ⟨kfX7_131, List.forall_mem_cons.mpr ⟨kfX7_151, List.forall_mem_cons.mpr ⟨kfX7_158, List.forall_mem_cons.mpr ⟨kfX7_161, List.forall_mem_cons.mpr ⟨kfX7_164, List.forall_mem_cons.mpr ⟨kfX7_169, List.forall_mem_cons.mpr ⟨kfX7_170, List.forall_mem_cons.mpr ⟨kfX7_173, fun _ h => absurd h List.not_mem_nil⟩⟩⟩⟩⟩⟩⟩⟩⟩⟩⟩⟩⟩⟩⟩⟩⟩⟩⟩⟩⟩⟩⟩⟩⟩⟩⟩⟩⟩⟩⟩
set_option maxRecDepth 100000 in
theorem k2X7 : ∀ q ∈ KX7.2.2.1, if q.2.1 = 6 then x_Ook KX7.1 q.1 else x_Lok xM xN KX7.1 q.1 q.2.1 q.2.2 := List.forall_mem_cons.mpr ⟨kmX7_3, List.forall_mem_cons.mpr ⟨kmX7_41, List.forall_mem_cons.mpr ⟨kmX7_42, List.forall_mem_cons.mpr ⟨kmX7_43, List.forall_mem_cons.mpr ⟨kmX7_56, List.forall_mem_cons.mpr ⟨kmX7_60, List.forall_mem_cons.mpr ⟨kmX7_63, List.forall_mem_cons.mpr ⟨kmX7_78, List.forall_mem_cons.mpr ⟨kmX7_94, List.forall_mem_cons.mpr ⟨kmX7_98, List.forall_mem_cons.mpr ⟨kmX7_103, List.forall_mem_cons.mpr ⟨kmX7_109, List.forall_mem_cons.mpr ⟨kmX7_113, List.forall_mem_cons.mpr ⟨kmX7_117, List.forall_mem_cons.mpr ⟨kmX7_123, List.forall_mem_cons.mpr ⟨kmX7_134, List.forall_mem_cons.mpr ⟨kmX7_137, List.forall_mem_cons.mpr ⟨kmX7_140, List.forall_mem_cons.mpr ⟨kmX7_144, List.forall_mem_cons.mpr ⟨kmX7_148, List.forall_mem_cons.mpr ⟨kmX7_154, List.forall_mem_cons.mpr ⟨kmX7_165, List.forall_mem_cons.mpr ⟨kmX7_176, List.forall_mem_cons.mpr ⟨kmX7_182, List.forall_mem_cons.mpr ⟨kmX7_186, List.forall_mem_cons.mpr ⟨kmX7_189, List.forall_mem_cons.mpr ⟨kmX7_193, List.forall_mem_cons.mpr ⟨kmX7_196, List.forall_mem_cons.mpr ⟨kmX7_200, List.forall_mem_cons.mpr ⟨kmX7_203, fun _ h => absurd h List.not_mem_nil⟩⟩⟩⟩⟩⟩⟩⟩⟩⟩⟩⟩⟩⟩⟩⟩⟩⟩⟩⟩⟩⟩⟩⟩⟩⟩⟩⟩⟩⟩
set_option maxRecDepth 100000 in
theorem k3X7 : ∀ q ∈ KX7.2.2.2.1, x_Nok KX7.1 q.1 q.2 := List.forall_mem_cons.mpr ⟨knX7_9, List.forall_mem_cons.mpr ⟨knX7_17, List.forall_mem_cons.mpr ⟨knX7_23, fun _ h => absurd h List.not_mem_nil⟩⟩⟩
set_option maxRecDepth 100000 in
theorem k4X7 : ∀ q ∈ KX7.2.2.2.2.1, x_Aok KX7.1 q.1 q.2 := List.forall_mem_cons.mpr ⟨kaX7_9, List.forall_mem_cons.mpr ⟨kaX7_17, List.forall_mem_cons.mpr ⟨kaX7_23, fun _ h => absurd h List.not_mem_nil⟩⟩⟩
set_option maxRecDepth 100000 in
theorem k5X7 : ∀ q ∈ KX7.2.2.2.2.2.1, Cond.constant KX7.1 q.1 (Int32.ofInt q.2) ∈ xT ∧ xin q.2 := fun _ h => absurd h List.not_mem_nil
set_option maxRecDepth 100000 in
theorem k6X7 : ∀ q ∈ KX7.2.2.2.2.2.2, Cond.constantLong KX7.1 q.1 (Int64.ofInt q.2) ∈ xT ∧ xlin q.2 := fun _ h => absurd h List.not_mem_nil
set_option maxRecDepth 100000 in
theorem kkX7 : x_Kok xM xN KX7 := ⟨k1X7, k2X7, k3X7, k4X7, k5X7, k6X7⟩
set_option maxRecDepth 100000 in
theorem kfX8_9 : x_Fok RX8 9 25088 := ⟨(RX8, TX8, 4), tyX8 0, rfl, ckX8, by decide, x_in 398 rfl rfl, tyX8_ok 0 (by decide), Or.inr ⟨_, rfl⟩, fun _ => ⟨rfl, rfl⟩⟩
set_option maxRecDepth 100000 in
theorem kfX8_15 : x_Fok RX8 15 25089 := ⟨(RX8, TX8, 4), tyX8 1, rfl, ckX8, by decide, x_in 400 rfl rfl, tyX8_ok 1 (by decide), Or.inr ⟨_, rfl⟩, fun _ => ⟨rfl, rfl⟩⟩
set_option maxRecDepth 100000 in
theorem kfX8_18 : x_Fok RX8 18 25090 := ⟨(RX8, TX8, 4), tyX8 2, rfl, ckX8, by decide, x_in 401 rfl rfl, tyX8_ok 2 (by decide), Or.inr ⟨_, rfl⟩, fun _ => ⟨rfl, rfl⟩⟩
set_option maxRecDepth 100000 in
theorem kfX8_21 : x_Fok RX8 21 451 := ⟨(RX7, TX7, 16), tyX7 3, rfl, ckX7, by decide, x_in 292 rfl rfl, tyX7_ok 3 (by decide), rfl, rfl⟩
set_option maxRecDepth 100000 in
theorem kfX8_27 : x_Fok RX8 27 515 := ⟨(RX8, TX8, 4), tyX8 3, rfl, ckX8, by decide, x_in 402 rfl rfl, tyX8_ok 3 (by decide), rfl, rfl⟩
set_option maxRecDepth 100000 in
theorem kfX8_35 : x_Fok RX8 35 41408 := ⟨(RX7, TX7, 16), tyX7 0, rfl, ckX7, by decide, x_in 285 rfl rfl, tyX7_ok 0 (by decide), Or.inr ⟨_, rfl⟩, fun h => absurd h (by decide)⟩
set_option maxRecDepth 100000 in
theorem kfX8_39 : x_Fok RX8 39 0 := ⟨(RX0, TX0, 6), tyX0 0, rfl, ckX0, by decide, x_in 187 rfl rfl, tyX0_ok 0 (by decide), rfl, rfl⟩
set_option maxRecDepth 100000 in
theorem kfX8_44 : x_Fok RX8 44 1 := ⟨(RX0, TX0, 6), tyX0 1, rfl, ckX0, by decide, x_in 191 rfl rfl, tyX0_ok 1 (by decide), rfl, rfl⟩
set_option maxRecDepth 100000 in
theorem kmX8_3 : x_Ook RX8 3 := ⟨x_in 397 rfl rfl, x_in 121 rfl rfl, x_in 122 rfl rfl⟩
set_option maxRecDepth 100000 in
theorem kmX8_28 : x_Lok xM xN RX8 28 2 1144 := ⟨_, rfl, mkX8_heardBy, x_in 1092 rfl rfl, x_in 1093 rfl rfl, mpX8_heardBy⟩
set_option maxRecDepth 100000 in
theorem kmX8_32 : x_Lok xM xN RX8 32 0 967 := ⟨_, rfl, mkX7_sailAll, x_in 1096 rfl rfl, x_in 885 rfl rfl, x_in 886 rfl rfl, ⟨(RX7, TX7, 16), rfl, rfl⟩, 0, rfl, mpX7_sailAll⟩
set_option maxRecDepth 100000 in
theorem kmX8_47 : x_Lok xM xN RX8 47 3 2667 := ⟨_, rfl, mkX11_apart, List.mem_of_getElem? (i := 11) rfl, x_in 1069 rfl rfl, mpX11_apart⟩
set_option maxRecDepth 100000 in
theorem kmX8_51 : x_Lok xM xN RX8 51 2 4480 := ⟨_, rfl, mkJ9_max_7cf53, x_in 1101 rfl rfl, x_in 694 rfl rfl, mpJ9_max_7cf53⟩
set_option maxRecDepth 100000 in
theorem kmX8_57 : x_Lok xM xN RX8 57 0 1176 := ⟨_, rfl, mkX8_afterShouts, x_in 1102 rfl rfl, x_in 1104 rfl rfl, x_in 29 rfl rfl, ⟨(RX8, TX8, 4), rfl, rfl⟩, 2, rfl, mpX8_afterShouts⟩
set_option maxRecDepth 100000 in
def KX8 : xK := (RX8, [(9, 25088), (15, 25089), (18, 25090), (21, 451), (27, 515), (35, 41408), (39, 0), (44, 1)], [(3, 6, 0), (28, 2, 1144), (32, 0, 967), (47, 3, 2667), (51, 2, 4480), (57, 0, 1176)], [], [], [], [])
set_option maxRecDepth 100000 in
theorem k1X8 : ∀ q ∈ KX8.2.1, x_Fok KX8.1 q.1 q.2 := List.forall_mem_cons.mpr ⟨kfX8_9, List.forall_mem_cons.mpr ⟨kfX8_15, List.forall_mem_cons.mpr ⟨kfX8_18, List.forall_mem_cons.mpr ⟨kfX8_21, List.forall_mem_cons.mpr ⟨kfX8_27, List.forall_mem_cons.mpr ⟨kfX8_35, List.forall_mem_cons.mpr ⟨kfX8_39, List.forall_mem_cons.mpr ⟨kfX8_44, fun _ h => absurd h List.not_mem_nil⟩⟩⟩⟩⟩⟩⟩⟩
set_option maxRecDepth 100000 in
theorem k2X8 : ∀ q ∈ KX8.2.2.1, if q.2.1 = 6 then x_Ook KX8.1 q.1 else x_Lok xM xN KX8.1 q.1 q.2.1 q.2.2 := List.forall_mem_cons.mpr ⟨kmX8_3, List.forall_mem_cons.mpr ⟨kmX8_28, List.forall_mem_cons.mpr ⟨kmX8_32, List.forall_mem_cons.mpr ⟨kmX8_47, List.forall_mem_cons.mpr ⟨kmX8_51, List.forall_mem_cons.mpr ⟨kmX8_57, fun _ h => absurd h List.not_mem_nil⟩⟩⟩⟩⟩⟩
set_option maxRecDepth 100000 in
theorem k3X8 : ∀ q ∈ KX8.2.2.2.1, x_Nok KX8.1 q.1 q.2 := fun _ h => absurd h List.not_mem_nil
set_option maxRecDepth 100000 in
theorem k4X8 : ∀ q ∈ KX8.2.2.2.2.1, x_Aok KX8.1 q.1 q.2 := fun _ h => absurd h List.not_mem_nil
set_option maxRecDepth 100000 in
theorem k5X8 : ∀ q ∈ KX8.2.2.2.2.2.1, Cond.constant KX8.1 q.1 (Int32.ofInt q.2) ∈ xT ∧ xin q.2 := fun _ h => absurd h List.not_mem_nil
set_option maxRecDepth 100000 in
theorem k6X8 : ∀ q ∈ KX8.2.2.2.2.2.2, Cond.constantLong KX8.1 q.1 (Int64.ofInt q.2) ∈ xT ∧ xlin q.2 := fun _ h => absurd h List.not_mem_nil
set_option maxRecDepth 100000 in
theorem kkX8 : x_Kok xM xN KX8 := ⟨k1X8, k2X8, k3X8, k4X8, k5X8, k6X8⟩
set_option maxRecDepth 100000 in
theorem kfX9_9 : x_Fok RX9 9 25152 := ⟨(RX9, TX9, 5), tyX9 0, rfl, ckX9, by decide, x_in 129 rfl rfl, tyX9_ok 0 (by decide), Or.inr ⟨_, rfl⟩, fun _ => ⟨rfl, rfl⟩⟩
set_option maxRecDepth 100000 in
theorem kfX9_15 : x_Fok RX9 15 580 := ⟨(RX9, TX9, 5), tyX9 4, rfl, ckX9, by decide, x_in 133 rfl rfl, tyX9_ok 4 (by decide), rfl, rfl⟩
set_option maxRecDepth 100000 in
theorem kfX9_19 : x_Fok RX9 19 577 := ⟨(RX9, TX9, 5), tyX9 1, rfl, ckX9, by decide, x_in 130 rfl rfl, tyX9_ok 1 (by decide), rfl, rfl⟩
set_option maxRecDepth 100000 in
theorem kfX9_28 : x_Fok RX9 28 578 := ⟨(RX9, TX9, 5), tyX9 2, rfl, ckX9, by decide, x_in 131 rfl rfl, tyX9_ok 2 (by decide), rfl, rfl⟩
set_option maxRecDepth 100000 in
theorem kfX9_31 : x_Fok RX9 31 579 := ⟨(RX9, TX9, 5), tyX9 3, rfl, ckX9, by decide, x_in 132 rfl rfl, tyX9_ok 3 (by decide), rfl, rfl⟩
set_option maxRecDepth 100000 in
theorem kmX9_3 : x_Ook RX9 3 := ⟨x_in 128 rfl rfl, x_in 121 rfl rfl, x_in 122 rfl rfl⟩
set_option maxRecDepth 100000 in
theorem kmX9_22 : x_Lok xM xN RX9 22 2 4496 := ⟨_, rfl, mkJ9_min_7cf53, x_in 528 rfl rfl, x_in 529 rfl rfl, mpJ9_min_7cf53⟩
set_option maxRecDepth 100000 in
theorem kmX9_34 : x_Lok xM xN RX9 34 0 1337 := ⟨_, rfl, mkX9_peek, x_in 555 rfl rfl, x_in 556 rfl rfl, x_in 557 rfl rfl, ⟨(RX9, TX9, 5), rfl, rfl⟩, 0, rfl, mpX9_peek⟩
set_option maxRecDepth 100000 in
theorem kmX9_38 : x_Lok xM xN RX9 38 0 1401 := ⟨_, rfl, mkX9_take, x_in 567 rfl rfl, x_in 568 rfl rfl, x_in 569 rfl rfl, ⟨(RX9, TX9, 5), rfl, rfl⟩, 1, rfl, mpX9_take⟩
set_option maxRecDepth 100000 in
theorem kmX9_42 : x_Lok xM xN RX9 42 0 1433 := ⟨_, rfl, mkX9_refuse, x_in 559 rfl rfl, x_in 560 rfl rfl, x_in 561 rfl rfl, ⟨(RX9, TX9, 5), rfl, rfl⟩, 0, rfl, mpX9_refuse⟩
set_option maxRecDepth 100000 in
theorem kmX9_45 : x_Lok xM xN RX9 45 0 1449 := ⟨_, rfl, mkX9_isDigit, x_in 551 rfl rfl, x_in 552 rfl rfl, x_in 553 rfl rfl, ⟨(RX9, TX9, 5), rfl, rfl⟩, 2, rfl, mpX9_isDigit⟩
set_option maxRecDepth 100000 in
theorem kmX9_49 : x_Lok xM xN RX9 49 0 1465 := ⟨_, rfl, mkX9_digit, x_in 547 rfl rfl, x_in 548 rfl rfl, x_in 549 rfl rfl, ⟨(RX9, TX9, 5), rfl, rfl⟩, 2, rfl, mpX9_digit⟩
set_option maxRecDepth 100000 in
theorem kmX9_52 : x_Lok xM xN RX9 52 0 1513 := ⟨_, rfl, mkX9_faultSoFar, x_in 584 rfl rfl, x_in 585 rfl rfl, x_in 586 rfl rfl, ⟨(RX9, TX9, 5), rfl, rfl⟩, 0, rfl, mpX9_faultSoFar⟩
set_option maxRecDepth 100000 in
def KX9 : xK := (RX9, [(9, 25152), (15, 580), (19, 577), (28, 578), (31, 579)], [(3, 6, 0), (22, 2, 4496), (34, 0, 1337), (38, 0, 1401), (42, 0, 1433), (45, 0, 1449), (49, 0, 1465), (52, 0, 1513)], [], [], [], [])
set_option maxRecDepth 100000 in
theorem k1X9 : ∀ q ∈ KX9.2.1, x_Fok KX9.1 q.1 q.2 := List.forall_mem_cons.mpr ⟨kfX9_9, List.forall_mem_cons.mpr ⟨kfX9_15, List.forall_mem_cons.mpr ⟨kfX9_19, List.forall_mem_cons.mpr ⟨kfX9_28, List.forall_mem_cons.mpr ⟨kfX9_31, fun _ h => absurd h List.not_mem_nil⟩⟩⟩⟩⟩
set_option maxRecDepth 100000 in
theorem k2X9 : ∀ q ∈ KX9.2.2.1, if q.2.1 = 6 then x_Ook KX9.1 q.1 else x_Lok xM xN KX9.1 q.1 q.2.1 q.2.2 := List.forall_mem_cons.mpr ⟨kmX9_3, List.forall_mem_cons.mpr ⟨kmX9_22, List.forall_mem_cons.mpr ⟨kmX9_34, List.forall_mem_cons.mpr ⟨kmX9_38, List.forall_mem_cons.mpr ⟨kmX9_42, List.forall_mem_cons.mpr ⟨kmX9_45, List.forall_mem_cons.mpr ⟨kmX9_49, List.forall_mem_cons.mpr ⟨kmX9_52, fun _ h => absurd h List.not_mem_nil⟩⟩⟩⟩⟩⟩⟩⟩
set_option maxRecDepth 100000 in
theorem k3X9 : ∀ q ∈ KX9.2.2.2.1, x_Nok KX9.1 q.1 q.2 := fun _ h => absurd h List.not_mem_nil
set_option maxRecDepth 100000 in
theorem k4X9 : ∀ q ∈ KX9.2.2.2.2.1, x_Aok KX9.1 q.1 q.2 := fun _ h => absurd h List.not_mem_nil
set_option maxRecDepth 100000 in
theorem k5X9 : ∀ q ∈ KX9.2.2.2.2.2.1, Cond.constant KX9.1 q.1 (Int32.ofInt q.2) ∈ xT ∧ xin q.2 := fun _ h => absurd h List.not_mem_nil
set_option maxRecDepth 100000 in
theorem k6X9 : ∀ q ∈ KX9.2.2.2.2.2.2, Cond.constantLong KX9.1 q.1 (Int64.ofInt q.2) ∈ xT ∧ xlin q.2 := fun _ h => absurd h List.not_mem_nil
set_option maxRecDepth 100000 in
theorem kkX9 : x_Kok xM xN KX9 := ⟨k1X9, k2X9, k3X9, k4X9, k5X9, k6X9⟩
set_option maxRecDepth 100000 in
theorem kfX10_9 : x_Fok RX10 9 25216 := ⟨(RX10, TX10, 6), tyX10 0, rfl, ckX10, by decide, x_in 418 rfl rfl, tyX10_ok 0 (by decide), Or.inr ⟨_, rfl⟩, fun _ => ⟨rfl, rfl⟩⟩
set_option maxRecDepth 100000 in
theorem kfX10_15 : x_Fok RX10 15 25218 := ⟨(RX10, TX10, 6), tyX10 2, rfl, ckX10, by decide, x_in 422 rfl rfl, tyX10_ok 2 (by decide), Or.inr ⟨_, rfl⟩, fun _ => ⟨rfl, rfl⟩⟩
set_option maxRecDepth 100000 in
theorem kfX10_18 : x_Fok RX10 18 25219 := ⟨(RX10, TX10, 6), tyX10 3, rfl, ckX10, by decide, x_in 423 rfl rfl, tyX10_ok 3 (by decide), Or.inr ⟨_, rfl⟩, fun _ => ⟨rfl, rfl⟩⟩
set_option maxRecDepth 100000 in
theorem kfX10_22 : x_Fok RX10 22 25220 := ⟨(RX10, TX10, 6), tyX10 4, rfl, ckX10, by decide, x_in 424 rfl rfl, tyX10_ok 4 (by decide), Or.inr ⟨_, rfl⟩, fun _ => ⟨rfl, rfl⟩⟩
set_option maxRecDepth 100000 in
theorem kfX10_31 : x_Fok RX10 31 645 := ⟨(RX10, TX10, 6), tyX10 5, rfl, ckX10, by decide, x_in 425 rfl rfl, tyX10_ok 5 (by decide), rfl, rfl⟩
set_option maxRecDepth 100000 in
theorem kfX10_39 : x_Fok RX10 39 641 := ⟨(RX10, TX10, 6), tyX10 1, rfl, ckX10, by decide, x_in 420 rfl rfl, tyX10_ok 1 (by decide), rfl, rfl⟩
set_option maxRecDepth 100000 in
theorem kmX10_3 : x_Ook RX10 3 := ⟨x_in 417 rfl rfl, x_in 121 rfl rfl, x_in 122 rfl rfl⟩
set_option maxRecDepth 100000 in
theorem kmX10_25 : x_Lok xM xN RX10 25 2 4496 := ⟨_, rfl, mkJ9_min_7cf53, x_in 1188 rfl rfl, x_in 529 rfl rfl, mpJ9_min_7cf53⟩
set_option maxRecDepth 100000 in
theorem kmX10_35 : x_Lok xM xN RX10 35 0 1578 := ⟨_, rfl, mkX10_reckonPowers, x_in 1189 rfl rfl, x_in 1191 rfl rfl, x_in 33 rfl rfl, ⟨(RX10, TX10, 6), rfl, rfl⟩, 1, rfl, mpX10_reckonPowers⟩
set_option maxRecDepth 100000 in
theorem kmX10_42 : x_Lok xM xN RX10 42 2 4528 := ⟨_, rfl, mkJ7_fill_53178, x_in 1194 rfl rfl, x_in 1195 rfl rfl, mpJ7_fill_53178⟩
set_option maxRecDepth 100000 in
theorem kmX10_48 : x_Lok xM xN RX10 48 0 1594 := ⟨_, rfl, mkX10_chanceOfTried, x_in 1197 rfl rfl, x_in 1199 rfl rfl, x_in 34 rfl rfl, ⟨(RX10, TX10, 6), rfl, rfl⟩, 0, rfl, mpX10_chanceOfTried⟩
set_option maxRecDepth 100000 in
theorem kmX10_58 : x_Lok xM xN RX10 58 0 1610 := ⟨_, rfl, mkX10_goToNextRow, x_in 1203 rfl rfl, x_in 1205 rfl rfl, x_in 35 rfl rfl, ⟨(RX10, TX10, 6), rfl, rfl⟩, 0, rfl, mpX10_goToNextRow⟩
set_option maxRecDepth 100000 in
def KX10 : xK := (RX10, [(9, 25216), (15, 25218), (18, 25219), (22, 25220), (31, 645), (39, 641)], [(3, 6, 0), (25, 2, 4496), (35, 0, 1578), (42, 2, 4528), (48, 0, 1594), (58, 0, 1610)], [], [], [], [(62, 10), (64, 10000)])
set_option maxRecDepth 100000 in
theorem k1X10 : ∀ q ∈ KX10.2.1, x_Fok KX10.1 q.1 q.2 := List.forall_mem_cons.mpr ⟨kfX10_9, List.forall_mem_cons.mpr ⟨kfX10_15, List.forall_mem_cons.mpr ⟨kfX10_18, List.forall_mem_cons.mpr ⟨kfX10_22, List.forall_mem_cons.mpr ⟨kfX10_31, List.forall_mem_cons.mpr ⟨kfX10_39, fun _ h => absurd h List.not_mem_nil⟩⟩⟩⟩⟩⟩
set_option maxRecDepth 100000 in
theorem k2X10 : ∀ q ∈ KX10.2.2.1, if q.2.1 = 6 then x_Ook KX10.1 q.1 else x_Lok xM xN KX10.1 q.1 q.2.1 q.2.2 := List.forall_mem_cons.mpr ⟨kmX10_3, List.forall_mem_cons.mpr ⟨kmX10_25, List.forall_mem_cons.mpr ⟨kmX10_35, List.forall_mem_cons.mpr ⟨kmX10_42, List.forall_mem_cons.mpr ⟨kmX10_48, List.forall_mem_cons.mpr ⟨kmX10_58, fun _ h => absurd h List.not_mem_nil⟩⟩⟩⟩⟩⟩
set_option maxRecDepth 100000 in
theorem k3X10 : ∀ q ∈ KX10.2.2.2.1, x_Nok KX10.1 q.1 q.2 := fun _ h => absurd h List.not_mem_nil
set_option maxRecDepth 100000 in
theorem k4X10 : ∀ q ∈ KX10.2.2.2.2.1, x_Aok KX10.1 q.1 q.2 := fun _ h => absurd h List.not_mem_nil
set_option maxRecDepth 100000 in
theorem k5X10 : ∀ q ∈ KX10.2.2.2.2.2.1, Cond.constant KX10.1 q.1 (Int32.ofInt q.2) ∈ xT ∧ xin q.2 := fun _ h => absurd h List.not_mem_nil
set_option maxRecDepth 100000 in
theorem k6X10 : ∀ q ∈ KX10.2.2.2.2.2.2, Cond.constantLong KX10.1 q.1 (Int64.ofInt q.2) ∈ xT ∧ xlin q.2 := List.forall_mem_cons.mpr ⟨⟨x_in 1193 rfl rfl, by unfold xlin; decide⟩, List.forall_mem_cons.mpr ⟨⟨x_in 1201 rfl rfl, by unfold xlin; decide⟩, fun _ h => absurd h List.not_mem_nil⟩⟩
set_option maxRecDepth 100000 in
theorem kkX10 : x_Kok xM xN KX10 := ⟨k1X10, k2X10, k3X10, k4X10, k5X10, k6X10⟩
set_option maxRecDepth 100000 in
theorem kfX11_10 : x_Fok RX11 10 25280 := ⟨(RX11, TX11, 17), tyX11 0, rfl, ckX11, by decide, x_in 452 rfl rfl, tyX11_ok 0 (by decide), Or.inl ⟨_, rfl⟩, fun _ => ⟨rfl, rfl⟩⟩
set_option maxRecDepth 100000 in
theorem kfX11_19 : x_Fok RX11 19 25281 := ⟨(RX11, TX11, 17), tyX11 1, rfl, ckX11, by decide, x_in 453 rfl rfl, tyX11_ok 1 (by decide), Or.inl ⟨_, rfl⟩, fun _ => ⟨rfl, rfl⟩⟩
set_option maxRecDepth 100000 in
theorem kfX11_28 : x_Fok RX11 28 25282 := ⟨(RX11, TX11, 17), tyX11 2, rfl, ckX11, by decide, x_in 454 rfl rfl, tyX11_ok 2 (by decide), Or.inl ⟨_, rfl⟩, fun _ => ⟨rfl, rfl⟩⟩
set_option maxRecDepth 100000 in
theorem kfX11_32 : x_Fok RX11 32 25283 := ⟨(RX11, TX11, 17), tyX11 3, rfl, ckX11, by decide, x_in 455 rfl rfl, tyX11_ok 3 (by decide), Or.inl ⟨_, rfl⟩, fun _ => ⟨rfl, rfl⟩⟩
set_option maxRecDepth 100000 in
theorem kfX11_38 : x_Fok RX11 38 25284 := ⟨(RX11, TX11, 17), tyX11 4, rfl, ckX11, by decide, x_in 456 rfl rfl, tyX11_ok 4 (by decide), Or.inl ⟨_, rfl⟩, fun _ => ⟨rfl, rfl⟩⟩
set_option maxRecDepth 100000 in
theorem kfX11_42 : x_Fok RX11 42 25285 := ⟨(RX11, TX11, 17), tyX11 5, rfl, ckX11, by decide, x_in 457 rfl rfl, tyX11_ok 5 (by decide), Or.inr ⟨_, rfl⟩, fun _ => ⟨rfl, rfl⟩⟩
set_option maxRecDepth 100000 in
theorem kfX11_46 : x_Fok RX11 46 25286 := ⟨(RX11, TX11, 17), tyX11 6, rfl, ckX11, by decide, x_in 458 rfl rfl, tyX11_ok 6 (by decide), Or.inr ⟨_, rfl⟩, fun _ => ⟨rfl, rfl⟩⟩
set_option maxRecDepth 100000 in
theorem kfX11_53 : x_Fok RX11 53 25287 := ⟨(RX11, TX11, 17), tyX11 7, rfl, ckX11, by decide, x_in 459 rfl rfl, tyX11_ok 7 (by decide), Or.inl ⟨_, rfl⟩, fun _ => ⟨rfl, rfl⟩⟩
set_option maxRecDepth 100000 in
theorem kfX11_60 : x_Fok RX11 60 25288 := ⟨(RX11, TX11, 17), tyX11 8, rfl, ckX11, by decide, x_in 460 rfl rfl, tyX11_ok 8 (by decide), Or.inl ⟨_, rfl⟩, fun _ => ⟨rfl, rfl⟩⟩
set_option maxRecDepth 100000 in
theorem kfX11_67 : x_Fok RX11 67 25289 := ⟨(RX11, TX11, 17), tyX11 9, rfl, ckX11, by decide, x_in 461 rfl rfl, tyX11_ok 9 (by decide), Or.inl ⟨_, rfl⟩, fun _ => ⟨rfl, rfl⟩⟩
set_option maxRecDepth 100000 in
theorem kfX11_74 : x_Fok RX11 74 25290 := ⟨(RX11, TX11, 17), tyX11 10, rfl, ckX11, by decide, x_in 462 rfl rfl, tyX11_ok 10 (by decide), Or.inl ⟨_, rfl⟩, fun _ => ⟨rfl, rfl⟩⟩
set_option maxRecDepth 100000 in
theorem kfX11_81 : x_Fok RX11 81 25291 := ⟨(RX11, TX11, 17), tyX11 11, rfl, ckX11, by decide, x_in 463 rfl rfl, tyX11_ok 11 (by decide), Or.inl ⟨_, rfl⟩, fun _ => ⟨rfl, rfl⟩⟩
set_option maxRecDepth 100000 in
theorem kfX11_85 : x_Fok RX11 85 25292 := ⟨(RX11, TX11, 17), tyX11 12, rfl, ckX11, by decide, x_in 464 rfl rfl, tyX11_ok 12 (by decide), Or.inr ⟨_, rfl⟩, fun _ => ⟨rfl, rfl⟩⟩
set_option maxRecDepth 100000 in
theorem kfX11_89 : x_Fok RX11 89 25293 := ⟨(RX11, TX11, 17), tyX11 13, rfl, ckX11, by decide, x_in 465 rfl rfl, tyX11_ok 13 (by decide), Or.inr ⟨_, rfl⟩, fun _ => ⟨rfl, rfl⟩⟩
set_option maxRecDepth 100000 in
theorem kfX11_92 : x_Fok RX11 92 25295 := ⟨(RX11, TX11, 17), tyX11 15, rfl, ckX11, by decide, x_in 467 rfl rfl, tyX11_ok 15 (by decide), Or.inr ⟨_, rfl⟩, fun _ => ⟨rfl, rfl⟩⟩
set_option maxRecDepth 100000 in
theorem kfX11_118 : x_Fok RX11 118 451 := ⟨(RX7, TX7, 16), tyX7 3, rfl, ckX7, by decide, x_in 293 rfl rfl, tyX7_ok 3 (by decide), rfl, rfl⟩
set_option maxRecDepth 100000 in
theorem kfX11_128 : x_Fok RX11 128 452 := ⟨(RX7, TX7, 16), tyX7 4, rfl, ckX7, by decide, x_in 295 rfl rfl, tyX7_ok 4 (by decide), rfl, rfl⟩
set_option maxRecDepth 100000 in
theorem kfX11_141 : x_Fok RX11 141 41408 := ⟨(RX7, TX7, 16), tyX7 0, rfl, ckX7, by decide, x_in 286 rfl rfl, tyX7_ok 0 (by decide), Or.inr ⟨_, rfl⟩, fun h => absurd h (by decide)⟩
set_option maxRecDepth 100000 in
theorem kfX11_145 : x_Fok RX11 145 0 := ⟨(RX0, TX0, 6), tyX0 0, rfl, ckX0, by decide, x_in 188 rfl rfl, tyX0_ok 0 (by decide), rfl, rfl⟩
set_option maxRecDepth 100000 in
theorem kfX11_150 : x_Fok RX11 150 1 := ⟨(RX0, TX0, 6), tyX0 1, rfl, ckX0, by decide, x_in 192 rfl rfl, tyX0_ok 1 (by decide), rfl, rfl⟩
set_option maxRecDepth 100000 in
theorem kfX11_153 : x_Fok RX11 153 2 := ⟨(RX0, TX0, 6), tyX0 2, rfl, ckX0, by decide, x_in 195 rfl rfl, tyX0_ok 2 (by decide), rfl, rfl⟩
set_option maxRecDepth 100000 in
theorem kfX11_156 : x_Fok RX11 156 3 := ⟨(RX0, TX0, 6), tyX0 3, rfl, ckX0, by decide, x_in 197 rfl rfl, tyX0_ok 3 (by decide), rfl, rfl⟩
set_option maxRecDepth 100000 in
theorem kfX11_159 : x_Fok RX11 159 4 := ⟨(RX0, TX0, 6), tyX0 4, rfl, ckX0, by decide, x_in 199 rfl rfl, tyX0_ok 4 (by decide), rfl, rfl⟩
set_option maxRecDepth 100000 in
theorem kfX11_162 : x_Fok RX11 162 5 := ⟨(RX0, TX0, 6), tyX0 5, rfl, ckX0, by decide, x_in 202 rfl rfl, tyX0_ok 5 (by decide), rfl, rfl⟩
set_option maxRecDepth 100000 in
theorem kfX11_171 : x_Fok RX11 171 41409 := ⟨(RX7, TX7, 16), tyX7 1, rfl, ckX7, by decide, x_in 288 rfl rfl, tyX7_ok 1 (by decide), Or.inr ⟨_, rfl⟩, fun h => absurd h (by decide)⟩
set_option maxRecDepth 100000 in
theorem kfX11_175 : x_Fok RX11 175 192 := ⟨(RX3, TX3, 8), tyX3 0, rfl, ckX3, by decide, x_in 223 rfl rfl, tyX3_ok 0 (by decide), rfl, rfl⟩
set_option maxRecDepth 100000 in
theorem kfX11_178 : x_Fok RX11 178 193 := ⟨(RX3, TX3, 8), tyX3 1, rfl, ckX3, by decide, x_in 226 rfl rfl, tyX3_ok 1 (by decide), rfl, rfl⟩
set_option maxRecDepth 100000 in
theorem kfX11_179 : x_Fok RX11 179 194 := ⟨(RX3, TX3, 8), tyX3 2, rfl, ckX3, by decide, x_in 229 rfl rfl, tyX3_ok 2 (by decide), rfl, rfl⟩
set_option maxRecDepth 100000 in
theorem kfX11_182 : x_Fok RX11 182 195 := ⟨(RX3, TX3, 8), tyX3 3, rfl, ckX3, by decide, x_in 232 rfl rfl, tyX3_ok 3 (by decide), rfl, rfl⟩
set_option maxRecDepth 100000 in
theorem kfX11_185 : x_Fok RX11 185 196 := ⟨(RX3, TX3, 8), tyX3 4, rfl, ckX3, by decide, x_in 235 rfl rfl, tyX3_ok 4 (by decide), rfl, rfl⟩
set_option maxRecDepth 100000 in
theorem kfX11_186 : x_Fok RX11 186 197 := ⟨(RX3, TX3, 8), tyX3 5, rfl, ckX3, by decide, x_in 238 rfl rfl, tyX3_ok 5 (by decide), rfl, rfl⟩
set_option maxRecDepth 100000 in
theorem kfX11_187 : x_Fok RX11 187 198 := ⟨(RX3, TX3, 8), tyX3 6, rfl, ckX3, by decide, x_in 242 rfl rfl, tyX3_ok 6 (by decide), rfl, rfl⟩
set_option maxRecDepth 100000 in
theorem kfX11_190 : x_Fok RX11 190 199 := ⟨(RX3, TX3, 8), tyX3 7, rfl, ckX3, by decide, x_in 244 rfl rfl, tyX3_ok 7 (by decide), rfl, rfl⟩
set_option maxRecDepth 100000 in
theorem kfX11_196 : x_Fok RX11 196 41410 := ⟨(RX7, TX7, 16), tyX7 2, rfl, ckX7, by decide, x_in 290 rfl rfl, tyX7_ok 2 (by decide), Or.inr ⟨_, rfl⟩, fun h => absurd h (by decide)⟩
set_option maxRecDepth 100000 in
theorem kfX11_200 : x_Fok RX11 200 320 := ⟨(RX5, TX5, 3), tyX5 0, rfl, ckX5, by decide, x_in 269 rfl rfl, tyX5_ok 0 (by decide), rfl, rfl⟩
set_option maxRecDepth 100000 in
theorem kfX11_203 : x_Fok RX11 203 321 := ⟨(RX5, TX5, 3), tyX5 1, rfl, ckX5, by decide, x_in 272 rfl rfl, tyX5_ok 1 (by decide), rfl, rfl⟩
set_option maxRecDepth 100000 in
theorem kfX11_206 : x_Fok RX11 206 322 := ⟨(RX5, TX5, 3), tyX5 2, rfl, ckX5, by decide, x_in 275 rfl rfl, tyX5_ok 2 (by decide), rfl, rfl⟩
set_option maxRecDepth 100000 in
theorem kfX11_209 : x_Fok RX11 209 455 := ⟨(RX7, TX7, 16), tyX7 7, rfl, ckX7, by decide, x_in 300 rfl rfl, tyX7_ok 7 (by decide), rfl, rfl⟩
set_option maxRecDepth 100000 in
theorem kfX11_212 : x_Fok RX11 212 456 := ⟨(RX7, TX7, 16), tyX7 8, rfl, ckX7, by decide, x_in 302 rfl rfl, tyX7_ok 8 (by decide), rfl, rfl⟩
set_option maxRecDepth 100000 in
theorem kfX11_277 : x_Fok RX11 277 67 := ⟨(RX1, TX1, 4), tyX1 3, rfl, ckX1, by decide, x_in 381 rfl rfl, tyX1_ok 3 (by decide), rfl, rfl⟩
set_option maxRecDepth 100000 in
theorem kfX11_280 : x_Fok RX11 280 41024 := ⟨(RX1, TX1, 4), tyX1 0, rfl, ckX1, by decide, x_in 375 rfl rfl, tyX1_ok 0 (by decide), Or.inr ⟨_, rfl⟩, fun h => absurd h (by decide)⟩
set_option maxRecDepth 100000 in
theorem kfX11_283 : x_Fok RX11 283 41025 := ⟨(RX1, TX1, 4), tyX1 1, rfl, ckX1, by decide, x_in 377 rfl rfl, tyX1_ok 1 (by decide), Or.inr ⟨_, rfl⟩, fun h => absurd h (by decide)⟩
set_option maxRecDepth 100000 in
theorem kfX11_286 : x_Fok RX11 286 41026 := ⟨(RX1, TX1, 4), tyX1 2, rfl, ckX1, by decide, x_in 379 rfl rfl, tyX1_ok 2 (by decide), Or.inr ⟨_, rfl⟩, fun h => absurd h (by decide)⟩
set_option maxRecDepth 100000 in
theorem kfX11_296 : x_Fok RX11 296 457 := ⟨(RX7, TX7, 16), tyX7 9, rfl, ckX7, by decide, x_in 305 rfl rfl, tyX7_ok 9 (by decide), rfl, rfl⟩
set_option maxRecDepth 100000 in
theorem kfX11_311 : x_Fok RX11 311 458 := ⟨(RX7, TX7, 16), tyX7 10, rfl, ckX7, by decide, x_in 307 rfl rfl, tyX7_ok 10 (by decide), rfl, rfl⟩
set_option maxRecDepth 100000 in
theorem kfX11_314 : x_Fok RX11 314 459 := ⟨(RX7, TX7, 16), tyX7 11, rfl, ckX7, by decide, x_in 309 rfl rfl, tyX7_ok 11 (by decide), rfl, rfl⟩
set_option maxRecDepth 100000 in
theorem kfX11_317 : x_Fok RX11 317 460 := ⟨(RX7, TX7, 16), tyX7 12, rfl, ckX7, by decide, x_in 311 rfl rfl, tyX7_ok 12 (by decide), rfl, rfl⟩
set_option maxRecDepth 100000 in
theorem kfX11_342 : x_Fok RX11 342 453 := ⟨(RX7, TX7, 16), tyX7 5, rfl, ckX7, by decide, x_in 297 rfl rfl, tyX7_ok 5 (by decide), rfl, rfl⟩
set_option maxRecDepth 100000 in
theorem kfX11_351 : x_Fok RX11 351 720 := ⟨(RX11, TX11, 17), tyX11 16, rfl, ckX11, by decide, x_in 468 rfl rfl, tyX11_ok 16 (by decide), rfl, rfl⟩
set_option maxRecDepth 100000 in
theorem kfX11_385 : x_Fok RX11 385 461 := ⟨(RX7, TX7, 16), tyX7 13, rfl, ckX7, by decide, x_in 313 rfl rfl, tyX7_ok 13 (by decide), rfl, rfl⟩
set_option maxRecDepth 100000 in
theorem kfX11_400 : x_Fok RX11 400 41472 := ⟨(RX8, TX8, 4), tyX8 0, rfl, ckX8, by decide, x_in 399 rfl rfl, tyX8_ok 0 (by decide), Or.inr ⟨_, rfl⟩, fun h => absurd h (by decide)⟩
set_option maxRecDepth 100000 in
theorem kfX11_446 : x_Fok RX11 446 41600 := ⟨(RX10, TX10, 6), tyX10 0, rfl, ckX10, by decide, x_in 419 rfl rfl, tyX10_ok 0 (by decide), Or.inr ⟨_, rfl⟩, fun h => absurd h (by decide)⟩
set_option maxRecDepth 100000 in
theorem kfX11_449 : x_Fok RX11 449 641 := ⟨(RX10, TX10, 6), tyX10 1, rfl, ckX10, by decide, x_in 421 rfl rfl, tyX10_ok 1 (by decide), rfl, rfl⟩
set_option maxRecDepth 100000 in
theorem kfX11_458 : x_Fok RX11 458 718 := ⟨(RX11, TX11, 17), tyX11 14, rfl, ckX11, by decide, x_in 466 rfl rfl, tyX11_ok 14 (by decide), rfl, rfl⟩
set_option maxRecDepth 100000 in
theorem kfX11_476 : x_Fok RX11 476 454 := ⟨(RX7, TX7, 16), tyX7 6, rfl, ckX7, by decide, x_in 299 rfl rfl, tyX7_ok 6 (by decide), rfl, rfl⟩
set_option maxRecDepth 100000 in
theorem kmX11_1 : x_Ook RX11 1 := ⟨x_in 120 rfl rfl, x_in 121 rfl rfl, x_in 122 rfl rfl⟩
set_option maxRecDepth 100000 in
theorem kmX11_9 : x_Lok xM xN RX11 9 5 1241 := ⟨_, rfl, mkX9_init, List.mem_of_getElem? (i := 0) rfl, x_in 126 rfl rfl, rfl, rfl, 0, rfl, mpX9_init⟩
set_option maxRecDepth 100000 in
theorem kmX11_18 : x_Lok xM xN RX11 18 5 422 := ⟨_, rfl, mkX6_init, List.mem_of_getElem? (i := 1) rfl, x_in 149 rfl rfl, rfl, rfl, 0, rfl, mpX6_init⟩
set_option maxRecDepth 100000 in
theorem kmX11_25 : x_Lok xM xN RX11 25 4 599 := ⟨_, rfl, mkX7_init, x_in 171 rfl rfl, x_in 172 rfl rfl, rfl, rfl, 1, rfl, mpX7_init⟩
set_option maxRecDepth 100000 in
theorem kmX11_37 : x_Lok xM xN RX11 37 4 260 := ⟨_, rfl, mkX4_init, x_in 351 rfl rfl, x_in 352 rfl rfl, rfl, rfl, 1, rfl, mpX4_init⟩
set_option maxRecDepth 100000 in
theorem kmX11_52 : x_Lok xM xN RX11 52 5 81 := ⟨_, rfl, mkX1_init, List.mem_of_getElem? (i := 5) rfl, x_in 371 rfl rfl, rfl, rfl, 0, rfl, mpX1_init⟩
set_option maxRecDepth 100000 in
theorem kmX11_59 : x_Lok xM xN RX11 59 5 1112 := ⟨_, rfl, mkX8_init, List.mem_of_getElem? (i := 6) rfl, x_in 395 rfl rfl, rfl, rfl, 0, rfl, mpX8_init⟩
set_option maxRecDepth 100000 in
theorem kmX11_66 : x_Lok xM xN RX11 66 5 1546 := ⟨_, rfl, mkX10_init, List.mem_of_getElem? (i := 7) rfl, x_in 415 rfl rfl, rfl, rfl, 0, rfl, mpX10_init⟩
set_option maxRecDepth 100000 in
theorem kmX11_73 : x_Lok xM xN RX11 73 5 130 := ⟨_, rfl, mkX2_init, List.mem_of_getElem? (i := 8) rfl, x_in 443 rfl rfl, rfl, rfl, 0, rfl, mpX2_init⟩
set_option maxRecDepth 100000 in
theorem kmX11_80 : x_Lok xM xN RX11 80 5 179 := ⟨_, rfl, mkX3_init, List.mem_of_getElem? (i := 9) rfl, x_in 219 rfl rfl, rfl, rfl, 0, rfl, mpX3_init⟩
set_option maxRecDepth 100000 in
theorem kmX11_95 : x_Lok xM xN RX11 95 0 1289 := ⟨_, rfl, mkX9_add, x_in 508 rfl rfl, x_in 509 rfl rfl, x_in 510 rfl rfl, ⟨(RX9, TX9, 5), rfl, rfl⟩, 1, rfl, mpX9_add⟩
set_option maxRecDepth 100000 in
theorem kmX11_99 : x_Lok xM xN RX11 99 0 1305 := ⟨_, rfl, mkX9_cut, x_in 516 rfl rfl, x_in 517 rfl rfl, x_in 518 rfl rfl, ⟨(RX9, TX9, 5), rfl, rfl⟩, 1, rfl, mpX9_cut⟩
set_option maxRecDepth 100000 in
theorem kmX11_103 : x_Lok xM xN RX11 103 0 1321 := ⟨_, rfl, mkX9_open, x_in 524 rfl rfl, x_in 525 rfl rfl, x_in 526 rfl rfl, ⟨(RX9, TX9, 5), rfl, rfl⟩, 1, rfl, mpX9_open⟩
set_option maxRecDepth 100000 in
theorem kmX11_107 : x_Lok xM xN RX11 107 0 1273 := ⟨_, rfl, mkX9_isEmpty, x_in 531 rfl rfl, x_in 532 rfl rfl, x_in 533 rfl rfl, ⟨(RX9, TX9, 5), rfl, rfl⟩, 0, rfl, mpX9_isEmpty⟩
set_option maxRecDepth 100000 in
theorem kmX11_111 : x_Lok xM xN RX11 111 0 1803 := ⟨_, rfl, mkX11_readBoats, x_in 535 rfl rfl, x_in 537 rfl rfl, x_in 0 rfl rfl, ⟨(RX11, TX11, 17), rfl, rfl⟩, 0, rfl, mpX11_readBoats⟩
set_option maxRecDepth 100000 in
theorem kmX11_115 : x_Lok xM xN RX11 115 0 1529 := ⟨_, rfl, mkX9_close, x_in 580 rfl rfl, x_in 581 rfl rfl, x_in 582 rfl rfl, ⟨(RX9, TX9, 5), rfl, rfl⟩, 0, rfl, mpX9_close⟩
set_option maxRecDepth 100000 in
theorem kmX11_122 : x_Lok xM xN RX11 122 0 292 := ⟨_, rfl, mkX4_forget, x_in 588 rfl rfl, x_in 589 rfl rfl, x_in 590 rfl rfl, ⟨(RX4, TX4, 3), rfl, rfl⟩, 0, rfl, mpX4_forget⟩
set_option maxRecDepth 100000 in
theorem kmX11_125 : x_Lok xM xN RX11 125 0 1819 := ⟨_, rfl, mkX11_readGulls, x_in 596 rfl rfl, x_in 598 rfl rfl, x_in 2 rfl rfl, ⟨(RX11, TX11, 17), rfl, rfl⟩, 0, rfl, mpX11_readGulls⟩
set_option maxRecDepth 100000 in
theorem kmX11_131 : x_Lok xM xN RX11 131 0 438 := ⟨_, rfl, mkX6_read, x_in 625 rfl rfl, x_in 626 rfl rfl, x_in 627 rfl rfl, ⟨(RX6, TX6, 5), rfl, rfl⟩, 1, rfl, mpX6_read⟩
set_option maxRecDepth 100000 in
theorem kmX11_135 : x_Lok xM xN RX11 135 0 647 := ⟨_, rfl, mkX7_hasBoat, x_in 609 rfl rfl, x_in 610 rfl rfl, x_in 611 rfl rfl, ⟨(RX7, TX7, 16), rfl, rfl⟩, 1, rfl, mpX7_hasBoat⟩
set_option maxRecDepth 100000 in
theorem kmX11_165 : x_Lok xM xN RX11 165 0 759 := ⟨_, rfl, mkX7_lettersOnDeckOf, x_in 1337 rfl rfl, x_in 1338 rfl rfl, x_in 1339 rfl rfl, ⟨(RX7, TX7, 16), rfl, rfl⟩, 1, rfl, mpX7_lettersOnDeckOf⟩
set_option maxRecDepth 100000 in
theorem kmX11_168 : x_Lok xM xN RX11 168 0 663 := ⟨_, rfl, mkX7_hasGull, x_in 1161 rfl rfl, x_in 822 rfl rfl, x_in 823 rfl rfl, ⟨(RX7, TX7, 16), rfl, rfl⟩, 1, rfl, mpX7_hasGull⟩
set_option maxRecDepth 100000 in
theorem kmX11_193 : x_Lok xM xN RX11 193 0 679 := ⟨_, rfl, mkX7_hasLetter, x_in 1355 rfl rfl, x_in 826 rfl rfl, x_in 827 rfl rfl, ⟨(RX7, TX7, 16), rfl, rfl⟩, 1, rfl, mpX7_hasLetter⟩
set_option maxRecDepth 100000 in
theorem kmX11_215 : x_Lok xM xN RX11 215 0 775 := ⟨_, rfl, mkX7_hungerBySheet, x_in 763 rfl rfl, x_in 764 rfl rfl, x_in 765 rfl rfl, ⟨(RX7, TX7, 16), rfl, rfl⟩, 4, rfl, mpX7_hungerBySheet⟩
set_option maxRecDepth 100000 in
theorem kmX11_219 : x_Lok xM xN RX11 219 0 32 := ⟨_, rfl, mkX0_readLine, x_in 539 rfl rfl, x_in 540 rfl rfl, x_in 541 rfl rfl, ⟨(RX0, TX0, 6), rfl, rfl⟩, 1, rfl, mpX0_readLine⟩
set_option maxRecDepth 100000 in
theorem kmX11_223 : x_Lok xM xN RX11 223 0 1433 := ⟨_, rfl, mkX9_refuse, x_in 578 rfl rfl, x_in 560 rfl rfl, x_in 561 rfl rfl, ⟨(RX9, TX9, 5), rfl, rfl⟩, 0, rfl, mpX9_refuse⟩
set_option maxRecDepth 100000 in
theorem kmX11_226 : x_Lok xM xN RX11 226 0 1401 := ⟨_, rfl, mkX9_take, x_in 579 rfl rfl, x_in 568 rfl rfl, x_in 569 rfl rfl, ⟨(RX9, TX9, 5), rfl, rfl⟩, 1, rfl, mpX9_take⟩
set_option maxRecDepth 100000 in
theorem kmX11_230 : x_Lok xM xN RX11 230 0 1835 := ⟨_, rfl, mkX11_readGull, x_in 600 rfl rfl, x_in 602 rfl rfl, x_in 3 rfl rfl, ⟨(RX11, TX11, 17), rfl, rfl⟩, 1, rfl, mpX11_readGull⟩
set_option maxRecDepth 100000 in
theorem kmX11_234 : x_Lok xM xN RX11 234 0 1497 := ⟨_, rfl, mkX9_boatLetter, x_in 604 rfl rfl, x_in 605 rfl rfl, x_in 606 rfl rfl, ⟨(RX9, TX9, 5), rfl, rfl⟩, 1, rfl, mpX9_boatLetter⟩
set_option maxRecDepth 100000 in
theorem kmX11_237 : x_Lok xM xN RX11 237 0 1465 := ⟨_, rfl, mkX9_digit, x_in 608 rfl rfl, x_in 548 rfl rfl, x_in 549 rfl rfl, ⟨(RX9, TX9, 5), rfl, rfl⟩, 2, rfl, mpX9_digit⟩
set_option maxRecDepth 100000 in
theorem kmX11_241 : x_Lok xM xN RX11 241 0 211 := ⟨_, rfl, mkX3_hatch, x_in 613 rfl rfl, x_in 614 rfl rfl, x_in 615 rfl rfl, ⟨(RX3, TX3, 8), rfl, rfl⟩, 3, rfl, mpX3_hatch⟩
set_option maxRecDepth 100000 in
theorem kmX11_245 : x_Lok xM xN RX11 245 0 308 := ⟨_, rfl, mkX4_mark, x_in 776 rfl rfl, x_in 777 rfl rfl, x_in 778 rfl rfl, ⟨(RX4, TX4, 3), rfl, rfl⟩, 1, rfl, mpX4_mark⟩
set_option maxRecDepth 100000 in
theorem kmX11_249 : x_Lok xM xN RX11 249 0 807 := ⟨_, rfl, mkX7_addLetter, x_in 796 rfl rfl, x_in 797 rfl rfl, x_in 798 rfl rfl, ⟨(RX7, TX7, 16), rfl, rfl⟩, 1, rfl, mpX7_addLetter⟩
set_option maxRecDepth 100000 in
theorem kmX11_252 : x_Lok xM xN RX11 252 0 2011 := ⟨_, rfl, mkX11_held, x_in 805 rfl rfl, x_in 807 rfl rfl, x_in 10 rfl rfl, ⟨(RX11, TX11, 17), rfl, rfl⟩, 1, rfl, mpX11_held⟩
set_option maxRecDepth 100000 in
theorem kmX11_255 : x_Lok xM xN RX11 255 0 823 := ⟨_, rfl, mkX7_sendOut, x_in 817 rfl rfl, x_in 818 rfl rfl, x_in 819 rfl rfl, ⟨(RX7, TX7, 16), rfl, rfl⟩, 2, rfl, mpX7_sendOut⟩
set_option maxRecDepth 100000 in
theorem kmX11_258 : x_Lok xM xN RX11 258 0 839 := ⟨_, rfl, mkX7_repaint, x_in 840 rfl rfl, x_in 841 rfl rfl, x_in 842 rfl rfl, ⟨(RX7, TX7, 16), rfl, rfl⟩, 2, rfl, mpX7_repaint⟩
set_option maxRecDepth 100000 in
theorem kmX11_261 : x_Lok xM xN RX11 261 0 855 := ⟨_, rfl, mkX7_learn, x_in 848 rfl rfl, x_in 849 rfl rfl, x_in 850 rfl rfl, ⟨(RX7, TX7, 16), rfl, rfl⟩, 1, rfl, mpX7_learn⟩
set_option maxRecDepth 100000 in
theorem kmX11_264 : x_Lok xM xN RX11 264 0 871 := ⟨_, rfl, mkX7_putChum, x_in 856 rfl rfl, x_in 857 rfl rfl, x_in 858 rfl rfl, ⟨(RX7, TX7, 16), rfl, rfl⟩, 2, rfl, mpX7_putChum⟩
set_option maxRecDepth 100000 in
theorem kmX11_267 : x_Lok xM xN RX11 267 0 919 := ⟨_, rfl, mkX7_fill, x_in 864 rfl rfl, x_in 865 rfl rfl, x_in 866 rfl rfl, ⟨(RX7, TX7, 16), rfl, rfl⟩, 1, rfl, mpX7_fill⟩
set_option maxRecDepth 100000 in
theorem kmX11_270 : x_Lok xM xN RX11 270 0 2027 := ⟨_, rfl, mkX11_passAndTell, x_in 872 rfl rfl, x_in 874 rfl rfl, x_in 11 rfl rfl, ⟨(RX11, TX11, 17), rfl, rfl⟩, 1, rfl, mpX11_passAndTell⟩
set_option maxRecDepth 100000 in
theorem kmX11_273 : x_Lok xM xN RX11 273 0 97 := ⟨_, rfl, mkX1_read, x_in 967 rfl rfl, x_in 968 rfl rfl, x_in 969 rfl rfl, ⟨(RX1, TX1, 4), rfl, rfl⟩, 1, rfl, mpX1_read⟩
set_option maxRecDepth 100000 in
theorem kmX11_274 : x_Lok xM xN RX11 274 0 631 := ⟨_, rfl, mkX7_clearTally, x_in 876 rfl rfl, x_in 877 rfl rfl, x_in 878 rfl rfl, ⟨(RX7, TX7, 16), rfl, rfl⟩, 0, rfl, mpX7_clearTally⟩
set_option maxRecDepth 100000 in
theorem kmX11_289 : x_Lok xM xN RX11 289 0 2043 := ⟨_, rfl, mkX11_perform, x_in 985 rfl rfl, x_in 987 rfl rfl, x_in 23 rfl rfl, ⟨(RX11, TX11, 17), rfl, rfl⟩, 3, rfl, mpX11_perform⟩
set_option maxRecDepth 100000 in
theorem kmX11_293 : x_Lok xM xN RX11 293 0 324 := ⟨_, rfl, mkX4_hold, x_in 809 rfl rfl, x_in 810 rfl rfl, x_in 811 rfl rfl, ⟨(RX4, TX4, 3), rfl, rfl⟩, 0, rfl, mpX4_hold⟩
set_option maxRecDepth 100000 in
theorem kmX11_299 : x_Lok xM xN RX11 299 0 2635 := ⟨_, rfl, mkX11_tellTwo, x_in 947 rfl rfl, x_in 949 rfl rfl, x_in 19 rfl rfl, ⟨(RX11, TX11, 17), rfl, rfl⟩, 2, rfl, mpX11_tellTwo⟩
set_option maxRecDepth 100000 in
theorem kmX11_303 : x_Lok xM xN RX11 303 0 276 := ⟨_, rfl, mkX4_size, x_in 998 rfl rfl, x_in 999 rfl rfl, x_in 1000 rfl rfl, ⟨(RX4, TX4, 3), rfl, rfl⟩, 0, rfl, mpX4_size⟩
set_option maxRecDepth 100000 in
theorem kmX11_305 : x_Lok xM xN RX11 305 0 340 := ⟨_, rfl, mkX4_back, x_in 1002 rfl rfl, x_in 1003 rfl rfl, x_in 1004 rfl rfl, ⟨(RX4, TX4, 3), rfl, rfl⟩, 1, rfl, mpX4_back⟩
set_option maxRecDepth 100000 in
theorem kmX11_308 : x_Lok xM xN RX11 308 0 935 := ⟨_, rfl, mkX7_pass, x_in 880 rfl rfl, x_in 881 rfl rfl, x_in 882 rfl rfl, ⟨(RX7, TX7, 16), rfl, rfl⟩, 1, rfl, mpX7_pass⟩
set_option maxRecDepth 100000 in
theorem kmX11_320 : x_Lok xM xN RX11 320 0 2651 := ⟨_, rfl, mkX11_tellThree, x_in 943 rfl rfl, x_in 945 rfl rfl, x_in 18 rfl rfl, ⟨(RX11, TX11, 17), rfl, rfl⟩, 3, rfl, mpX11_tellThree⟩
set_option maxRecDepth 100000 in
theorem kmX11_323 : x_Lok xM xN RX11 323 0 887 := ⟨_, rfl, mkX7_turnChum, x_in 989 rfl rfl, x_in 990 rfl rfl, x_in 991 rfl rfl, ⟨(RX7, TX7, 16), rfl, rfl⟩, 1, rfl, mpX7_turnChum⟩
set_option maxRecDepth 100000 in
theorem kmX11_326 : x_Lok xM xN RX11 326 0 2171 := ⟨_, rfl, mkX11_lookAhead, x_in 1010 rfl rfl, x_in 1012 rfl rfl, x_in 24 rfl rfl, ⟨(RX11, TX11, 17), rfl, rfl⟩, 0, rfl, mpX11_lookAhead⟩
set_option maxRecDepth 100000 in
theorem kmX11_329 : x_Lok xM xN RX11 329 0 64 := ⟨_, rfl, mkX0_sail, x_in 1015 rfl rfl, x_in 889 rfl rfl, x_in 890 rfl rfl, ⟨(RX0, TX0, 6), rfl, rfl⟩, 0, rfl, mpX0_sail⟩
set_option maxRecDepth 100000 in
theorem kmX11_332 : x_Lok xM xN RX11 332 2 2699 := ⟨_, rfl, mkX11_cellNumber, x_in 1016 rfl rfl, x_in 1017 rfl rfl, mpX11_cellNumber⟩
set_option maxRecDepth 100000 in
theorem kmX11_335 : x_Lok xM xN RX11 335 0 695 := ⟨_, rfl, mkX7_isGull, x_in 1023 rfl rfl, x_in 1024 rfl rfl, x_in 1025 rfl rfl, ⟨(RX7, TX7, 16), rfl, rfl⟩, 2, rfl, mpX7_isGull⟩
set_option maxRecDepth 100000 in
theorem kmX11_339 : x_Lok xM xN RX11 339 0 2187 := ⟨_, rfl, mkX11_arrivalTold, x_in 1027 rfl rfl, x_in 1029 rfl rfl, x_in 25 rfl rfl, ⟨(RX11, TX11, 17), rfl, rfl⟩, 1, rfl, mpX11_arrivalTold⟩
set_option maxRecDepth 100000 in
theorem kmX11_345 : x_Lok xM xN RX11 345 0 405 := ⟨_, rfl, mkX5_isHome, x_in 1044 rfl rfl, x_in 1045 rfl rfl, x_in 1046 rfl rfl, ⟨(RX5, TX5, 3), rfl, rfl⟩, 0, rfl, mpX5_isHome⟩
set_option maxRecDepth 100000 in
theorem kmX11_348 : x_Lok xM xN RX11 348 0 743 := ⟨_, rfl, mkX7_lettersAt, x_in 1048 rfl rfl, x_in 1049 rfl rfl, x_in 1050 rfl rfl, ⟨(RX7, TX7, 16), rfl, rfl⟩, 1, rfl, mpX7_lettersAt⟩
set_option maxRecDepth 100000 in
theorem kmX11_354 : x_Lok xM xN RX11 354 0 2603 := ⟨_, rfl, mkX11_tellMore, x_in 955 rfl rfl, x_in 957 rfl rfl, x_in 21 rfl rfl, ⟨(RX11, TX11, 17), rfl, rfl⟩, 1, rfl, mpX11_tellMore⟩
set_option maxRecDepth 100000 in
theorem kmX11_357 : x_Lok xM xN RX11 357 0 983 := ⟨_, rfl, mkX7_goalOf, x_in 1060 rfl rfl, x_in 900 rfl rfl, x_in 901 rfl rfl, ⟨(RX7, TX7, 16), rfl, rfl⟩, 1, rfl, mpX7_goalOf⟩
set_option maxRecDepth 100000 in
theorem kmX11_361 : x_Lok xM xN RX11 361 0 1015 := ⟨_, rfl, mkX7_farFrom, x_in 1061 rfl rfl, x_in 830 rfl rfl, x_in 831 rfl rfl, ⟨(RX7, TX7, 16), rfl, rfl⟩, 2, rfl, mpX7_farFrom⟩
set_option maxRecDepth 100000 in
theorem kmX11_365 : x_Lok xM xN RX11 365 0 1031 := ⟨_, rfl, mkX7_reach, x_in 1062 rfl rfl, x_in 908 rfl rfl, x_in 909 rfl rfl, ⟨(RX7, TX7, 16), rfl, rfl⟩, 2, rfl, mpX7_reach⟩
set_option maxRecDepth 100000 in
theorem kmX11_368 : x_Lok xM xN RX11 368 2 4496 := ⟨_, rfl, mkJ9_min_7cf53, x_in 1063 rfl rfl, x_in 529 rfl rfl, mpJ9_min_7cf53⟩
set_option maxRecDepth 100000 in
theorem kmX11_373 : x_Lok xM xN RX11 373 2 2667 := ⟨_, rfl, mkX11_apart, x_in 1068 rfl rfl, x_in 1069 rfl rfl, mpX11_apart⟩
set_option maxRecDepth 100000 in
theorem kmX11_376 : x_Lok xM xN RX11 376 0 2619 := ⟨_, rfl, mkX11_tellOne, x_in 951 rfl rfl, x_in 953 rfl rfl, x_in 20 rfl rfl, ⟨(RX11, TX11, 17), rfl, rfl⟩, 1, rfl, mpX11_tellOne⟩
set_option maxRecDepth 100000 in
theorem kmX11_379 : x_Lok xM xN RX11 379 0 615 := ⟨_, rfl, mkX7_copyFrom, x_in 1014 rfl rfl, x_in 781 rfl rfl, x_in 782 rfl rfl, ⟨(RX7, TX7, 16), rfl, rfl⟩, 1, rfl, mpX7_copyFrom⟩
set_option maxRecDepth 100000 in
theorem kmX11_382 : x_Lok xM xN RX11 382 0 951 := ⟨_, rfl, mkX7_flyToDeck, x_in 1031 rfl rfl, x_in 1032 rfl rfl, x_in 1033 rfl rfl, ⟨(RX7, TX7, 16), rfl, rfl⟩, 1, rfl, mpX7_flyToDeck⟩
set_option maxRecDepth 100000 in
theorem kmX11_388 : x_Lok xM xN RX11 388 0 2283 := ⟨_, rfl, mkX11_areBoats, x_in 1076 rfl rfl, x_in 1078 rfl rfl, x_in 26 rfl rfl, ⟨(RX11, TX11, 17), rfl, rfl⟩, 1, rfl, mpX11_areBoats⟩
set_option maxRecDepth 100000 in
theorem kmX11_391 : x_Lok xM xN RX11 391 0 2267 := ⟨_, rfl, mkX11_isShout, x_in 1080 rfl rfl, x_in 1082 rfl rfl, x_in 27 rfl rfl, ⟨(RX11, TX11, 17), rfl, rfl⟩, 1, rfl, mpX11_isShout⟩
set_option maxRecDepth 100000 in
theorem kmX11_394 : x_Lok xM xN RX11 394 0 2299 := ⟨_, rfl, mkX11_watchFleet, x_in 1084 rfl rfl, x_in 1086 rfl rfl, x_in 28 rfl rfl, ⟨(RX11, TX11, 17), rfl, rfl⟩, 1, rfl, mpX11_watchFleet⟩
set_option maxRecDepth 100000 in
theorem kmX11_397 : x_Lok xM xN RX11 397 0 1160 := ⟨_, rfl, mkX8_spread, x_in 1097 rfl rfl, x_in 1098 rfl rfl, x_in 1099 rfl rfl, ⟨(RX8, TX8, 4), rfl, rfl⟩, 2, rfl, mpX8_spread⟩
set_option maxRecDepth 100000 in
theorem kmX11_403 : x_Lok xM xN RX11 403 0 1192 := ⟨_, rfl, mkX8_allKnow, x_in 1110 rfl rfl, x_in 1111 rfl rfl, x_in 1112 rfl rfl, ⟨(RX8, TX8, 4), rfl, rfl⟩, 0, rfl, mpX8_allKnow⟩
set_option maxRecDepth 100000 in
theorem kmX11_406 : x_Lok xM xN RX11 406 0 2315 := ⟨_, rfl, mkX11_tellByGulls, x_in 1122 rfl rfl, x_in 1124 rfl rfl, x_in 30 rfl rfl, ⟨(RX11, TX11, 17), rfl, rfl⟩, 1, rfl, mpX11_tellByGulls⟩
set_option maxRecDepth 100000 in
theorem kmX11_409 : x_Lok xM xN RX11 409 2 4512 := ⟨_, rfl, mkJ6_bitCount_0f7a4, x_in 1131 rfl rfl, x_in 1132 rfl rfl, mpJ6_bitCount_0f7a4⟩
set_option maxRecDepth 100000 in
theorem kmX11_414 : x_Lok xM xN RX11 414 0 1224 := ⟨_, rfl, mkX8_allKnowBy, x_in 1137 rfl rfl, x_in 1138 rfl rfl, x_in 1139 rfl rfl, ⟨(RX8, TX8, 4), rfl, rfl⟩, 1, rfl, mpX8_allKnowBy⟩
set_option maxRecDepth 100000 in
theorem kmX11_417 : x_Lok xM xN RX11 417 0 1128 := ⟨_, rfl, mkX8_watch, x_in 1088 rfl rfl, x_in 1089 rfl rfl, x_in 1090 rfl rfl, ⟨(RX8, TX8, 4), rfl, rfl⟩, 2, rfl, mpX8_watch⟩
set_option maxRecDepth 100000 in
theorem kmX11_421 : x_Lok xM xN RX11 421 0 1208 := ⟨_, rfl, mkX8_keepFor, x_in 1126 rfl rfl, x_in 1127 rfl rfl, x_in 1128 rfl rfl, ⟨(RX8, TX8, 4), rfl, rfl⟩, 1, rfl, mpX8_keepFor⟩
set_option maxRecDepth 100000 in
theorem kmX11_424 : x_Lok xM xN RX11 424 0 903 := ⟨_, rfl, mkX7_chumAloneBy, x_in 1145 rfl rfl, x_in 1146 rfl rfl, x_in 1147 rfl rfl, ⟨(RX7, TX7, 16), rfl, rfl⟩, 1, rfl, mpX7_chumAloneBy⟩
set_option maxRecDepth 100000 in
theorem kmX11_427 : x_Lok xM xN RX11 427 0 2363 := ⟨_, rfl, mkX11_newOnWrongDecks, x_in 1149 rfl rfl, x_in 1151 rfl rfl, x_in 31 rfl rfl, ⟨(RX11, TX11, 17), rfl, rfl⟩, 1, rfl, mpX11_newOnWrongDecks⟩
set_option maxRecDepth 100000 in
theorem kmX11_430 : x_Lok xM xN RX11 430 0 2411 := ⟨_, rfl, mkX11_metJustNow, x_in 1162 rfl rfl, x_in 1164 rfl rfl, x_in 32 rfl rfl, ⟨(RX11, TX11, 17), rfl, rfl⟩, 3, rfl, mpX11_metJustNow⟩
set_option maxRecDepth 100000 in
theorem kmX11_434 : x_Lok xM xN RX11 434 2 2683 := ⟨_, rfl, mkX11_isAtSea, x_in 1166 rfl rfl, x_in 893 rfl rfl, mpX11_isAtSea⟩
set_option maxRecDepth 100000 in
theorem kmX11_437 : x_Lok xM xN RX11 437 0 243 := ⟨_, rfl, mkX3_flyTowards, x_in 1167 rfl rfl, x_in 925 rfl rfl, x_in 926 rfl rfl, ⟨(RX3, TX3, 8), rfl, rfl⟩, 3, rfl, mpX3_flyTowards⟩
set_option maxRecDepth 100000 in
theorem kmX11_440 : x_Lok xM xN RX11 440 0 727 := ⟨_, rfl, mkX7_livingGullsOf, x_in 1176 rfl rfl, x_in 1177 rfl rfl, x_in 1178 rfl rfl, ⟨(RX7, TX7, 16), rfl, rfl⟩, 1, rfl, mpX7_livingGullsOf⟩
set_option maxRecDepth 100000 in
theorem kmX11_443 : x_Lok xM xN RX11 443 0 1562 := ⟨_, rfl, mkX10_find, x_in 1184 rfl rfl, x_in 1185 rfl rfl, x_in 1186 rfl rfl, ⟨(RX10, TX10, 6), rfl, rfl⟩, 3, rfl, mpX10_find⟩
set_option maxRecDepth 100000 in
theorem kmX11_452 : x_Lok xM xN RX11 452 0 1369 := ⟨_, rfl, mkX9_isAtEnd, x_in 1211 rfl rfl, x_in 1212 rfl rfl, x_in 1213 rfl rfl, ⟨(RX9, TX9, 5), rfl, rfl⟩, 0, rfl, mpX9_isAtEnd⟩
set_option maxRecDepth 100000 in
theorem kmX11_455 : x_Lok xM xN RX11 455 0 1513 := ⟨_, rfl, mkX9_faultSoFar, x_in 1215 rfl rfl, x_in 585 rfl rfl, x_in 586 rfl rfl, ⟨(RX9, TX9, 5), rfl, rfl⟩, 0, rfl, mpX9_faultSoFar⟩
set_option maxRecDepth 100000 in
theorem kmX11_461 : x_Lok xM xN RX11 461 0 146 := ⟨_, rfl, mkX2_start, x_in 1216 rfl rfl, x_in 1217 rfl rfl, x_in 1218 rfl rfl, ⟨(RX2, TX2, 1), rfl, rfl⟩, 1, rfl, mpX2_start⟩
set_option maxRecDepth 100000 in
theorem kmX11_464 : x_Lok xM xN RX11 464 0 1353 := ⟨_, rfl, mkX9_signAt, x_in 1220 rfl rfl, x_in 1221 rfl rfl, x_in 1222 rfl rfl, ⟨(RX9, TX9, 5), rfl, rfl⟩, 1, rfl, mpX9_signAt⟩
set_option maxRecDepth 100000 in
theorem kmX11_467 : x_Lok xM xN RX11 467 0 162 := ⟨_, rfl, mkX2_next, x_in 1224 rfl rfl, x_in 1225 rfl rfl, x_in 1226 rfl rfl, ⟨(RX2, TX2, 1), rfl, rfl⟩, 1, rfl, mpX2_next⟩
set_option maxRecDepth 100000 in
theorem kmX11_470 : x_Lok xM xN RX11 470 0 2507 := ⟨_, rfl, mkX11_isSlip, x_in 1237 rfl rfl, x_in 1239 rfl rfl, x_in 36 rfl rfl, ⟨(RX11, TX11, 17), rfl, rfl⟩, 2, rfl, mpX11_isSlip⟩
set_option maxRecDepth 100000 in
theorem kmX11_473 : x_Lok xM xN RX11 473 2 4448 := ⟨_, rfl, mkJ9_floorMod_7cf53, x_in 1241 rfl rfl, x_in 1242 rfl rfl, mpJ9_floorMod_7cf53⟩
set_option maxRecDepth 100000 in
theorem kmX11_479 : x_Lok xM xN RX11 479 0 711 := ⟨_, rfl, mkX7_gullsThat, x_in 1260 rfl rfl, x_in 1261 rfl rfl, x_in 1262 rfl rfl, ⟨(RX7, TX7, 16), rfl, rfl⟩, 1, rfl, mpX7_gullsThat⟩
set_option maxRecDepth 100000 in
theorem kmX11_482 : x_Lok xM xN RX11 482 0 1257 := ⟨_, rfl, mkX9_length, x_in 1264 rfl rfl, x_in 1265 rfl rfl, x_in 1266 rfl rfl, ⟨(RX9, TX9, 5), rfl, rfl⟩, 0, rfl, mpX9_length⟩
set_option maxRecDepth 100000 in
theorem kmX11_485 : x_Lok xM xN RX11 485 2 4464 := ⟨_, rfl, mkJ9_abs_0f7a4, x_in 1071 rfl rfl, x_in 834 rfl rfl, mpJ9_abs_0f7a4⟩
set_option maxRecDepth 100000 in
theorem knX11_7 : x_Nok RX11 7 9 := ⟨(RX9, TX9, 5), rfl, ckX9, x_in 123 rfl rfl, x_in 124 rfl rfl, x_in 90 rfl rfl⟩
set_option maxRecDepth 100000 in
theorem knX11_16 : x_Nok RX11 16 6 := ⟨(RX6, TX6, 5), rfl, ckX6, x_in 146 rfl rfl, x_in 147 rfl rfl, x_in 91 rfl rfl⟩
set_option maxRecDepth 100000 in
theorem knX11_23 : x_Nok RX11 23 7 := ⟨(RX7, TX7, 16), rfl, ckX7, x_in 169 rfl rfl, x_in 170 rfl rfl, x_in 92 rfl rfl⟩
set_option maxRecDepth 100000 in
theorem knX11_35 : x_Nok RX11 35 4 := ⟨(RX4, TX4, 3), rfl, ckX4, x_in 349 rfl rfl, x_in 350 rfl rfl, x_in 96 rfl rfl⟩
set_option maxRecDepth 100000 in
theorem knX11_50 : x_Nok RX11 50 1 := ⟨(RX1, TX1, 4), rfl, ckX1, x_in 368 rfl rfl, x_in 369 rfl rfl, x_in 97 rfl rfl⟩
set_option maxRecDepth 100000 in
theorem knX11_57 : x_Nok RX11 57 8 := ⟨(RX8, TX8, 4), rfl, ckX8, x_in 392 rfl rfl, x_in 393 rfl rfl, x_in 98 rfl rfl⟩
set_option maxRecDepth 100000 in
theorem knX11_64 : x_Nok RX11 64 10 := ⟨(RX10, TX10, 6), rfl, ckX10, x_in 412 rfl rfl, x_in 413 rfl rfl, x_in 99 rfl rfl⟩
set_option maxRecDepth 100000 in
theorem knX11_71 : x_Nok RX11 71 2 := ⟨(RX2, TX2, 1), rfl, ckX2, x_in 440 rfl rfl, x_in 441 rfl rfl, x_in 100 rfl rfl⟩
set_option maxRecDepth 100000 in
theorem knX11_78 : x_Nok RX11 78 3 := ⟨(RX3, TX3, 8), rfl, ckX3, x_in 450 rfl rfl, x_in 217 rfl rfl, x_in 94 rfl rfl⟩
set_option maxRecDepth 100000 in
theorem kaX11_23 : x_Aok RX11 23 7 := ⟨(RX7, TX7, 16), rfl, x_in 169 rfl rfl, List.mem_of_getElem? (i := 3) rfl⟩
set_option maxRecDepth 100000 in
def KX11 : xK := (RX11, [(10, 25280), (19, 25281), (28, 25282), (32, 25283), (38, 25284), (42, 25285), (46, 25286), (53, 25287), (60, 25288), (67, 25289), (74, 25290), (81, 25291), (85, 25292), (89, 25293), (92, 25295), (118, 451), (128, 452), (141, 41408), (145, 0), (150, 1), (153, 2), (156, 3), (159, 4), (162, 5), (171, 41409), (175, 192), (178, 193), (179, 194), (182, 195), (185, 196), (186, 197), (187, 198), (190, 199), (196, 41410), (200, 320), (203, 321), (206, 322), (209, 455), (212, 456), (277, 67), (280, 41024), (283, 41025), (286, 41026), (296, 457), (311, 458), (314, 459), (317, 460), (342, 453), (351, 720), (385, 461), (400, 41472), (446, 41600), (449, 641), (458, 718), (476, 454)], [(1, 6, 0), (9, 5, 1241), (18, 5, 422), (25, 4, 599), (37, 4, 260), (52, 5, 81), (59, 5, 1112), (66, 5, 1546), (73, 5, 130), (80, 5, 179), (95, 0, 1289), (99, 0, 1305), (103, 0, 1321), (107, 0, 1273), (111, 0, 1803), (115, 0, 1529), (122, 0, 292), (125, 0, 1819), (131, 0, 438), (135, 0, 647), (165, 0, 759), (168, 0, 663), (193, 0, 679), (215, 0, 775), (219, 0, 32), (223, 0, 1433), (226, 0, 1401), (230, 0, 1835), (234, 0, 1497), (237, 0, 1465), (241, 0, 211), (245, 0, 308), (249, 0, 807), (252, 0, 2011), (255, 0, 823), (258, 0, 839), (261, 0, 855), (264, 0, 871), (267, 0, 919), (270, 0, 2027), (273, 0, 97), (274, 0, 631), (289, 0, 2043), (293, 0, 324), (299, 0, 2635), (303, 0, 276), (305, 0, 340), (308, 0, 935), (320, 0, 2651), (323, 0, 887), (326, 0, 2171), (329, 0, 64), (332, 2, 2699), (335, 0, 695), (339, 0, 2187), (345, 0, 405), (348, 0, 743), (354, 0, 2603), (357, 0, 983), (361, 0, 1015), (365, 0, 1031), (368, 2, 4496), (373, 2, 2667), (376, 0, 2619), (379, 0, 615), (382, 0, 951), (388, 0, 2283), (391, 0, 2267), (394, 0, 2299), (397, 0, 1160), (403, 0, 1192), (406, 0, 2315), (409, 2, 4512), (414, 0, 1224), (417, 0, 1128), (421, 0, 1208), (424, 0, 903), (427, 0, 2363), (430, 0, 2411), (434, 2, 2683), (437, 0, 243), (440, 0, 727), (443, 0, 1562), (452, 0, 1369), (455, 0, 1513), (461, 0, 146), (464, 0, 1353), (467, 0, 162), (470, 0, 2507), (473, 2, 4448), (479, 0, 711), (482, 0, 1257), (485, 2, 4464)], [(7, 9), (16, 6), (23, 7), (35, 4), (50, 1), (57, 8), (64, 10), (71, 2), (78, 3)], [(23, 7)], [], [])
set_option maxRecDepth 100000 in
theorem k1X11 : ∀ q ∈ KX11.2.1, x_Fok KX11.1 q.1 q.2 := List.forall_mem_cons.mpr ⟨kfX11_10, List.forall_mem_cons.mpr ⟨kfX11_19, List.forall_mem_cons.mpr ⟨kfX11_28, List.forall_mem_cons.mpr ⟨kfX11_32, List.forall_mem_cons.mpr ⟨kfX11_38, List.forall_mem_cons.mpr ⟨kfX11_42, List.forall_mem_cons.mpr ⟨kfX11_46, List.forall_mem_cons.mpr ⟨kfX11_53, List.forall_mem_cons.mpr ⟨kfX11_60, List.forall_mem_cons.mpr ⟨kfX11_67, List.forall_mem_cons.mpr ⟨kfX11_74, List.forall_mem_cons.mpr ⟨kfX11_81, List.forall_mem_cons.mpr ⟨kfX11_85, List.forall_mem_cons.mpr ⟨kfX11_89, List.forall_mem_cons.mpr ⟨kfX11_92, List.forall_mem_cons.mpr ⟨kfX11_118, List.forall_mem_cons.mpr ⟨kfX11_128, List.forall_mem_cons.mpr ⟨kfX11_141, List.forall_mem_cons.mpr ⟨kfX11_145, List.forall_mem_cons.mpr ⟨kfX11_150, List.forall_mem_cons.mpr ⟨kfX11_153, List.forall_mem_cons.mpr ⟨kfX11_156, List.forall_mem_cons.mpr ⟨kfX11_159, List.forall_mem_cons.mpr ⟨kfX11_162, List.forall_mem_cons.mpr ⟨kfX11_171, List.forall_mem_cons.mpr ⟨kfX11_175, List.forall_mem_cons.mpr ⟨kfX11_178, List.forall_mem_cons.mpr ⟨kfX11_179, List.forall_mem_cons.mpr ⟨kfX11_182, List.forall_mem_cons.mpr ⟨kfX11_185, List.forall_mem_cons.mpr ⟨kfX11_186, List.forall_mem_cons.mpr ⟨kfX11_187, List.forall_mem_cons.mpr ⟨kfX11_190, List.forall_mem_cons.mpr ⟨kfX11_196, List.forall_mem_cons.mpr ⟨kfX11_200, List.forall_mem_cons.mpr ⟨kfX11_203, List.forall_mem_cons.mpr ⟨kfX11_206, List.forall_mem_cons.mpr ⟨kfX11_209, List.forall_mem_cons.mpr ⟨kfX11_212, List.forall_mem_cons.mpr ⟨kfX11_277, List.forall_mem_cons.mpr ⟨kfX11_280, List.forall_mem_cons.mpr ⟨kfX11_283, List.forall_mem_cons.mpr ⟨kfX11_286, List.forall_mem_cons.mpr ⟨kfX11_296, List.forall_mem_cons.mpr ⟨kfX11_311, List.forall_mem_cons.mpr ⟨kfX11_314, List.forall_mem_cons.mpr ⟨kfX11_317, List.forall_mem_cons.mpr ⟨kfX11_342, List.forall_mem_cons.mpr ⟨kfX11_351, List.forall_mem_cons.mpr ⟨kfX11_385, List.forall_mem_cons.mpr ⟨kfX11_400, List.forall_mem_cons.mpr ⟨kfX11_446, List.forall_mem_cons.mpr ⟨kfX11_449, List.forall_mem_cons.mpr ⟨kfX11_458, List.forall_mem_cons.mpr ⟨kfX11_476, fun _ h => absurd h List.not_mem_nil⟩⟩⟩⟩⟩⟩⟩⟩⟩⟩⟩⟩⟩⟩⟩⟩⟩⟩⟩⟩⟩⟩⟩⟩⟩⟩⟩⟩⟩⟩⟩⟩⟩⟩⟩⟩⟩⟩⟩⟩⟩⟩⟩⟩⟩⟩⟩⟩⟩⟩⟩⟩⟩⟩⟩
set_option maxRecDepth 100000 in
theorem k2X11 : ∀ q ∈ KX11.2.2.1, if q.2.1 = 6 then x_Ook KX11.1 q.1 else x_Lok xM xN KX11.1 q.1 q.2.1 q.2.2 := List.forall_mem_cons.mpr ⟨kmX11_1, List.forall_mem_cons.mpr ⟨kmX11_9, List.forall_mem_cons.mpr ⟨kmX11_18, List.forall_mem_cons.mpr ⟨kmX11_25, List.forall_mem_cons.mpr ⟨kmX11_37, List.forall_mem_cons.mpr ⟨kmX11_52, List.forall_mem_cons.mpr ⟨kmX11_59, List.forall_mem_cons.mpr ⟨kmX11_66, List.forall_mem_cons.mpr ⟨kmX11_73, List.forall_mem_cons.mpr ⟨kmX11_80, List.forall_mem_cons.mpr ⟨kmX11_95, List.forall_mem_cons.mpr ⟨kmX11_99, List.forall_mem_cons.mpr ⟨kmX11_103, List.forall_mem_cons.mpr ⟨kmX11_107, List.forall_mem_cons.mpr ⟨kmX11_111, List.forall_mem_cons.mpr ⟨kmX11_115, List.forall_mem_cons.mpr ⟨kmX11_122, List.forall_mem_cons.mpr ⟨kmX11_125, List.forall_mem_cons.mpr ⟨kmX11_131, List.forall_mem_cons.mpr ⟨kmX11_135, List.forall_mem_cons.mpr ⟨kmX11_165, List.forall_mem_cons.mpr ⟨kmX11_168, List.forall_mem_cons.mpr ⟨kmX11_193, List.forall_mem_cons.mpr ⟨kmX11_215, List.forall_mem_cons.mpr ⟨kmX11_219, List.forall_mem_cons.mpr ⟨kmX11_223, List.forall_mem_cons.mpr ⟨kmX11_226, List.forall_mem_cons.mpr ⟨kmX11_230, List.forall_mem_cons.mpr ⟨kmX11_234, List.forall_mem_cons.mpr ⟨kmX11_237, List.forall_mem_cons.mpr ⟨kmX11_241, List.forall_mem_cons.mpr ⟨kmX11_245, List.forall_mem_cons.mpr ⟨kmX11_249, List.forall_mem_cons.mpr ⟨kmX11_252, List.forall_mem_cons.mpr ⟨kmX11_255, List.forall_mem_cons.mpr ⟨kmX11_258, List.forall_mem_cons.mpr ⟨kmX11_261, List.forall_mem_cons.mpr ⟨kmX11_264, List.forall_mem_cons.mpr ⟨kmX11_267, List.forall_mem_cons.mpr ⟨kmX11_270, List.forall_mem_cons.mpr ⟨kmX11_273, List.forall_mem_cons.mpr ⟨kmX11_274, List.forall_mem_cons.mpr ⟨kmX11_289, List.forall_mem_cons.mpr ⟨kmX11_293, List.forall_mem_cons.mpr ⟨kmX11_299, List.forall_mem_cons.mpr ⟨kmX11_303, List.forall_mem_cons.mpr ⟨kmX11_305, List.forall_mem_cons.mpr ⟨kmX11_308, List.forall_mem_cons.mpr ⟨kmX11_320, List.forall_mem_cons.mpr ⟨kmX11_323, List.forall_mem_cons.mpr ⟨kmX11_326, List.forall_mem_cons.mpr ⟨kmX11_329, List.forall_mem_cons.mpr ⟨kmX11_332, List.forall_mem_cons.mpr ⟨kmX11_335, List.forall_mem_cons.mpr ⟨kmX11_339, List.forall_mem_cons.mpr ⟨kmX11_345, List.forall_mem_cons.mpr ⟨kmX11_348, List.forall_mem_cons.mpr ⟨kmX11_354, List.forall_mem_cons.mpr ⟨kmX11_357, List.forall_mem_cons.mpr ⟨kmX11_361, List.forall_mem_cons.mpr ⟨kmX11_365, List.forall_mem_cons.mpr ⟨kmX11_368, List.forall_mem_cons.mpr ⟨kmX11_373, List.forall_mem_cons.mpr ⟨kmX11_376, List.forall_mem_cons.mpr ⟨kmX11_379, List.forall_mem_cons.mpr ⟨kmX11_382, List.forall_mem_cons.mpr ⟨kmX11_388, List.forall_mem_cons.mpr ⟨kmX11_391, List.forall_mem_cons.mpr ⟨kmX11_394, List.forall_mem_cons.mpr ⟨kmX11_397, List.forall_mem_cons.mpr ⟨kmX11_403, List.forall_mem_cons.mpr ⟨kmX11_406, List.forall_mem_cons.mpr ⟨kmX11_409, List.forall_mem_cons.mpr ⟨kmX11_414, List.forall_mem_cons.mpr ⟨kmX11_417, List.forall_mem_cons.mpr ⟨kmX11_421, List.forall_mem_cons.mpr ⟨kmX11_424, List.forall_mem_cons.mpr ⟨kmX11_427, List.forall_mem_cons.mpr ⟨kmX11_430, List.forall_mem_cons.mpr ⟨kmX11_434, List.forall_mem_cons.mpr ⟨kmX11_437, List.forall_mem_cons.mpr ⟨kmX11_440, List.forall_mem_cons.mpr ⟨kmX11_443, List.forall_mem_cons.mpr ⟨kmX11_452, List.forall_mem_cons.mpr ⟨kmX11_455, List.forall_mem_cons.mpr ⟨kmX11_461, List.forall_mem_cons.mpr ⟨kmX11_464, List.forall_mem_cons.mpr ⟨kmX11_467, List.forall_mem_cons.mpr ⟨kmX11_470, List.forall_mem_cons.mpr ⟨kmX11_473, List.forall_mem_cons.mpr ⟨kmX11_479, List.forall_mem_cons.mpr ⟨kmX11_482, List.forall_mem_cons.mpr ⟨kmX11_485, fun _ h => absurd h List.not_mem_nil⟩⟩⟩⟩⟩⟩⟩⟩⟩⟩⟩⟩⟩⟩⟩⟩⟩⟩⟩⟩⟩⟩⟩⟩⟩⟩⟩⟩⟩⟩⟩⟩⟩⟩⟩⟩⟩⟩⟩⟩⟩⟩⟩⟩⟩⟩⟩⟩⟩⟩⟩⟩⟩⟩⟩⟩⟩⟩⟩⟩⟩⟩⟩⟩⟩⟩⟩⟩⟩⟩⟩⟩⟩⟩⟩⟩⟩⟩⟩⟩⟩⟩⟩⟩⟩⟩⟩⟩⟩⟩⟩⟩⟩
set_option maxRecDepth 100000 in
theorem k3X11 : ∀ q ∈ KX11.2.2.2.1, x_Nok KX11.1 q.1 q.2 := List.forall_mem_cons.mpr ⟨knX11_7, List.forall_mem_cons.mpr ⟨knX11_16, List.forall_mem_cons.mpr ⟨knX11_23, List.forall_mem_cons.mpr ⟨knX11_35, List.forall_mem_cons.mpr ⟨knX11_50, List.forall_mem_cons.mpr ⟨knX11_57, List.forall_mem_cons.mpr ⟨knX11_64, List.forall_mem_cons.mpr ⟨knX11_71, List.forall_mem_cons.mpr ⟨knX11_78, fun _ h => absurd h List.not_mem_nil⟩⟩⟩⟩⟩⟩⟩⟩⟩
set_option maxRecDepth 100000 in
theorem k4X11 : ∀ q ∈ KX11.2.2.2.2.1, x_Aok KX11.1 q.1 q.2 := List.forall_mem_cons.mpr ⟨kaX11_23, fun _ h => absurd h List.not_mem_nil⟩
set_option maxRecDepth 100000 in
theorem k5X11 : ∀ q ∈ KX11.2.2.2.2.2.1, Cond.constant KX11.1 q.1 (Int32.ofInt q.2) ∈ xT ∧ xin q.2 := fun _ h => absurd h List.not_mem_nil
set_option maxRecDepth 100000 in
theorem k6X11 : ∀ q ∈ KX11.2.2.2.2.2.2, Cond.constantLong KX11.1 q.1 (Int64.ofInt q.2) ∈ xT ∧ xlin q.2 := fun _ h => absurd h List.not_mem_nil
set_option maxRecDepth 100000 in
theorem kkX11 : x_Kok xM xN KX11 := ⟨k1X11, k2X11, k3X11, k4X11, k5X11, k6X11⟩
set_option maxRecDepth 100000 in
theorem kfX12_9 : x_Fok RX12 9 25344 := ⟨(RX12, TX12, 48), tyX12 0, rfl, ckX12, by decide, x_in 1369 rfl rfl, tyX12_ok 0 (by decide), Or.inr ⟨_, rfl⟩, fun _ => ⟨rfl, rfl⟩⟩
set_option maxRecDepth 100000 in
theorem kfX12_13 : x_Fok RX12 13 25347 := ⟨(RX12, TX12, 48), tyX12 3, rfl, ckX12, by decide, x_in 1372 rfl rfl, tyX12_ok 3 (by decide), Or.inr ⟨_, rfl⟩, fun _ => ⟨rfl, rfl⟩⟩
set_option maxRecDepth 100000 in
theorem kfX12_16 : x_Fok RX12 16 25348 := ⟨(RX12, TX12, 48), tyX12 4, rfl, ckX12, by decide, x_in 1373 rfl rfl, tyX12_ok 4 (by decide), Or.inr ⟨_, rfl⟩, fun _ => ⟨rfl, rfl⟩⟩
set_option maxRecDepth 100000 in
theorem kfX12_19 : x_Fok RX12 19 25351 := ⟨(RX12, TX12, 48), tyX12 7, rfl, ckX12, by decide, x_in 1376 rfl rfl, tyX12_ok 7 (by decide), Or.inr ⟨_, rfl⟩, fun _ => ⟨rfl, rfl⟩⟩
set_option maxRecDepth 100000 in
theorem kfX12_23 : x_Fok RX12 23 25353 := ⟨(RX12, TX12, 48), tyX12 9, rfl, ckX12, by decide, x_in 1378 rfl rfl, tyX12_ok 9 (by decide), Or.inr ⟨_, rfl⟩, fun _ => ⟨rfl, rfl⟩⟩
set_option maxRecDepth 100000 in
theorem kfX12_26 : x_Fok RX12 26 25361 := ⟨(RX12, TX12, 48), tyX12 17, rfl, ckX12, by decide, x_in 1386 rfl rfl, tyX12_ok 17 (by decide), Or.inr ⟨_, rfl⟩, fun _ => ⟨rfl, rfl⟩⟩
set_option maxRecDepth 100000 in
theorem kfX12_29 : x_Fok RX12 29 25362 := ⟨(RX12, TX12, 48), tyX12 18, rfl, ckX12, by decide, x_in 1387 rfl rfl, tyX12_ok 18 (by decide), Or.inr ⟨_, rfl⟩, fun _ => ⟨rfl, rfl⟩⟩
set_option maxRecDepth 100000 in
theorem kfX12_32 : x_Fok RX12 32 25363 := ⟨(RX12, TX12, 48), tyX12 19, rfl, ckX12, by decide, x_in 1388 rfl rfl, tyX12_ok 19 (by decide), Or.inr ⟨_, rfl⟩, fun _ => ⟨rfl, rfl⟩⟩
set_option maxRecDepth 100000 in
theorem kfX12_35 : x_Fok RX12 35 25366 := ⟨(RX12, TX12, 48), tyX12 22, rfl, ckX12, by decide, x_in 1391 rfl rfl, tyX12_ok 22 (by decide), Or.inr ⟨_, rfl⟩, fun _ => ⟨rfl, rfl⟩⟩
set_option maxRecDepth 100000 in
theorem kfX12_38 : x_Fok RX12 38 25370 := ⟨(RX12, TX12, 48), tyX12 26, rfl, ckX12, by decide, x_in 1395 rfl rfl, tyX12_ok 26 (by decide), Or.inr ⟨_, rfl⟩, fun _ => ⟨rfl, rfl⟩⟩
set_option maxRecDepth 100000 in
theorem kfX12_41 : x_Fok RX12 41 25371 := ⟨(RX12, TX12, 48), tyX12 27, rfl, ckX12, by decide, x_in 1396 rfl rfl, tyX12_ok 27 (by decide), Or.inr ⟨_, rfl⟩, fun _ => ⟨rfl, rfl⟩⟩
set_option maxRecDepth 100000 in
theorem kfX12_44 : x_Fok RX12 44 25373 := ⟨(RX12, TX12, 48), tyX12 29, rfl, ckX12, by decide, x_in 1398 rfl rfl, tyX12_ok 29 (by decide), Or.inr ⟨_, rfl⟩, fun _ => ⟨rfl, rfl⟩⟩
set_option maxRecDepth 100000 in
theorem kfX12_47 : x_Fok RX12 47 25378 := ⟨(RX12, TX12, 48), tyX12 34, rfl, ckX12, by decide, x_in 1403 rfl rfl, tyX12_ok 34 (by decide), Or.inr ⟨_, rfl⟩, fun _ => ⟨rfl, rfl⟩⟩
set_option maxRecDepth 100000 in
theorem kfX12_50 : x_Fok RX12 50 25379 := ⟨(RX12, TX12, 48), tyX12 35, rfl, ckX12, by decide, x_in 1404 rfl rfl, tyX12_ok 35 (by decide), Or.inr ⟨_, rfl⟩, fun _ => ⟨rfl, rfl⟩⟩
set_option maxRecDepth 100000 in
theorem kfX12_53 : x_Fok RX12 53 25380 := ⟨(RX12, TX12, 48), tyX12 36, rfl, ckX12, by decide, x_in 1405 rfl rfl, tyX12_ok 36 (by decide), Or.inr ⟨_, rfl⟩, fun _ => ⟨rfl, rfl⟩⟩
set_option maxRecDepth 100000 in
theorem kfX12_56 : x_Fok RX12 56 25381 := ⟨(RX12, TX12, 48), tyX12 37, rfl, ckX12, by decide, x_in 1406 rfl rfl, tyX12_ok 37 (by decide), Or.inr ⟨_, rfl⟩, fun _ => ⟨rfl, rfl⟩⟩
set_option maxRecDepth 100000 in
theorem kfX12_59 : x_Fok RX12 59 25382 := ⟨(RX12, TX12, 48), tyX12 38, rfl, ckX12, by decide, x_in 1407 rfl rfl, tyX12_ok 38 (by decide), Or.inr ⟨_, rfl⟩, fun _ => ⟨rfl, rfl⟩⟩
set_option maxRecDepth 100000 in
theorem kfX12_62 : x_Fok RX12 62 25384 := ⟨(RX12, TX12, 48), tyX12 40, rfl, ckX12, by decide, x_in 1409 rfl rfl, tyX12_ok 40 (by decide), Or.inr ⟨_, rfl⟩, fun _ => ⟨rfl, rfl⟩⟩
set_option maxRecDepth 100000 in
theorem kfX12_65 : x_Fok RX12 65 25385 := ⟨(RX12, TX12, 48), tyX12 41, rfl, ckX12, by decide, x_in 1410 rfl rfl, tyX12_ok 41 (by decide), Or.inr ⟨_, rfl⟩, fun _ => ⟨rfl, rfl⟩⟩
set_option maxRecDepth 100000 in
theorem kfX12_68 : x_Fok RX12 68 25389 := ⟨(RX12, TX12, 48), tyX12 45, rfl, ckX12, by decide, x_in 1414 rfl rfl, tyX12_ok 45 (by decide), Or.inr ⟨_, rfl⟩, fun _ => ⟨rfl, rfl⟩⟩
set_option maxRecDepth 100000 in
theorem kfX12_71 : x_Fok RX12 71 25390 := ⟨(RX12, TX12, 48), tyX12 46, rfl, ckX12, by decide, x_in 1415 rfl rfl, tyX12_ok 46 (by decide), Or.inr ⟨_, rfl⟩, fun _ => ⟨rfl, rfl⟩⟩
set_option maxRecDepth 100000 in
theorem kfX12_75 : x_Fok RX12 75 25391 := ⟨(RX12, TX12, 48), tyX12 47, rfl, ckX12, by decide, x_in 1416 rfl rfl, tyX12_ok 47 (by decide), Or.inr ⟨_, rfl⟩, fun _ => ⟨rfl, rfl⟩⟩
set_option maxRecDepth 100000 in
theorem kfX12_78 : x_Fok RX12 78 779 := ⟨(RX12, TX12, 48), tyX12 11, rfl, ckX12, by decide, x_in 1380 rfl rfl, tyX12_ok 11 (by decide), rfl, rfl⟩
set_option maxRecDepth 100000 in
theorem kfX12_82 : x_Fok RX12 82 778 := ⟨(RX12, TX12, 48), tyX12 10, rfl, ckX12, by decide, x_in 1379 rfl rfl, tyX12_ok 10 (by decide), rfl, rfl⟩
set_option maxRecDepth 100000 in
theorem kfX12_85 : x_Fok RX12 85 769 := ⟨(RX12, TX12, 48), tyX12 1, rfl, ckX12, by decide, x_in 1370 rfl rfl, tyX12_ok 1 (by decide), rfl, rfl⟩
set_option maxRecDepth 100000 in
theorem kfX12_92 : x_Fok RX12 92 770 := ⟨(RX12, TX12, 48), tyX12 2, rfl, ckX12, by decide, x_in 1371 rfl rfl, tyX12_ok 2 (by decide), rfl, rfl⟩
set_option maxRecDepth 100000 in
theorem kfX12_95 : x_Fok RX12 95 776 := ⟨(RX12, TX12, 48), tyX12 8, rfl, ckX12, by decide, x_in 1377 rfl rfl, tyX12_ok 8 (by decide), rfl, rfl⟩
set_option maxRecDepth 100000 in
theorem kfX12_98 : x_Fok RX12 98 8972 := ⟨(RX12, TX12, 48), tyX12 12, rfl, ckX12, by decide, x_in 1381 rfl rfl, tyX12_ok 12 (by decide), Or.inr ⟨_, rfl⟩, rfl⟩
set_option maxRecDepth 100000 in
theorem kfX12_101 : x_Fok RX12 101 781 := ⟨(RX12, TX12, 48), tyX12 13, rfl, ckX12, by decide, x_in 1382 rfl rfl, tyX12_ok 13 (by decide), rfl, rfl⟩
set_option maxRecDepth 100000 in
theorem kfX12_104 : x_Fok RX12 104 782 := ⟨(RX12, TX12, 48), tyX12 14, rfl, ckX12, by decide, x_in 1383 rfl rfl, tyX12_ok 14 (by decide), rfl, rfl⟩
set_option maxRecDepth 100000 in
theorem kfX12_107 : x_Fok RX12 107 783 := ⟨(RX12, TX12, 48), tyX12 15, rfl, ckX12, by decide, x_in 1384 rfl rfl, tyX12_ok 15 (by decide), rfl, rfl⟩
set_option maxRecDepth 100000 in
theorem kfX12_110 : x_Fok RX12 110 784 := ⟨(RX12, TX12, 48), tyX12 16, rfl, ckX12, by decide, x_in 1385 rfl rfl, tyX12_ok 16 (by decide), rfl, rfl⟩
set_option maxRecDepth 100000 in
theorem kfX12_151 : x_Fok RX12 151 796 := ⟨(RX12, TX12, 48), tyX12 28, rfl, ckX12, by decide, x_in 1397 rfl rfl, tyX12_ok 28 (by decide), rfl, rfl⟩
set_option maxRecDepth 100000 in
theorem kfX12_154 : x_Fok RX12 154 812 := ⟨(RX12, TX12, 48), tyX12 44, rfl, ckX12, by decide, x_in 1413 rfl rfl, tyX12_ok 44 (by decide), rfl, rfl⟩
set_option maxRecDepth 100000 in
theorem kfX12_175 : x_Fok RX12 175 4885 := ⟨(RX12, TX12, 48), tyX12 21, rfl, ckX12, by decide, x_in 1390 rfl rfl, tyX12_ok 21 (by decide), rfl, rfl⟩
set_option maxRecDepth 100000 in
theorem kfX12_179 : x_Fok RX12 179 788 := ⟨(RX12, TX12, 48), tyX12 20, rfl, ckX12, by decide, x_in 1389 rfl rfl, tyX12_ok 20 (by decide), rfl, rfl⟩
set_option maxRecDepth 100000 in
theorem kfX12_182 : x_Fok RX12 182 773 := ⟨(RX12, TX12, 48), tyX12 5, rfl, ckX12, by decide, x_in 1374 rfl rfl, tyX12_ok 5 (by decide), rfl, rfl⟩
set_option maxRecDepth 100000 in
theorem kfX12_210 : x_Fok RX12 210 774 := ⟨(RX12, TX12, 48), tyX12 6, rfl, ckX12, by decide, x_in 1375 rfl rfl, tyX12_ok 6 (by decide), rfl, rfl⟩
set_option maxRecDepth 100000 in
theorem kfX12_223 : x_Fok RX12 223 791 := ⟨(RX12, TX12, 48), tyX12 23, rfl, ckX12, by decide, x_in 1392 rfl rfl, tyX12_ok 23 (by decide), rfl, rfl⟩
set_option maxRecDepth 100000 in
theorem kfX12_226 : x_Fok RX12 226 792 := ⟨(RX12, TX12, 48), tyX12 24, rfl, ckX12, by decide, x_in 1393 rfl rfl, tyX12_ok 24 (by decide), rfl, rfl⟩
set_option maxRecDepth 100000 in
theorem kfX12_229 : x_Fok RX12 229 793 := ⟨(RX12, TX12, 48), tyX12 25, rfl, ckX12, by decide, x_in 1394 rfl rfl, tyX12_ok 25 (by decide), rfl, rfl⟩
set_option maxRecDepth 100000 in
theorem kfX12_283 : x_Fok RX12 283 798 := ⟨(RX12, TX12, 48), tyX12 30, rfl, ckX12, by decide, x_in 1399 rfl rfl, tyX12_ok 30 (by decide), rfl, rfl⟩
set_option maxRecDepth 100000 in
theorem kfX12_291 : x_Fok RX12 291 799 := ⟨(RX12, TX12, 48), tyX12 31, rfl, ckX12, by decide, x_in 1400 rfl rfl, tyX12_ok 31 (by decide), rfl, rfl⟩
set_option maxRecDepth 100000 in
theorem kfX12_294 : x_Fok RX12 294 800 := ⟨(RX12, TX12, 48), tyX12 32, rfl, ckX12, by decide, x_in 1401 rfl rfl, tyX12_ok 32 (by decide), rfl, rfl⟩
set_option maxRecDepth 100000 in
theorem kfX12_297 : x_Fok RX12 297 801 := ⟨(RX12, TX12, 48), tyX12 33, rfl, ckX12, by decide, x_in 1402 rfl rfl, tyX12_ok 33 (by decide), rfl, rfl⟩
set_option maxRecDepth 100000 in
theorem kfX12_364 : x_Fok RX12 364 13095 := ⟨(RX12, TX12, 48), tyX12 39, rfl, ckX12, by decide, x_in 1408 rfl rfl, tyX12_ok 39 (by decide), rfl, rfl⟩
set_option maxRecDepth 100000 in
theorem kfX12_382 : x_Fok RX12 382 811 := ⟨(RX12, TX12, 48), tyX12 43, rfl, ckX12, by decide, x_in 1412 rfl rfl, tyX12_ok 43 (by decide), rfl, rfl⟩
set_option maxRecDepth 100000 in
theorem kfX12_389 : x_Fok RX12 389 810 := ⟨(RX12, TX12, 48), tyX12 42, rfl, ckX12, by decide, x_in 1411 rfl rfl, tyX12_ok 42 (by decide), rfl, rfl⟩
set_option maxRecDepth 100000 in
theorem kmX12_3 : x_Ook RX12 3 := ⟨x_in 1368 rfl rfl, x_in 121 rfl rfl, x_in 122 rfl rfl⟩
set_option maxRecDepth 100000 in
theorem kmX12_88 : x_Lok xM xN RX12 88 2 2748 := ⟨_, rfl, mkX12_in, x_in 1526 rfl rfl, x_in 1527 rfl rfl, mpX12_in⟩
set_option maxRecDepth 100000 in
theorem kmX12_113 : x_Lok xM xN RX12 113 0 2924 := ⟨_, rfl, mkX12_fine, x_in 1537 rfl rfl, x_in 1539 rfl rfl, x_in 39 rfl rfl, ⟨(RX12, TX12, 48), rfl, rfl⟩, 0, rfl, mpX12_fine⟩
set_option maxRecDepth 100000 in
theorem kmX12_117 : x_Lok xM xN RX12 117 0 2908 := ⟨_, rfl, mkX12_here, x_in 1561 rfl rfl, x_in 1563 rfl rfl, x_in 45 rfl rfl, ⟨(RX12, TX12, 48), rfl, rfl⟩, 0, rfl, mpX12_here⟩
set_option maxRecDepth 100000 in
theorem kmX12_121 : x_Lok xM xN RX12 121 0 2956 := ⟨_, rfl, mkX12_passes, x_in 1569 rfl rfl, x_in 1571 rfl rfl, x_in 47 rfl rfl, ⟨(RX12, TX12, 48), rfl, rfl⟩, 1, rfl, mpX12_passes⟩
set_option maxRecDepth 100000 in
theorem kmX12_125 : x_Lok xM xN RX12 125 0 2940 := ⟨_, rfl, mkX12_fault, x_in 1541 rfl rfl, x_in 1543 rfl rfl, x_in 40 rfl rfl, ⟨(RX12, TX12, 48), rfl, rfl⟩, 1, rfl, mpX12_fault⟩
set_option maxRecDepth 100000 in
theorem kmX12_129 : x_Lok xM xN RX12 129 0 2988 := ⟨_, rfl, mkX12_digit, x_in 1557 rfl rfl, x_in 1559 rfl rfl, x_in 44 rfl rfl, ⟨(RX12, TX12, 48), rfl, rfl⟩, 2, rfl, mpX12_digit⟩
set_option maxRecDepth 100000 in
theorem kmX12_133 : x_Lok xM xN RX12 133 0 3004 := ⟨_, rfl, mkX12_number, x_in 1553 rfl rfl, x_in 1555 rfl rfl, x_in 43 rfl rfl, ⟨(RX12, TX12, 48), rfl, rfl⟩, 1, rfl, mpX12_number⟩
set_option maxRecDepth 100000 in
theorem kmX12_137 : x_Lok xM xN RX12 137 0 3036 := ⟨_, rfl, mkX12_cell, x_in 1549 rfl rfl, x_in 1551 rfl rfl, x_in 42 rfl rfl, ⟨(RX12, TX12, 48), rfl, rfl⟩, 0, rfl, mpX12_cell⟩
set_option maxRecDepth 100000 in
theorem kmX12_140 : x_Lok xM xN RX12 140 0 2972 := ⟨_, rfl, mkX12_need, x_in 1565 rfl rfl, x_in 1567 rfl rfl, x_in 46 rfl rfl, ⟨(RX12, TX12, 48), rfl, rfl⟩, 1, rfl, mpX12_need⟩
set_option maxRecDepth 100000 in
theorem kmX12_144 : x_Lok xM xN RX12 144 0 2892 := ⟨_, rfl, mkX12_begin, x_in 1533 rfl rfl, x_in 1535 rfl rfl, x_in 38 rfl rfl, ⟨(RX12, TX12, 48), rfl, rfl⟩, 3, rfl, mpX12_begin⟩
set_option maxRecDepth 100000 in
theorem kmX12_148 : x_Lok xM xN RX12 148 0 3052 := ⟨_, rfl, mkX12_readBoat, x_in 1545 rfl rfl, x_in 1547 rfl rfl, x_in 41 rfl rfl, ⟨(RX12, TX12, 48), rfl, rfl⟩, 1, rfl, mpX12_readBoat⟩
set_option maxRecDepth 100000 in
theorem kmX12_157 : x_Lok xM xN RX12 157 0 3020 := ⟨_, rfl, mkX12_letter, x_in 1577 rfl rfl, x_in 1579 rfl rfl, x_in 48 rfl rfl, ⟨(RX12, TX12, 48), rfl, rfl⟩, 1, rfl, mpX12_letter⟩
set_option maxRecDepth 100000 in
theorem kmX12_160 : x_Lok xM xN RX12 160 0 3116 := ⟨_, rfl, mkX12_sum, x_in 1589 rfl rfl, x_in 1591 rfl rfl, x_in 50 rfl rfl, ⟨(RX12, TX12, 48), rfl, rfl⟩, 1, rfl, mpX12_sum⟩
set_option maxRecDepth 100000 in
theorem kmX12_163 : x_Lok xM xN RX12 163 0 3132 := ⟨_, rfl, mkX12_product, x_in 1593 rfl rfl, x_in 1595 rfl rfl, x_in 51 rfl rfl, ⟨(RX12, TX12, 48), rfl, rfl⟩, 1, rfl, mpX12_product⟩
set_option maxRecDepth 100000 in
theorem kmX12_166 : x_Lok xM xN RX12 166 0 3164 := ⟨_, rfl, mkX12_thing, x_in 1597 rfl rfl, x_in 1599 rfl rfl, x_in 52 rfl rfl, ⟨(RX12, TX12, 48), rfl, rfl⟩, 1, rfl, mpX12_thing⟩
set_option maxRecDepth 100000 in
theorem kmX12_169 : x_Lok xM xN RX12 169 0 3100 := ⟨_, rfl, mkX12_held, x_in 1585 rfl rfl, x_in 1587 rfl rfl, x_in 49 rfl rfl, ⟨(RX12, TX12, 48), rfl, rfl⟩, 1, rfl, mpX12_held⟩
set_option maxRecDepth 100000 in
theorem kmX12_172 : x_Lok xM xN RX12 172 2 3148 := ⟨_, rfl, mkX12_letterOf, x_in 1601 rfl rfl, x_in 1602 rfl rfl, mpX12_letterOf⟩
set_option maxRecDepth 100000 in
theorem kmX12_185 : x_Lok xM xN RX12 185 2 4496 := ⟨_, rfl, mkJ9_min_7cf53, x_in 1643 rfl rfl, x_in 529 rfl rfl, mpJ9_min_7cf53⟩
set_option maxRecDepth 100000 in
theorem kmX12_190 : x_Lok xM xN RX12 190 2 4480 := ⟨_, rfl, mkJ9_max_7cf53, x_in 1644 rfl rfl, x_in 694 rfl rfl, mpJ9_max_7cf53⟩
set_option maxRecDepth 100000 in
theorem kmX12_193 : x_Lok xM xN RX12 193 0 2812 := ⟨_, rfl, mkX12_isBoat, x_in 1608 rfl rfl, x_in 1610 rfl rfl, x_in 53 rfl rfl, ⟨(RX12, TX12, 48), rfl, rfl⟩, 1, rfl, mpX12_isBoat⟩
set_option maxRecDepth 100000 in
theorem kmX12_197 : x_Lok xM xN RX12 197 0 2780 := ⟨_, rfl, mkX12_lost, x_in 1612 rfl rfl, x_in 1614 rfl rfl, x_in 54 rfl rfl, ⟨(RX12, TX12, 48), rfl, rfl⟩, 0, rfl, mpX12_lost⟩
set_option maxRecDepth 100000 in
theorem kmX12_200 : x_Lok xM xN RX12 200 2 3260 := ⟨_, rfl, mkX12_lettersAt, x_in 1616 rfl rfl, x_in 1617 rfl rfl, mpX12_lettersAt⟩
set_option maxRecDepth 100000 in
theorem kmX12_204 : x_Lok xM xN RX12 204 0 2828 := ⟨_, rfl, mkX12_isGull, x_in 1623 rfl rfl, x_in 1625 rfl rfl, x_in 55 rfl rfl, ⟨(RX12, TX12, 48), rfl, rfl⟩, 1, rfl, mpX12_isGull⟩
set_option maxRecDepth 100000 in
theorem kmX12_207 : x_Lok xM xN RX12 207 0 2844 := ⟨_, rfl, mkX12_isLetter, x_in 1631 rfl rfl, x_in 1633 rfl rfl, x_in 56 rfl rfl, ⟨(RX12, TX12, 48), rfl, rfl⟩, 1, rfl, mpX12_isLetter⟩
set_option maxRecDepth 100000 in
theorem kmX12_213 : x_Lok xM xN RX12 213 2 4464 := ⟨_, rfl, mkJ9_abs_0f7a4, x_in 1679 rfl rfl, x_in 834 rfl rfl, mpJ9_abs_0f7a4⟩
set_option maxRecDepth 100000 in
theorem kmX12_216 : x_Lok xM xN RX12 216 0 3324 := ⟨_, rfl, mkX12_farTo, x_in 1675 rfl rfl, x_in 1677 rfl rfl, x_in 61 rfl rfl, ⟨(RX12, TX12, 48), rfl, rfl⟩, 3, rfl, mpX12_farTo⟩
set_option maxRecDepth 100000 in
theorem kmX12_219 : x_Lok xM xN RX12 219 0 3340 := ⟨_, rfl, mkX12_nearestTo, x_in 1740 rfl rfl, x_in 1742 rfl rfl, x_in 71 rfl rfl, ⟨(RX12, TX12, 48), rfl, rfl⟩, 3, rfl, mpX12_nearestTo⟩
set_option maxRecDepth 100000 in
theorem kmX12_232 : x_Lok xM xN RX12 232 0 3308 := ⟨_, rfl, mkX12_goBoats, x_in 1728 rfl rfl, x_in 1730 rfl rfl, x_in 68 rfl rfl, ⟨(RX12, TX12, 48), rfl, rfl⟩, 1, rfl, mpX12_goBoats⟩
set_option maxRecDepth 100000 in
theorem kmX12_236 : x_Lok xM xN RX12 236 0 3404 := ⟨_, rfl, mkX12_goGull, x_in 1732 rfl rfl, x_in 1734 rfl rfl, x_in 69 rfl rfl, ⟨(RX12, TX12, 48), rfl, rfl⟩, 2, rfl, mpX12_goGull⟩
set_option maxRecDepth 100000 in
theorem kmX12_240 : x_Lok xM xN RX12 240 0 3356 := ⟨_, rfl, mkX12_aimOf, x_in 1736 rfl rfl, x_in 1738 rfl rfl, x_in 70 rfl rfl, ⟨(RX12, TX12, 48), rfl, rfl⟩, 2, rfl, mpX12_aimOf⟩
set_option maxRecDepth 100000 in
theorem kmX12_244 : x_Lok xM xN RX12 244 0 3196 := ⟨_, rfl, mkX12_rangeOf, x_in 1744 rfl rfl, x_in 1746 rfl rfl, x_in 72 rfl rfl, ⟨(RX12, TX12, 48), rfl, rfl⟩, 3, rfl, mpX12_rangeOf⟩
set_option maxRecDepth 100000 in
theorem kmX12_247 : x_Lok xM xN RX12 247 2 3372 := ⟨_, rfl, mkX12_toward, x_in 1748 rfl rfl, x_in 1749 rfl rfl, mpX12_toward⟩
set_option maxRecDepth 100000 in
theorem kmX12_251 : x_Lok xM xN RX12 251 2 3420 := ⟨_, rfl, mkX12_lay, x_in 1657 rfl rfl, x_in 1658 rfl rfl, mpX12_lay⟩
set_option maxRecDepth 100000 in
theorem kmX12_255 : x_Lok xM xN RX12 255 0 3452 := ⟨_, rfl, mkX12_refusesWrite, x_in 1649 rfl rfl, x_in 1651 rfl rfl, x_in 57 rfl rfl, ⟨(RX12, TX12, 48), rfl, rfl⟩, 1, rfl, mpX12_refusesWrite⟩
set_option maxRecDepth 100000 in
theorem kmX12_258 : x_Lok xM xN RX12 258 0 3436 := ⟨_, rfl, mkX12_remember, x_in 1653 rfl rfl, x_in 1655 rfl rfl, x_in 58 rfl rfl, ⟨(RX12, TX12, 48), rfl, rfl⟩, 1, rfl, mpX12_remember⟩
set_option maxRecDepth 100000 in
theorem kmX12_261 : x_Lok xM xN RX12 261 0 3468 := ⟨_, rfl, mkX12_goWrite, x_in 1660 rfl rfl, x_in 1662 rfl rfl, x_in 59 rfl rfl, ⟨(RX12, TX12, 48), rfl, rfl⟩, 1, rfl, mpX12_goWrite⟩
set_option maxRecDepth 100000 in
theorem kmX12_264 : x_Lok xM xN RX12 264 0 3500 := ⟨_, rfl, mkX12_refusesSend, x_in 1668 rfl rfl, x_in 1670 rfl rfl, x_in 60 rfl rfl, ⟨(RX12, TX12, 48), rfl, rfl⟩, 2, rfl, mpX12_refusesSend⟩
set_option maxRecDepth 100000 in
theorem kmX12_267 : x_Lok xM xN RX12 267 2 3516 := ⟨_, rfl, mkX12_goSend, x_in 1672 rfl rfl, x_in 1673 rfl rfl, mpX12_goSend⟩
set_option maxRecDepth 100000 in
theorem kmX12_271 : x_Lok xM xN RX12 271 0 3564 := ⟨_, rfl, mkX12_refusesRest, x_in 1688 rfl rfl, x_in 1690 rfl rfl, x_in 62 rfl rfl, ⟨(RX12, TX12, 48), rfl, rfl⟩, 1, rfl, mpX12_refusesRest⟩
set_option maxRecDepth 100000 in
theorem kmX12_274 : x_Lok xM xN RX12 274 0 3580 := ⟨_, rfl, mkX12_goShow, x_in 1692 rfl rfl, x_in 1694 rfl rfl, x_in 63 rfl rfl, ⟨(RX12, TX12, 48), rfl, rfl⟩, 1, rfl, mpX12_goShow⟩
set_option maxRecDepth 100000 in
theorem kmX12_277 : x_Lok xM xN RX12 277 0 3628 := ⟨_, rfl, mkX12_goFeed, x_in 1704 rfl rfl, x_in 1706 rfl rfl, x_in 64 rfl rfl, ⟨(RX12, TX12, 48), rfl, rfl⟩, 1, rfl, mpX12_goFeed⟩
set_option maxRecDepth 100000 in
theorem kmX12_280 : x_Lok xM xN RX12 280 0 3388 := ⟨_, rfl, mkX12_goHalf, x_in 1724 rfl rfl, x_in 1726 rfl rfl, x_in 67 rfl rfl, ⟨(RX12, TX12, 48), rfl, rfl⟩, 1, rfl, mpX12_goHalf⟩
set_option maxRecDepth 100000 in
theorem kmX12_286 : x_Lok xM xN RX12 286 2 4512 := ⟨_, rfl, mkJ6_bitCount_0f7a4, x_in 1751 rfl rfl, x_in 1132 rfl rfl, mpJ6_bitCount_0f7a4⟩
set_option maxRecDepth 100000 in
theorem kmX12_300 : x_Lok xM xN RX12 300 0 2796 := ⟨_, rfl, mkX12_tell, x_in 1756 rfl rfl, x_in 1758 rfl rfl, x_in 74 rfl rfl, ⟨(RX12, TX12, 48), rfl, rfl⟩, 1, rfl, mpX12_tell⟩
set_option maxRecDepth 100000 in
theorem kmX12_303 : x_Lok xM xN RX12 303 0 3724 := ⟨_, rfl, mkX12_halves, x_in 1712 rfl rfl, x_in 1713 rfl rfl, x_in 1714 rfl rfl, ⟨(RX12, TX12, 48), rfl, rfl⟩, 1, rfl, mpX12_halves⟩
set_option maxRecDepth 100000 in
theorem kmX12_306 : x_Lok xM xN RX12 306 0 3676 := ⟨_, rfl, mkX12_beginHalves, x_in 1716 rfl rfl, x_in 1718 rfl rfl, x_in 65 rfl rfl, ⟨(RX12, TX12, 48), rfl, rfl⟩, 0, rfl, mpX12_beginHalves⟩
set_option maxRecDepth 100000 in
theorem kmX12_309 : x_Lok xM xN RX12 309 0 3660 := ⟨_, rfl, mkX12_goHalves, x_in 1720 rfl rfl, x_in 1722 rfl rfl, x_in 66 rfl rfl, ⟨(RX12, TX12, 48), rfl, rfl⟩, 2, rfl, mpX12_goHalves⟩
set_option maxRecDepth 100000 in
theorem kmX12_312 : x_Lok xM xN RX12 312 0 3692 := ⟨_, rfl, mkX12_tellHalves, x_in 1752 rfl rfl, x_in 1754 rfl rfl, x_in 73 rfl rfl, ⟨(RX12, TX12, 48), rfl, rfl⟩, 0, rfl, mpX12_tellHalves⟩
set_option maxRecDepth 100000 in
theorem kmX12_315 : x_Lok xM xN RX12 315 0 3756 := ⟨_, rfl, mkX12_readAct, x_in 1765 rfl rfl, x_in 1767 rfl rfl, x_in 75 rfl rfl, ⟨(RX12, TX12, 48), rfl, rfl⟩, 1, rfl, mpX12_readAct⟩
set_option maxRecDepth 100000 in
theorem kmX12_318 : x_Lok xM xN RX12 318 0 3772 := ⟨_, rfl, mkX12_act, x_in 1769 rfl rfl, x_in 1771 rfl rfl, x_in 76 rfl rfl, ⟨(RX12, TX12, 48), rfl, rfl⟩, 3, rfl, mpX12_act⟩
set_option maxRecDepth 100000 in
theorem kmX12_321 : x_Lok xM xN RX12 321 2 3804 := ⟨_, rfl, mkX12_isLook, x_in 1781 rfl rfl, x_in 1782 rfl rfl, mpX12_isLook⟩
set_option maxRecDepth 100000 in
theorem kmX12_324 : x_Lok xM xN RX12 324 2 2764 := ⟨_, rfl, mkX12_has, x_in 1792 rfl rfl, x_in 1793 rfl rfl, mpX12_has⟩
set_option maxRecDepth 100000 in
theorem kmX12_328 : x_Lok xM xN RX12 328 0 3836 := ⟨_, rfl, mkX12_comesThen, x_in 1788 rfl rfl, x_in 1790 rfl rfl, x_in 77 rfl rfl, ⟨(RX12, TX12, 48), rfl, rfl⟩, 1, rfl, mpX12_comesThen⟩
set_option maxRecDepth 100000 in
theorem kmX12_331 : x_Lok xM xN RX12 331 2 3884 := ⟨_, rfl, mkX12_onDeck, x_in 1803 rfl rfl, x_in 1804 rfl rfl, mpX12_onDeck⟩
set_option maxRecDepth 100000 in
theorem kmX12_335 : x_Lok xM xN RX12 335 2 3948 := ⟨_, rfl, mkX12_apart, x_in 1818 rfl rfl, x_in 1819 rfl rfl, mpX12_apart⟩
set_option maxRecDepth 100000 in
theorem kmX12_338 : x_Lok xM xN RX12 338 0 3980 := ⟨_, rfl, mkX12_shoutOn, x_in 1836 rfl rfl, x_in 1838 rfl rfl, x_in 80 rfl rfl, ⟨(RX12, TX12, 48), rfl, rfl⟩, 3, rfl, mpX12_shoutOn⟩
set_option maxRecDepth 100000 in
theorem kmX12_341 : x_Lok xM xN RX12 341 0 3996 := ⟨_, rfl, mkX12_areBoats, x_in 1825 rfl rfl, x_in 1827 rfl rfl, x_in 78 rfl rfl, ⟨(RX12, TX12, 48), rfl, rfl⟩, 1, rfl, mpX12_areBoats⟩
set_option maxRecDepth 100000 in
theorem kmX12_344 : x_Lok xM xN RX12 344 2 4012 := ⟨_, rfl, mkX12_isShout, x_in 1829 rfl rfl, x_in 1830 rfl rfl, mpX12_isShout⟩
set_option maxRecDepth 100000 in
theorem kmX12_347 : x_Lok xM xN RX12 347 0 4028 := ⟨_, rfl, mkX12_shoutFor, x_in 1832 rfl rfl, x_in 1834 rfl rfl, x_in 79 rfl rfl, ⟨(RX12, TX12, 48), rfl, rfl⟩, 3, rfl, mpX12_shoutFor⟩
set_option maxRecDepth 100000 in
theorem kmX12_351 : x_Lok xM xN RX12 351 0 4060 := ⟨_, rfl, mkX12_allKnow, x_in 1844 rfl rfl, x_in 1846 rfl rfl, x_in 81 rfl rfl, ⟨(RX12, TX12, 48), rfl, rfl⟩, 2, rfl, mpX12_allKnow⟩
set_option maxRecDepth 100000 in
theorem kmX12_354 : x_Lok xM xN RX12 354 0 4108 := ⟨_, rfl, mkX12_ordered, x_in 1857 rfl rfl, x_in 1859 rfl rfl, x_in 82 rfl rfl, ⟨(RX12, TX12, 48), rfl, rfl⟩, 3, rfl, mpX12_ordered⟩
set_option maxRecDepth 100000 in
theorem kmX12_357 : x_Lok xM xN RX12 357 0 4140 := ⟨_, rfl, mkX12_stolen, x_in 1865 rfl rfl, x_in 1867 rfl rfl, x_in 83 rfl rfl, ⟨(RX12, TX12, 48), rfl, rfl⟩, 2, rfl, mpX12_stolen⟩
set_option maxRecDepth 100000 in
theorem kmX12_360 : x_Lok xM xN RX12 360 0 4188 := ⟨_, rfl, mkX12_comesJust, x_in 1877 rfl rfl, x_in 1879 rfl rfl, x_in 84 rfl rfl, ⟨(RX12, TX12, 48), rfl, rfl⟩, 4, rfl, mpX12_comesJust⟩
set_option maxRecDepth 100000 in
theorem kmX12_370 : x_Lok xM xN RX12 370 2 4252 := ⟨_, rfl, mkX12_power, x_in 1900 rfl rfl, x_in 1901 rfl rfl, mpX12_power⟩
set_option maxRecDepth 100000 in
theorem kmX12_374 : x_Lok xM xN RX12 374 0 4268 := ⟨_, rfl, mkX12_goTrain, x_in 1895 rfl rfl, x_in 1897 rfl rfl, x_in 85 rfl rfl, ⟨(RX12, TX12, 48), rfl, rfl⟩, 4, rfl, mpX12_goTrain⟩
set_option maxRecDepth 100000 in
theorem kmX12_386 : x_Lok xM xN RX12 386 0 4300 := ⟨_, rfl, mkX12_draw, x_in 1907 rfl rfl, x_in 1909 rfl rfl, x_in 86 rfl rfl, ⟨(RX12, TX12, 48), rfl, rfl⟩, 1, rfl, mpX12_draw⟩
set_option maxRecDepth 100000 in
theorem kmX12_392 : x_Lok xM xN RX12 392 2 4448 := ⟨_, rfl, mkJ9_floorMod_7cf53, x_in 1920 rfl rfl, x_in 1242 rfl rfl, mpJ9_floorMod_7cf53⟩
set_option maxRecDepth 100000 in
theorem kmX12_395 : x_Lok xM xN RX12 395 0 4412 := ⟨_, rfl, mkX12_gullsThat, x_in 1937 rfl rfl, x_in 1939 rfl rfl, x_in 87 rfl rfl, ⟨(RX12, TX12, 48), rfl, rfl⟩, 1, rfl, mpX12_gullsThat⟩
set_option maxRecDepth 100000 in
def KX12 : xK := (RX12, [(9, 25344), (13, 25347), (16, 25348), (19, 25351), (23, 25353), (26, 25361), (29, 25362), (32, 25363), (35, 25366), (38, 25370), (41, 25371), (44, 25373), (47, 25378), (50, 25379), (53, 25380), (56, 25381), (59, 25382), (62, 25384), (65, 25385), (68, 25389), (71, 25390), (75, 25391), (78, 779), (82, 778), (85, 769), (92, 770), (95, 776), (98, 8972), (101, 781), (104, 782), (107, 783), (110, 784), (151, 796), (154, 812), (175, 4885), (179, 788), (182, 773), (210, 774), (223, 791), (226, 792), (229, 793), (283, 798), (291, 799), (294, 800), (297, 801), (364, 13095), (382, 811), (389, 810)], [(3, 6, 0), (88, 2, 2748), (113, 0, 2924), (117, 0, 2908), (121, 0, 2956), (125, 0, 2940), (129, 0, 2988), (133, 0, 3004), (137, 0, 3036), (140, 0, 2972), (144, 0, 2892), (148, 0, 3052), (157, 0, 3020), (160, 0, 3116), (163, 0, 3132), (166, 0, 3164), (169, 0, 3100), (172, 2, 3148), (185, 2, 4496), (190, 2, 4480), (193, 0, 2812), (197, 0, 2780), (200, 2, 3260), (204, 0, 2828), (207, 0, 2844), (213, 2, 4464), (216, 0, 3324), (219, 0, 3340), (232, 0, 3308), (236, 0, 3404), (240, 0, 3356), (244, 0, 3196), (247, 2, 3372), (251, 2, 3420), (255, 0, 3452), (258, 0, 3436), (261, 0, 3468), (264, 0, 3500), (267, 2, 3516), (271, 0, 3564), (274, 0, 3580), (277, 0, 3628), (280, 0, 3388), (286, 2, 4512), (300, 0, 2796), (303, 0, 3724), (306, 0, 3676), (309, 0, 3660), (312, 0, 3692), (315, 0, 3756), (318, 0, 3772), (321, 2, 3804), (324, 2, 2764), (328, 0, 3836), (331, 2, 3884), (335, 2, 3948), (338, 0, 3980), (341, 0, 3996), (344, 2, 4012), (347, 0, 4028), (351, 0, 4060), (354, 0, 4108), (357, 0, 4140), (360, 0, 4188), (370, 2, 4252), (374, 0, 4268), (386, 0, 4300), (392, 2, 4448), (395, 0, 4412)], [], [], [(350, 1000000), (385, 1103515245)], [(368, 10), (378, -1), (380, 10000)])
set_option maxRecDepth 100000 in
theorem k1X12 : ∀ q ∈ KX12.2.1, x_Fok KX12.1 q.1 q.2 := List.forall_mem_cons.mpr ⟨kfX12_9, List.forall_mem_cons.mpr ⟨kfX12_13, List.forall_mem_cons.mpr ⟨kfX12_16, List.forall_mem_cons.mpr ⟨kfX12_19, List.forall_mem_cons.mpr ⟨kfX12_23, List.forall_mem_cons.mpr ⟨kfX12_26, List.forall_mem_cons.mpr ⟨kfX12_29, List.forall_mem_cons.mpr ⟨kfX12_32, List.forall_mem_cons.mpr ⟨kfX12_35, List.forall_mem_cons.mpr ⟨kfX12_38, List.forall_mem_cons.mpr ⟨kfX12_41, List.forall_mem_cons.mpr ⟨kfX12_44, List.forall_mem_cons.mpr ⟨kfX12_47, List.forall_mem_cons.mpr ⟨kfX12_50, List.forall_mem_cons.mpr ⟨kfX12_53, List.forall_mem_cons.mpr ⟨kfX12_56, List.forall_mem_cons.mpr ⟨kfX12_59, List.forall_mem_cons.mpr ⟨kfX12_62, List.forall_mem_cons.mpr ⟨kfX12_65, List.forall_mem_cons.mpr ⟨kfX12_68, List.forall_mem_cons.mpr ⟨kfX12_71, List.forall_mem_cons.mpr ⟨kfX12_75, List.forall_mem_cons.mpr ⟨kfX12_78, List.forall_mem_cons.mpr ⟨kfX12_82, List.forall_mem_cons.mpr ⟨kfX12_85, List.forall_mem_cons.mpr ⟨kfX12_92, List.forall_mem_cons.mpr ⟨kfX12_95, List.forall_mem_cons.mpr ⟨kfX12_98, List.forall_mem_cons.mpr ⟨kfX12_101, List.forall_mem_cons.mpr ⟨kfX12_104, List.forall_mem_cons.mpr ⟨kfX12_107, List.forall_mem_cons.mpr ⟨kfX12_110, List.forall_mem_cons.mpr ⟨kfX12_151, List.forall_mem_cons.mpr ⟨kfX12_154, List.forall_mem_cons.mpr ⟨kfX12_175, List.forall_mem_cons.mpr ⟨kfX12_179, List.forall_mem_cons.mpr ⟨kfX12_182, List.forall_mem_cons.mpr ⟨kfX12_210, List.forall_mem_cons.mpr ⟨kfX12_223, List.forall_mem_cons.mpr ⟨kfX12_226, List.forall_mem_cons.mpr ⟨kfX12_229, List.forall_mem_cons.mpr ⟨kfX12_283, List.forall_mem_cons.mpr ⟨kfX12_291, List.forall_mem_cons.mpr ⟨kfX12_294, List.forall_mem_cons.mpr ⟨kfX12_297, List.forall_mem_cons.mpr ⟨kfX12_364, List.forall_mem_cons.mpr ⟨kfX12_382, List.forall_mem_cons.mpr ⟨kfX12_389, fun _ h => absurd h List.not_mem_nil⟩⟩⟩⟩⟩⟩⟩⟩⟩⟩⟩⟩⟩⟩⟩⟩⟩⟩⟩⟩⟩⟩⟩⟩⟩⟩⟩⟩⟩⟩⟩⟩⟩⟩⟩⟩⟩⟩⟩⟩⟩⟩⟩⟩⟩⟩⟩⟩
set_option maxRecDepth 100000 in
theorem k2X12 : ∀ q ∈ KX12.2.2.1, if q.2.1 = 6 then x_Ook KX12.1 q.1 else x_Lok xM xN KX12.1 q.1 q.2.1 q.2.2 := List.forall_mem_cons.mpr ⟨kmX12_3, List.forall_mem_cons.mpr ⟨kmX12_88, List.forall_mem_cons.mpr ⟨kmX12_113, List.forall_mem_cons.mpr ⟨kmX12_117, List.forall_mem_cons.mpr ⟨kmX12_121, List.forall_mem_cons.mpr ⟨kmX12_125, List.forall_mem_cons.mpr ⟨kmX12_129, List.forall_mem_cons.mpr ⟨kmX12_133, List.forall_mem_cons.mpr ⟨kmX12_137, List.forall_mem_cons.mpr ⟨kmX12_140, List.forall_mem_cons.mpr ⟨kmX12_144, List.forall_mem_cons.mpr ⟨kmX12_148, List.forall_mem_cons.mpr ⟨kmX12_157, List.forall_mem_cons.mpr ⟨kmX12_160, List.forall_mem_cons.mpr ⟨kmX12_163, List.forall_mem_cons.mpr ⟨kmX12_166, List.forall_mem_cons.mpr ⟨kmX12_169, List.forall_mem_cons.mpr ⟨kmX12_172, List.forall_mem_cons.mpr ⟨kmX12_185, List.forall_mem_cons.mpr ⟨kmX12_190, List.forall_mem_cons.mpr ⟨kmX12_193, List.forall_mem_cons.mpr ⟨kmX12_197, List.forall_mem_cons.mpr ⟨kmX12_200, List.forall_mem_cons.mpr ⟨kmX12_204, List.forall_mem_cons.mpr ⟨kmX12_207, List.forall_mem_cons.mpr ⟨kmX12_213, List.forall_mem_cons.mpr ⟨kmX12_216, List.forall_mem_cons.mpr ⟨kmX12_219, List.forall_mem_cons.mpr ⟨kmX12_232, List.forall_mem_cons.mpr ⟨kmX12_236, List.forall_mem_cons.mpr ⟨kmX12_240, List.forall_mem_cons.mpr ⟨kmX12_244, List.forall_mem_cons.mpr ⟨kmX12_247, List.forall_mem_cons.mpr ⟨kmX12_251, List.forall_mem_cons.mpr ⟨kmX12_255, List.forall_mem_cons.mpr ⟨kmX12_258, List.forall_mem_cons.mpr ⟨kmX12_261, List.forall_mem_cons.mpr ⟨kmX12_264, List.forall_mem_cons.mpr ⟨kmX12_267, List.forall_mem_cons.mpr ⟨kmX12_271, List.forall_mem_cons.mpr ⟨kmX12_274, List.forall_mem_cons.mpr ⟨kmX12_277, List.forall_mem_cons.mpr ⟨kmX12_280, List.forall_mem_cons.mpr ⟨kmX12_286, List.forall_mem_cons.mpr ⟨kmX12_300, List.forall_mem_cons.mpr ⟨kmX12_303, List.forall_mem_cons.mpr ⟨kmX12_306, List.forall_mem_cons.mpr ⟨kmX12_309, List.forall_mem_cons.mpr ⟨kmX12_312, List.forall_mem_cons.mpr ⟨kmX12_315, List.forall_mem_cons.mpr ⟨kmX12_318, List.forall_mem_cons.mpr ⟨kmX12_321, List.forall_mem_cons.mpr ⟨kmX12_324, List.forall_mem_cons.mpr ⟨kmX12_328, List.forall_mem_cons.mpr ⟨kmX12_331, List.forall_mem_cons.mpr ⟨kmX12_335, List.forall_mem_cons.mpr ⟨kmX12_338, List.forall_mem_cons.mpr ⟨kmX12_341, List.forall_mem_cons.mpr ⟨kmX12_344, List.forall_mem_cons.mpr ⟨kmX12_347, List.forall_mem_cons.mpr ⟨kmX12_351, List.forall_mem_cons.mpr ⟨kmX12_354, List.forall_mem_cons.mpr ⟨kmX12_357, List.forall_mem_cons.mpr ⟨kmX12_360, List.forall_mem_cons.mpr ⟨kmX12_370, List.forall_mem_cons.mpr ⟨kmX12_374, List.forall_mem_cons.mpr ⟨kmX12_386, List.forall_mem_cons.mpr ⟨kmX12_392, List.forall_mem_cons.mpr ⟨kmX12_395, fun _ h => absurd h List.not_mem_nil⟩⟩⟩⟩⟩⟩⟩⟩⟩⟩⟩⟩⟩⟩⟩⟩⟩⟩⟩⟩⟩⟩⟩⟩⟩⟩⟩⟩⟩⟩⟩⟩⟩⟩⟩⟩⟩⟩⟩⟩⟩⟩⟩⟩⟩⟩⟩⟩⟩⟩⟩⟩⟩⟩⟩⟩⟩⟩⟩⟩⟩⟩⟩⟩⟩⟩⟩⟩⟩
set_option maxRecDepth 100000 in
theorem k3X12 : ∀ q ∈ KX12.2.2.2.1, x_Nok KX12.1 q.1 q.2 := fun _ h => absurd h List.not_mem_nil
set_option maxRecDepth 100000 in
theorem k4X12 : ∀ q ∈ KX12.2.2.2.2.1, x_Aok KX12.1 q.1 q.2 := fun _ h => absurd h List.not_mem_nil
set_option maxRecDepth 100000 in
theorem k5X12 : ∀ q ∈ KX12.2.2.2.2.2.1, Cond.constant KX12.1 q.1 (Int32.ofInt q.2) ∈ xT ∧ xin q.2 := List.forall_mem_cons.mpr ⟨⟨x_in 1848 rfl rfl, by unfold xin; decide⟩, List.forall_mem_cons.mpr ⟨⟨x_in 1911 rfl rfl, by unfold xin; decide⟩, fun _ h => absurd h List.not_mem_nil⟩⟩
set_option maxRecDepth 100000 in
theorem k6X12 : ∀ q ∈ KX12.2.2.2.2.2.2, Cond.constantLong KX12.1 q.1 (Int64.ofInt q.2) ∈ xT ∧ xlin q.2 := List.forall_mem_cons.mpr ⟨⟨x_in 1899 rfl rfl, by unfold xlin; decide⟩, List.forall_mem_cons.mpr ⟨⟨x_in 1893 rfl rfl, by unfold xlin; decide⟩, List.forall_mem_cons.mpr ⟨⟨x_in 1894 rfl rfl, by unfold xlin; decide⟩, fun _ h => absurd h List.not_mem_nil⟩⟩⟩
set_option maxRecDepth 100000 in
theorem kkX12 : x_Kok xM xN KX12 := ⟨k1X12, k2X12, k3X12, k4X12, k5X12, k6X12⟩
set_option maxRecDepth 100000 in
def KJ9 : xK := (RJ9, [], [], [], [], [], [])
set_option maxRecDepth 100000 in
theorem k1J9 : ∀ q ∈ KJ9.2.1, x_Fok KJ9.1 q.1 q.2 := fun _ h => absurd h List.not_mem_nil
set_option maxRecDepth 100000 in
theorem k2J9 : ∀ q ∈ KJ9.2.2.1, if q.2.1 = 6 then x_Ook KJ9.1 q.1 else x_Lok xM xN KJ9.1 q.1 q.2.1 q.2.2 := fun _ h => absurd h List.not_mem_nil
set_option maxRecDepth 100000 in
theorem k3J9 : ∀ q ∈ KJ9.2.2.2.1, x_Nok KJ9.1 q.1 q.2 := fun _ h => absurd h List.not_mem_nil
set_option maxRecDepth 100000 in
theorem k4J9 : ∀ q ∈ KJ9.2.2.2.2.1, x_Aok KJ9.1 q.1 q.2 := fun _ h => absurd h List.not_mem_nil
set_option maxRecDepth 100000 in
theorem k5J9 : ∀ q ∈ KJ9.2.2.2.2.2.1, Cond.constant KJ9.1 q.1 (Int32.ofInt q.2) ∈ xT ∧ xin q.2 := fun _ h => absurd h List.not_mem_nil
set_option maxRecDepth 100000 in
theorem k6J9 : ∀ q ∈ KJ9.2.2.2.2.2.2, Cond.constantLong KJ9.1 q.1 (Int64.ofInt q.2) ∈ xT ∧ xlin q.2 := fun _ h => absurd h List.not_mem_nil
set_option maxRecDepth 100000 in
theorem kkJ9 : x_Kok xM xN KJ9 := ⟨k1J9, k2J9, k3J9, k4J9, k5J9, k6J9⟩
set_option maxRecDepth 100000 in
def KJ6 : xK := (RJ6, [], [], [], [], [(265, 1431655765), (266, 858993459), (267, 252645135)], [])
set_option maxRecDepth 100000 in
theorem k1J6 : ∀ q ∈ KJ6.2.1, x_Fok KJ6.1 q.1 q.2 := fun _ h => absurd h List.not_mem_nil
set_option maxRecDepth 100000 in
theorem k2J6 : ∀ q ∈ KJ6.2.2.1, if q.2.1 = 6 then x_Ook KJ6.1 q.1 else x_Lok xM xN KJ6.1 q.1 q.2.1 q.2.2 := fun _ h => absurd h List.not_mem_nil
set_option maxRecDepth 100000 in
theorem k3J6 : ∀ q ∈ KJ6.2.2.2.1, x_Nok KJ6.1 q.1 q.2 := fun _ h => absurd h List.not_mem_nil
set_option maxRecDepth 100000 in
theorem k4J6 : ∀ q ∈ KJ6.2.2.2.2.1, x_Aok KJ6.1 q.1 q.2 := fun _ h => absurd h List.not_mem_nil
set_option maxRecDepth 100000 in
theorem k5J6 : ∀ q ∈ KJ6.2.2.2.2.2.1, Cond.constant KJ6.1 q.1 (Int32.ofInt q.2) ∈ xT ∧ xin q.2 := List.forall_mem_cons.mpr ⟨⟨x_in 1134 rfl rfl, by unfold xin; decide⟩, List.forall_mem_cons.mpr ⟨⟨x_in 1135 rfl rfl, by unfold xin; decide⟩, List.forall_mem_cons.mpr ⟨⟨x_in 1136 rfl rfl, by unfold xin; decide⟩, fun _ h => absurd h List.not_mem_nil⟩⟩⟩
set_option maxRecDepth 100000 in
theorem k6J6 : ∀ q ∈ KJ6.2.2.2.2.2.2, Cond.constantLong KJ6.1 q.1 (Int64.ofInt q.2) ∈ xT ∧ xlin q.2 := fun _ h => absurd h List.not_mem_nil
set_option maxRecDepth 100000 in
theorem kkJ6 : x_Kok xM xN KJ6 := ⟨k1J6, k2J6, k3J6, k4J6, k5J6, k6J6⟩
set_option maxRecDepth 100000 in
def KJ7 : xK := (RJ7, [], [], [], [], [], [])
set_option maxRecDepth 100000 in
theorem k1J7 : ∀ q ∈ KJ7.2.1, x_Fok KJ7.1 q.1 q.2 := fun _ h => absurd h List.not_mem_nil
set_option maxRecDepth 100000 in
theorem k2J7 : ∀ q ∈ KJ7.2.2.1, if q.2.1 = 6 then x_Ook KJ7.1 q.1 else x_Lok xM xN KJ7.1 q.1 q.2.1 q.2.2 := fun _ h => absurd h List.not_mem_nil
set_option maxRecDepth 100000 in
theorem k3J7 : ∀ q ∈ KJ7.2.2.2.1, x_Nok KJ7.1 q.1 q.2 := fun _ h => absurd h List.not_mem_nil
set_option maxRecDepth 100000 in
theorem k4J7 : ∀ q ∈ KJ7.2.2.2.2.1, x_Aok KJ7.1 q.1 q.2 := fun _ h => absurd h List.not_mem_nil
set_option maxRecDepth 100000 in
theorem k5J7 : ∀ q ∈ KJ7.2.2.2.2.2.1, Cond.constant KJ7.1 q.1 (Int32.ofInt q.2) ∈ xT ∧ xin q.2 := fun _ h => absurd h List.not_mem_nil
set_option maxRecDepth 100000 in
theorem k6J7 : ∀ q ∈ KJ7.2.2.2.2.2.2, Cond.constantLong KJ7.1 q.1 (Int64.ofInt q.2) ∈ xT ∧ xlin q.2 := fun _ h => absurd h List.not_mem_nil
set_option maxRecDepth 100000 in
theorem kkJ7 : x_Kok xM xN KJ7 := ⟨k1J7, k2J7, k3J7, k4J7, k5J7, k6J7⟩
set_option maxRecDepth 100000 in
def KL : xK := (RL, [], [], [], [], [], [])
set_option maxRecDepth 100000 in
theorem k1L : ∀ q ∈ KL.2.1, x_Fok KL.1 q.1 q.2 := fun _ h => absurd h List.not_mem_nil
set_option maxRecDepth 100000 in
theorem k2L : ∀ q ∈ KL.2.2.1, if q.2.1 = 6 then x_Ook KL.1 q.1 else x_Lok xM xN KL.1 q.1 q.2.1 q.2.2 := fun _ h => absurd h List.not_mem_nil
set_option maxRecDepth 100000 in
theorem k3L : ∀ q ∈ KL.2.2.2.1, x_Nok KL.1 q.1 q.2 := fun _ h => absurd h List.not_mem_nil
set_option maxRecDepth 100000 in
theorem k4L : ∀ q ∈ KL.2.2.2.2.1, x_Aok KL.1 q.1 q.2 := fun _ h => absurd h List.not_mem_nil
set_option maxRecDepth 100000 in
theorem k5L : ∀ q ∈ KL.2.2.2.2.2.1, Cond.constant KL.1 q.1 (Int32.ofInt q.2) ∈ xT ∧ xin q.2 := fun _ h => absurd h List.not_mem_nil
set_option maxRecDepth 100000 in
theorem k6L : ∀ q ∈ KL.2.2.2.2.2.2, Cond.constantLong KL.1 q.1 (Int64.ofInt q.2) ∈ xT ∧ xlin q.2 := fun _ h => absurd h List.not_mem_nil
set_option maxRecDepth 100000 in
theorem kkL : x_Kok xM xN KL := ⟨k1L, k2L, k3L, k4L, k5L, k6L⟩
set_option maxRecDepth 100000 in
theorem x_arr : x_arrs := ⟨x_in 168 rfl rfl, x_in 754 rfl rfl, x_in 145 rfl rfl, x_in 439 rfl rfl, x_in 391 rfl rfl⟩
