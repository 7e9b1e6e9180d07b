/-! ===== all methods, to a depth of calls ===== -/
abbrev xBt : Type := Nat × (xG → List xV → xH → Option (Option xV × xH))
def xB0 : xBt := (0, fun _ _ _ => none)
noncomputable def xB_0 : List xBt := [(1, fun G => x_run 1 (fX0_init G)),
  (2, fun G => x_run 2 (fX0_copyFrom G)),
  (2, fun G => x_run 2 (fX0_readLine G)),
  (2, fun G => x_run 2 (fX0_readCourse G)),
  (1, fun G => x_run 1 (fX0_sail G)),
  (1, fun G => x_run 1 (fX1_init G)),
  (2, fun G => x_run 3 (fX1_read G)),
  (2, fun G => x_run 3 (fX1_readAct G)),
  (1, fun G => x_run 1 (fX2_init G)),
  (2, fun G => x_run 2 (fX2_start G)),
  (2, fun G => x_run 2 (fX2_next G)),
  (1, fun G => x_run 1 (fX3_init G)),
  (2, fun G => x_run 2 (fX3_copyFrom G)),
  (4, fun G => x_run 4 (fX3_hatch G)),
  (1, fun G => x_run 1 (fX3_restAshore G)),
  (4, fun G => x_run 6 (fX3_flyTowards G)),
  (2, fun G => x_run 3 (fX4_init G)),
  (1, fun G => x_run 1 (fX4_size G)),
  (1, fun G => x_run 1 (fX4_forget G)),
  (2, fun G => x_run 2 (fX4_mark G)),
  (1, fun G => x_run 1 (fX4_hold G)),
  (2, fun G => x_run 2 (fX4_back G)),
  (1, fun G => x_run 1 (fX5_init G)),
  (2, fun G => x_run 2 (fX5_copyFrom G)),
  (3, fun G => x_run 3 (fX5_put G)),
  (1, fun G => x_run 1 (fX5_isHome G)),
  (1, fun G => x_run 1 (fX6_init G)),
  (2, fun G => x_run 3 (fX6_read G)),
  (3, fun G => x_run 4 (fX6_readComparison G)),
  (3, fun G => x_run 5 (fX6_readSum G)),
  (3, fun G => x_run 5 (fX6_readProduct G)),
  (3, fun G => x_run 5 (fX6_readFactor G)),
  (3, fun G => x_run 6 (fX6_readThing G)),
  (2, fun G => x_run 2 (fX6_put G)),
  (2, fun G => x_run 3 (fX6_reckon G)),
  (2, fun G => x_run 6 (fX6_run G)),
  (3, fun G => x_run 3 (fX6_join G)),
  (2, fun G => x_run 3 (fX7_init G)),
  (2, fun G => x_run 3 (fX7_copyFrom G)),
  (1, fun G => x_run 1 (fX7_clearTally G))]
noncomputable def xB_1 : List xBt := [(2, fun G => x_run 2 (fX7_hasBoat G)),
  (2, fun G => x_run 2 (fX7_hasGull G)),
  (2, fun G => x_run 2 (fX7_hasLetter G)),
  (3, fun G => x_run 3 (fX7_isGull G)),
  (2, fun G => x_run 4 (fX7_gullsThat G)),
  (2, fun G => x_run 4 (fX7_livingGullsOf G)),
  (2, fun G => x_run 4 (fX7_lettersAt G)),
  (2, fun G => x_run 4 (fX7_lettersOnDeckOf G)),
  (5, fun G => x_run 9 (fX7_hungerBySheet G)),
  (2, fun G => x_run 2 (fX7_narrowed G)),
  (2, fun G => x_run 3 (fX7_addLetter G)),
  (3, fun G => x_run 4 (fX7_sendOut G)),
  (3, fun G => x_run 4 (fX7_repaint G)),
  (2, fun G => x_run 2 (fX7_learn G)),
  (3, fun G => x_run 4 (fX7_putChum G)),
  (2, fun G => x_run 2 (fX7_turnChum G)),
  (2, fun G => x_run 3 (fX7_chumAloneBy G)),
  (2, fun G => x_run 3 (fX7_fill G)),
  (2, fun G => x_run 4 (fX7_pass G)),
  (2, fun G => x_run 3 (fX7_flyToDeck G)),
  (1, fun G => x_run 2 (fX7_sailAll G)),
  (2, fun G => x_run 3 (fX7_goalOf G)),
  (4, fun G => x_run 8 (fX7_nearestBoat G)),
  (3, fun G => x_run 5 (fX7_farFrom G)),
  (3, fun G => x_run 4 (fX7_reach G)),
  (2, fun G => x_run 6 (fX7_fly G)),
  (3, fun G => x_run 4 (fX7_comeAboard G)),
  (2, fun G => x_run 3 (fX7_starve G)),
  (4, fun G => x_run 4 (fX7_putLetter G)),
  (1, fun G => x_run 1 (fX8_init G)),
  (3, fun G => x_run 5 (fX8_watch G)),
  (3, fun G => x_run 7 (fX8_heardBy G)),
  (3, fun G => x_run 6 (fX8_spread G)),
  (3, fun G => x_run 7 (fX8_afterShouts G)),
  (1, fun G => x_run 3 (fX8_allKnow G)),
  (2, fun G => x_run 2 (fX8_keepFor G)),
  (2, fun G => x_run 7 (fX8_allKnowBy G)),
  (1, fun G => x_run 1 (fX9_init G)),
  (1, fun G => x_run 1 (fX9_length G)),
  (1, fun G => x_run 1 (fX9_isEmpty G))]
noncomputable def xB_2 : List xBt := [(2, fun G => x_run 3 (fX9_add G)),
  (2, fun G => x_run 2 (fX9_cut G)),
  (2, fun G => x_run 2 (fX9_open G)),
  (1, fun G => x_run 1 (fX9_peek G)),
  (2, fun G => x_run 2 (fX9_signAt G)),
  (1, fun G => x_run 1 (fX9_isAtEnd G)),
  (1, fun G => x_run 1 (fX9_skip G)),
  (2, fun G => x_run 2 (fX9_take G)),
  (2, fun G => x_run 2 (fX9_need G)),
  (1, fun G => x_run 1 (fX9_refuse G)),
  (3, fun G => x_run 4 (fX9_isDigit G)),
  (3, fun G => x_run 4 (fX9_digit G)),
  (1, fun G => x_run 2 (fX9_coordinate G)),
  (2, fun G => x_run 3 (fX9_boatLetter G)),
  (1, fun G => x_run 1 (fX9_faultSoFar G)),
  (1, fun G => x_run 2 (fX9_close G)),
  (1, fun G => x_run 1 (fX10_init G)),
  (4, fun G => x_run 7 (fX10_find G)),
  (2, fun G => x_run 3 (fX10_reckonPowers G)),
  (1, fun G => x_run 5 (fX10_chanceOfTried G)),
  (1, fun G => x_run 3 (fX10_goToNextRow G)),
  (1, fun G => x_run 2 (fX11_init G)),
  (2, fun G => x_run 2 (fX11_sign G)),
  (2, fun G => x_run 2 (fX11_end G)),
  (1, fun G => x_run 3 (fX11_fleet G)),
  (1, fun G => x_run 3 (fX11_gulls G)),
  (1, fun G => x_run 1 (fX11_rule G)),
  (3, fun G => x_run 4 (fX11_boat G)),
  (3, fun G => x_run 4 (fX11_gull G)),
  (3, fun G => x_run 4 (fX11_letter G)),
  (3, fun G => x_run 4 (fX11_weather G)),
  (5, fun G => x_run 5 (fX11_sheet G)),
  (1, fun G => x_run 4 (fX11_readBoats G)),
  (1, fun G => x_run 4 (fX11_readGulls G)),
  (2, fun G => x_run 4 (fX11_readGull G)),
  (2, fun G => x_run 2 (fX11_write G)),
  (3, fun G => x_run 3 (fX11_send G)),
  (3, fun G => x_run 3 (fX11_paint G)),
  (2, fun G => x_run 2 (fX11_show G)),
  (3, fun G => x_run 3 (fX11_chum G))]
noncomputable def xB_3 : List xBt := [(2, fun G => x_run 2 (fX11_feed G)),
  (1, fun G => x_run 1 (fX11_half G)),
  (2, fun G => x_run 2 (fX11_halves G)),
  (1, fun G => x_run 3 (fX11_day G)),
  (1, fun G => x_run 1 (fX11_undo G)),
  (2, fun G => x_run 2 (fX11_held G)),
  (2, fun G => x_run 2 (fX11_passAndTell G)),
  (4, fun G => x_run 4 (fX11_perform G)),
  (3, fun G => x_run 5 (fX11_where G)),
  (2, fun G => x_run 2 (fX11_comes G)),
  (2, fun G => x_run 2 (fX11_would G)),
  (2, fun G => x_run 4 (fX11_delivers G)),
  (2, fun G => x_run 5 (fX11_due G)),
  (2, fun G => x_run 4 (fX11_heads G)),
  (3, fun G => x_run 9 (fX11_nearest G)),
  (1, fun G => x_run 1 (fX11_lookAhead G)),
  (2, fun G => x_run 3 (fX11_arrivalTold G)),
  (4, fun G => x_run 8 (fX11_shouted G)),
  (3, fun G => x_run 4 (fX11_spreads G)),
  (2, fun G => x_run 6 (fX11_teller G)),
  (3, fun G => x_run 9 (fX11_order G)),
  (2, fun G => x_run 2 (fX11_isShout G)),
  (2, fun G => x_run 2 (fX11_areBoats G)),
  (2, fun G => x_run 2 (fX11_watchFleet G)),
  (2, fun G => x_run 5 (fX11_tellByGulls G)),
  (2, fun G => x_run 6 (fX11_thief G)),
  (1, fun G => x_run 5 (fX11_astray G)),
  (2, fun G => x_run 6 (fX11_newOnWrongDecks G)),
  (3, fun G => x_run 7 (fX11_fits G)),
  (2, fun G => x_run 4 (fX11_ring G)),
  (4, fun G => x_run 8 (fX11_metJustNow G)),
  (1, fun G => x_run 3 (fX11_lonely G)),
  (3, fun G => x_run 4 (fX11_train G)),
  (2, fun G => x_run 5 (fX11_codes G)),
  (3, fun G => x_run 3 (fX11_slip G)),
  (5, fun G => x_run 7 (fX11_opens G)),
  (3, fun G => x_run 3 (fX11_isSlip G)),
  (4, fun G => x_run 5 (fX11_season G)),
  (2, fun G => x_run 2 (fX11_keep G)),
  (2, fun G => x_run 2 (fX11_again G))]
noncomputable def xB_4 : List xBt := [(2, fun G => x_run 2 (fX11_count G)),
  (2, fun G => x_run 2 (fX11_row G)),
  (2, fun G => x_run 2 (fX11_tellMore G)),
  (2, fun G => x_run 2 (fX11_tellOne G)),
  (3, fun G => x_run 3 (fX11_tellTwo G)),
  (4, fun G => x_run 4 (fX11_tellThree G)),
  (4, fun G => x_run 4 (fX11_apart G)),
  (1, fun G => x_run 1 (fX11_isAtSea G)),
  (2, fun G => x_run 2 (fX11_cellNumber G)),
  (1, fun G => x_run 1 (fX12_init G)),
  (1, fun G => x_run 1 (fX12_thrown G)),
  (3, fun G => x_run 3 (fX12_in G)),
  (2, fun G => x_run 2 (fX12_has G)),
  (1, fun G => x_run 1 (fX12_lost G)),
  (2, fun G => x_run 2 (fX12_tell G)),
  (2, fun G => x_run 2 (fX12_isBoat G)),
  (2, fun G => x_run 2 (fX12_isGull G)),
  (2, fun G => x_run 2 (fX12_isLetter G)),
  (2, fun G => x_run 3 (fX12_sign G)),
  (2, fun G => x_run 2 (fX12_end G)),
  (4, fun G => x_run 4 (fX12_begin G)),
  (1, fun G => x_run 1 (fX12_here G)),
  (1, fun G => x_run 1 (fX12_fine G)),
  (2, fun G => x_run 2 (fX12_fault G)),
  (2, fun G => x_run 2 (fX12_passes G)),
  (2, fun G => x_run 2 (fX12_need G)),
  (3, fun G => x_run 3 (fX12_digit G)),
  (2, fun G => x_run 4 (fX12_number G)),
  (2, fun G => x_run 2 (fX12_letter G)),
  (1, fun G => x_run 2 (fX12_cell G)),
  (2, fun G => x_run 6 (fX12_readBoat G)),
  (1, fun G => x_run 4 (fX12_fleet G)),
  (1, fun G => x_run 4 (fX12_gulls G)),
  (2, fun G => x_run 3 (fX12_held G)),
  (2, fun G => x_run 5 (fX12_sum G)),
  (2, fun G => x_run 5 (fX12_product G)),
  (1, fun G => x_run 1 (fX12_letterOf G)),
  (2, fun G => x_run 4 (fX12_thing G)),
  (1, fun G => x_run 3 (fX12_rule G)),
  (4, fun G => x_run 5 (fX12_rangeOf G))]
noncomputable def xB_5 : List xBt := [(3, fun G => x_run 3 (fX12_boat G)),
  (3, fun G => x_run 3 (fX12_gull G)),
  (3, fun G => x_run 3 (fX12_letter_ G)),
  (3, fun G => x_run 5 (fX12_lettersAt G)),
  (3, fun G => x_run 4 (fX12_weather G)),
  (5, fun G => x_run 9 (fX12_sheet G)),
  (2, fun G => x_run 3 (fX12_goBoats G)),
  (4, fun G => x_run 6 (fX12_farTo G)),
  (4, fun G => x_run 6 (fX12_nearestTo G)),
  (3, fun G => x_run 4 (fX12_aimOf G)),
  (3, fun G => x_run 3 (fX12_toward G)),
  (2, fun G => x_run 3 (fX12_goHalf G)),
  (3, fun G => x_run 9 (fX12_goGull G)),
  (3, fun G => x_run 4 (fX12_lay G)),
  (2, fun G => x_run 3 (fX12_remember G)),
  (2, fun G => x_run 2 (fX12_refusesWrite G)),
  (2, fun G => x_run 3 (fX12_goWrite G)),
  (2, fun G => x_run 3 (fX12_write G)),
  (3, fun G => x_run 3 (fX12_refusesSend G)),
  (3, fun G => x_run 3 (fX12_goSend G)),
  (3, fun G => x_run 4 (fX12_send G)),
  (3, fun G => x_run 4 (fX12_paint G)),
  (2, fun G => x_run 2 (fX12_refusesRest G)),
  (2, fun G => x_run 2 (fX12_goShow G)),
  (2, fun G => x_run 3 (fX12_show G)),
  (3, fun G => x_run 4 (fX12_chum G)),
  (2, fun G => x_run 3 (fX12_goFeed G)),
  (2, fun G => x_run 3 (fX12_feed G)),
  (3, fun G => x_run 4 (fX12_goHalves G)),
  (1, fun G => x_run 1 (fX12_beginHalves G)),
  (1, fun G => x_run 1 (fX12_tellHalves G)),
  (1, fun G => x_run 1 (fX12_half G)),
  (2, fun G => x_run 2 (fX12_halves G)),
  (1, fun G => x_run 4 (fX12_day G)),
  (2, fun G => x_run 3 (fX12_readAct G)),
  (4, fun G => x_run 4 (fX12_act G)),
  (1, fun G => x_run 2 (fX12_undo G)),
  (1, fun G => x_run 1 (fX12_isLook G)),
  (3, fun G => x_run 4 (fX12_where G)),
  (2, fun G => x_run 3 (fX12_comesThen G))]
noncomputable def xB_6 : List xBt := [(2, fun G => x_run 2 (fX12_comes G)),
  (2, fun G => x_run 2 (fX12_would G)),
  (2, fun G => x_run 4 (fX12_onDeck G)),
  (2, fun G => x_run 3 (fX12_delivers G)),
  (2, fun G => x_run 5 (fX12_due G)),
  (2, fun G => x_run 4 (fX12_heads G)),
  (3, fun G => x_run 3 (fX12_apart G)),
  (3, fun G => x_run 6 (fX12_nearest G)),
  (4, fun G => x_run 9 (fX12_shoutOn G)),
  (2, fun G => x_run 2 (fX12_areBoats G)),
  (1, fun G => x_run 1 (fX12_isShout G)),
  (4, fun G => x_run 7 (fX12_shoutFor G)),
  (4, fun G => x_run 6 (fX12_shouted G)),
  (3, fun G => x_run 5 (fX12_allKnow G)),
  (3, fun G => x_run 4 (fX12_spreads G)),
  (2, fun G => x_run 6 (fX12_teller G)),
  (4, fun G => x_run 9 (fX12_ordered G)),
  (3, fun G => x_run 8 (fX12_order G)),
  (3, fun G => x_run 5 (fX12_stolen G)),
  (2, fun G => x_run 6 (fX12_thief G)),
  (1, fun G => x_run 5 (fX12_astray G)),
  (5, fun G => x_run 13 (fX12_comesJust G)),
  (3, fun G => x_run 10 (fX12_fits G)),
  (2, fun G => x_run 4 (fX12_ring G)),
  (1, fun G => x_run 6 (fX12_lonely G)),
  (2, fun G => x_run 6 (fX12_power G)),
  (5, fun G => x_run 7 (fX12_goTrain G)),
  (3, fun G => x_run 4 (fX12_train G)),
  (2, fun G => x_run 2 (fX12_draw G)),
  (2, fun G => x_run 4 (fX12_codes G)),
  (3, fun G => x_run 3 (fX12_slip G)),
  (5, fun G => x_run 7 (fX12_opens G)),
  (4, fun G => x_run 8 (fX12_season G)),
  (2, fun G => x_run 2 (fX12_keep G)),
  (2, fun G => x_run 3 (fX12_again G)),
  (2, fun G => x_run 4 (fX12_gullsThat G)),
  (2, fun G => x_run 2 (fX12_count G)),
  (2, fun G => x_run 2 (fX12_row G)),
  (2, fun G => x_run 3 (fJ9_floorMod_7cf53 G)),
  (1, fun G => x_run 1 (fJ9_abs_0f7a4 G))]
noncomputable def xB_7 : List xBt := [(2, fun G => x_run 2 (fJ9_max_7cf53 G)),
  (2, fun G => x_run 2 (fJ9_min_7cf53 G)),
  (1, fun G => x_run 1 (fJ6_bitCount_0f7a4 G)),
  (2, fun G => x_run 4 (fJ7_fill_53178 G))]
noncomputable def xB : List xBt := xB_0 ++ (xB_1 ++ (xB_2 ++ (xB_3 ++ (xB_4 ++ (xB_5 ++ (xB_6 ++ (xB_7)))))))
/-- the methods, calls to a depth of n -/
noncomputable def gg : Nat → xG
  | 0 => fun mi => ((xB.getD mi xB0).1, fun _ _ => none)
  | n + 1 => fun mi => ((xB.getD mi xB0).1, (xB.getD mi xB0).2 (gg n))
theorem x_none {nest : List (String × Nat × MethodName)} {l : Launch} {D : va_G} {y : xMi} {d : Nat} : x_Snd nest l D y (fun _ _ => none) d := fun a H r H' h => by cases h
def x_all2 (P : xMi → xBt → Prop) : List xMi → List xBt → Prop
  | [], [] => True
  | y :: ys, b :: bs => P y b ∧ x_all2 P ys bs
  | _, _ => False
theorem x_all2_get {P : xMi → xBt → Prop} : ∀ {ys : List xMi} {bs : List xBt}, x_all2 P ys bs → ∀ {i : Nat} {y : xMi}, ys[i]? = some y → ∃ b, bs[i]? = some b ∧ P y b
  | [], [], _, i, y, h => by simp at h
  | y :: ys, b :: bs, hA, 0, z, h => by cases h; exact ⟨b, rfl, hA.1⟩
  | y :: ys, b :: bs, hA, i + 1, z, h => by
    rw [List.getElem?_cons_succ] at h ⊢
    exact x_all2_get hA.2 h
  | [], b :: bs, hA, i, y, h => by cases hA
  | y :: ys, [], hA, i, z, h => by cases hA
theorem x_all2_len {P : xMi → xBt → Prop} : ∀ {ys : List xMi} {bs : List xBt}, x_all2 P ys bs → ys.length = bs.length
  | [], [], _ => rfl
  | y :: ys, b :: bs, hA => by rw [List.length_cons, List.length_cons, x_all2_len hA.2]
  | [], b :: bs, hA => by cases hA
  | y :: ys, [], hA => by cases hA
set_option maxRecDepth 100000 in
theorem xb_0 {d : Nat} {l : Launch} {D : va_G} {G : xG} (hG : x_Gok xM xN l D G d) (hd : 4 ≤ d) : x_all2 (fun y b => b.1 = y.2.2.2.2 ∧ x_Snd xN l D y (b.2 G) d) [(yX0_init, cX0_init, 1, none, 1), (yX0_copyFrom, cX0_copyFrom, 2, none, 2), (yX0_readLine, cX0_readLine, 2, none, 2), (yX0_readCourse, cX0_readCourse, 2, none, 2), (yX0_sail, cX0_sail, 1, none, 1), (yX1_init, cX1_init, 1, none, 1), (yX1_read, cX1_read, 3, (some .int), 2), (yX1_readAct, cX1_readAct, 3, none, 2), (yX2_init, cX2_init, 1, none, 1), (yX2_start, cX2_start, 2, none, 2), (yX2_next, cX2_next, 2, (some .int), 2), (yX3_init, cX3_init, 1, none, 1), (yX3_copyFrom, cX3_copyFrom, 2, none, 2), (yX3_hatch, cX3_hatch, 4, none, 4), (yX3_restAshore, cX3_restAshore, 1, none, 1), (yX3_flyTowards, cX3_flyTowards, 6, none, 4), (yX4_init, cX4_init, 3, none, 2), (yX4_size, cX4_size, 1, (some .int), 1), (yX4_forget, cX4_forget, 1, none, 1), (yX4_mark, cX4_mark, 2, none, 2), (yX4_hold, cX4_hold, 1, none, 1), (yX4_back, cX4_back, 2, none, 2), (yX5_init, cX5_init, 1, none, 1), (yX5_copyFrom, cX5_copyFrom, 2, none, 2), (yX5_put, cX5_put, 3, none, 3), (yX5_isHome, cX5_isHome, 1, (some .boolean), 1), (yX6_init, cX6_init, 1, none, 1), (yX6_read, cX6_read, 3, (some .int), 2), (yX6_readComparison, cX6_readComparison, 4, none, 3), (yX6_readSum, cX6_readSum, 5, none, 3), (yX6_readProduct, cX6_readProduct, 5, none, 3), (yX6_readFactor, cX6_readFactor, 5, none, 3), (yX6_readThing, cX6_readThing, 6, none, 3), (yX6_put, cX6_put, 2, none, 2), (yX6_reckon, cX6_reckon, 3, (some .int), 2), (yX6_run, cX6_run, 6, (some .int), 2), (yX6_join, cX6_join, 3, (some .int), 3), (yX7_init, cX7_init, 3, none, 2), (yX7_copyFrom, cX7_copyFrom, 3, none, 2), (yX7_clearTally, cX7_clearTally, 1, none, 1)] xB_0 := And.intro ⟨rfl, sX0_init hG (Nat.le_trans (by decide) hd)⟩ (And.intro ⟨rfl, sX0_copyFrom hG (Nat.le_trans (by decide) hd)⟩ (And.intro ⟨rfl, sX0_readLine hG (Nat.le_trans (by decide) hd)⟩ (And.intro ⟨rfl, sX0_readCourse hG (Nat.le_trans (by decide) hd)⟩ (And.intro ⟨rfl, sX0_sail hG (Nat.le_trans (by decide) hd)⟩ (And.intro ⟨rfl, sX1_init hG (Nat.le_trans (by decide) hd)⟩ (And.intro ⟨rfl, sX1_read hG (Nat.le_trans (by decide) hd)⟩ (And.intro ⟨rfl, sX1_readAct hG (Nat.le_trans (by decide) hd)⟩ (And.intro ⟨rfl, sX2_init hG (Nat.le_trans (by decide) hd)⟩ (And.intro ⟨rfl, sX2_start hG (Nat.le_trans (by decide) hd)⟩ (And.intro ⟨rfl, sX2_next hG (Nat.le_trans (by decide) hd)⟩ (And.intro ⟨rfl, sX3_init hG (Nat.le_trans (by decide) hd)⟩ (And.intro ⟨rfl, sX3_copyFrom hG (Nat.le_trans (by decide) hd)⟩ (And.intro ⟨rfl, sX3_hatch hG (Nat.le_trans (by decide) hd)⟩ (And.intro ⟨rfl, sX3_restAshore hG (Nat.le_trans (by decide) hd)⟩ (And.intro ⟨rfl, sX3_flyTowards hG (Nat.le_trans (by decide) hd)⟩ (And.intro ⟨rfl, sX4_init hG (Nat.le_trans (by decide) hd)⟩ (And.intro ⟨rfl, sX4_size hG (Nat.le_trans (by decide) hd)⟩ (And.intro ⟨rfl, sX4_forget hG (Nat.le_trans (by decide) hd)⟩ (And.intro ⟨rfl, sX4_mark hG (Nat.le_trans (by decide) hd)⟩ (And.intro ⟨rfl, sX4_hold hG (Nat.le_trans (by decide) hd)⟩ (And.intro ⟨rfl, sX4_back hG (Nat.le_trans (by decide) hd)⟩ (And.intro ⟨rfl, sX5_init hG (Nat.le_trans (by decide) hd)⟩ (And.intro ⟨rfl, sX5_copyFrom hG (Nat.le_trans (by decide) hd)⟩ (And.intro ⟨rfl, sX5_put hG (Nat.le_trans (by decide) hd)⟩ (And.intro ⟨rfl, sX5_isHome hG (Nat.le_trans (by decide) hd)⟩ (And.intro ⟨rfl, sX6_init hG (Nat.le_trans (by decide) hd)⟩ (And.intro ⟨rfl, sX6_read hG (Nat.le_trans (by decide) hd)⟩ (And.intro ⟨rfl, sX6_readComparison hG (Nat.le_trans (by decide) hd)⟩ (And.intro ⟨rfl, sX6_readSum hG (Nat.le_trans (by decide) hd)⟩ (And.intro ⟨rfl, sX6_readProduct hG (Nat.le_trans (by decide) hd)⟩ (And.intro ⟨rfl, sX6_readFactor hG (Nat.le_trans (by decide) hd)⟩ (And.intro ⟨rfl, sX6_readThing hG hd⟩ (And.intro ⟨rfl, sX6_put hG (Nat.le_trans (by decide) hd)⟩ (And.intro ⟨rfl, sX6_reckon hG (Nat.le_trans (by decide) hd)⟩ (And.intro ⟨rfl, sX6_run hG (Nat.le_trans (by decide) hd)⟩ (And.intro ⟨rfl, sX6_join hG (Nat.le_trans (by decide) hd)⟩ (And.intro ⟨rfl, sX7_init hG (Nat.le_trans (by decide) hd)⟩ (And.intro ⟨rfl, sX7_copyFrom hG (Nat.le_trans (by decide) hd)⟩ (And.intro ⟨rfl, sX7_clearTally hG (Nat.le_trans (by decide) hd)⟩ (trivial))))))))))))))))))))))))))))))))))))))))
set_option maxRecDepth 100000 in
theorem xb_1 {d : Nat} {l : Launch} {D : va_G} {G : xG} (hG : x_Gok xM xN l D G d) (hd : 4 ≤ d) : x_all2 (fun y b => b.1 = y.2.2.2.2 ∧ x_Snd xN l D y (b.2 G) d) [(yX7_hasBoat, cX7_hasBoat, 2, (some .boolean), 2), (yX7_hasGull, cX7_hasGull, 2, (some .boolean), 2), (yX7_hasLetter, cX7_hasLetter, 2, (some .boolean), 2), (yX7_isGull, cX7_isGull, 3, (some .boolean), 3), (yX7_gullsThat, cX7_gullsThat, 4, (some .int), 2), (yX7_livingGullsOf, cX7_livingGullsOf, 4, (some .int), 2), (yX7_lettersAt, cX7_lettersAt, 4, (some .int), 2), (yX7_lettersOnDeckOf, cX7_lettersOnDeckOf, 4, (some .int), 2), (yX7_hungerBySheet, cX7_hungerBySheet, 9, (some .int), 5), (yX7_narrowed, cX7_narrowed, 2, (some .int), 2), (yX7_addLetter, cX7_addLetter, 3, (some .int), 2), (yX7_sendOut, cX7_sendOut, 4, (some .int), 3), (yX7_repaint, cX7_repaint, 4, (some .int), 3), (yX7_learn, cX7_learn, 2, (some .int), 2), (yX7_putChum, cX7_putChum, 4, (some .int), 3), (yX7_turnChum, cX7_turnChum, 2, (some .int), 2), (yX7_chumAloneBy, cX7_chumAloneBy, 3, none, 2), (yX7_fill, cX7_fill, 3, (some .int), 2), (yX7_pass, cX7_pass, 4, none, 2), (yX7_flyToDeck, cX7_flyToDeck, 3, (some .int), 2), (yX7_sailAll, cX7_sailAll, 2, none, 1), (yX7_goalOf, cX7_goalOf, 3, (some .int), 2), (yX7_nearestBoat, cX7_nearestBoat, 8, (some .int), 4), (yX7_farFrom, cX7_farFrom, 5, (some .int), 3), (yX7_reach, cX7_reach, 4, (some .int), 3), (yX7_fly, cX7_fly, 6, none, 2), (yX7_comeAboard, cX7_comeAboard, 4, none, 3), (yX7_starve, cX7_starve, 3, none, 2), (yX7_putLetter, cX7_putLetter, 4, none, 4), (yX8_init, cX8_init, 1, none, 1), (yX8_watch, cX8_watch, 5, none, 3), (yX8_heardBy, cX8_heardBy, 7, (some .int), 3), (yX8_spread, cX8_spread, 6, none, 3), (yX8_afterShouts, cX8_afterShouts, 7, (some .int), 3), (yX8_allKnow, cX8_allKnow, 3, (some .int), 1), (yX8_keepFor, cX8_keepFor, 2, none, 2), (yX8_allKnowBy, cX8_allKnowBy, 7, (some .int), 2), (yX9_init, cX9_init, 1, none, 1), (yX9_length, cX9_length, 1, (some .int), 1), (yX9_isEmpty, cX9_isEmpty, 1, (some .boolean), 1)] xB_1 := And.intro ⟨rfl, sX7_hasBoat hG (Nat.le_trans (by decide) hd)⟩ (And.intro ⟨rfl, sX7_hasGull hG (Nat.le_trans (by decide) hd)⟩ (And.intro ⟨rfl, sX7_hasLetter hG (Nat.le_trans (by decide) hd)⟩ (And.intro ⟨rfl, sX7_isGull hG (Nat.le_trans (by decide) hd)⟩ (And.intro ⟨rfl, sX7_gullsThat hG (Nat.le_trans (by decide) hd)⟩ (And.intro ⟨rfl, sX7_livingGullsOf hG (Nat.le_trans (by decide) hd)⟩ (And.intro ⟨rfl, sX7_lettersAt hG (Nat.le_trans (by decide) hd)⟩ (And.intro ⟨rfl, sX7_lettersOnDeckOf hG (Nat.le_trans (by decide) hd)⟩ (And.intro ⟨rfl, sX7_hungerBySheet hG (Nat.le_trans (by decide) hd)⟩ (And.intro ⟨rfl, sX7_narrowed hG (Nat.le_trans (by decide) hd)⟩ (And.intro ⟨rfl, sX7_addLetter hG (Nat.le_trans (by decide) hd)⟩ (And.intro ⟨rfl, sX7_sendOut hG (Nat.le_trans (by decide) hd)⟩ (And.intro ⟨rfl, sX7_repaint hG (Nat.le_trans (by decide) hd)⟩ (And.intro ⟨rfl, sX7_learn hG (Nat.le_trans (by decide) hd)⟩ (And.intro ⟨rfl, sX7_putChum hG (Nat.le_trans (by decide) hd)⟩ (And.intro ⟨rfl, sX7_turnChum hG (Nat.le_trans (by decide) hd)⟩ (And.intro ⟨rfl, sX7_chumAloneBy hG (Nat.le_trans (by decide) hd)⟩ (And.intro ⟨rfl, sX7_fill hG (Nat.le_trans (by decide) hd)⟩ (And.intro ⟨rfl, sX7_pass hG (Nat.le_trans (by decide) hd)⟩ (And.intro ⟨rfl, sX7_flyToDeck hG (Nat.le_trans (by decide) hd)⟩ (And.intro ⟨rfl, sX7_sailAll hG (Nat.le_trans (by decide) hd)⟩ (And.intro ⟨rfl, sX7_goalOf hG (Nat.le_trans (by decide) hd)⟩ (And.intro ⟨rfl, sX7_nearestBoat hG (Nat.le_trans (by decide) hd)⟩ (And.intro ⟨rfl, sX7_farFrom hG (Nat.le_trans (by decide) hd)⟩ (And.intro ⟨rfl, sX7_reach hG (Nat.le_trans (by decide) hd)⟩ (And.intro ⟨rfl, sX7_fly hG (Nat.le_trans (by decide) hd)⟩ (And.intro ⟨rfl, sX7_comeAboard hG (Nat.le_trans (by decide) hd)⟩ (And.intro ⟨rfl, sX7_starve hG (Nat.le_trans (by decide) hd)⟩ (And.intro ⟨rfl, sX7_putLetter hG (Nat.le_trans (by decide) hd)⟩ (And.intro ⟨rfl, sX8_init hG (Nat.le_trans (by decide) hd)⟩ (And.intro ⟨rfl, sX8_watch hG (Nat.le_trans (by decide) hd)⟩ (And.intro ⟨rfl, sX8_heardBy hG (Nat.le_trans (by decide) hd)⟩ (And.intro ⟨rfl, sX8_spread hG (Nat.le_trans (by decide) hd)⟩ (And.intro ⟨rfl, sX8_afterShouts hG (Nat.le_trans (by decide) hd)⟩ (And.intro ⟨rfl, sX8_allKnow hG (Nat.le_trans (by decide) hd)⟩ (And.intro ⟨rfl, sX8_keepFor hG (Nat.le_trans (by decide) hd)⟩ (And.intro ⟨rfl, sX8_allKnowBy hG (Nat.le_trans (by decide) hd)⟩ (And.intro ⟨rfl, sX9_init hG (Nat.le_trans (by decide) hd)⟩ (And.intro ⟨rfl, sX9_length hG (Nat.le_trans (by decide) hd)⟩ (And.intro ⟨rfl, sX9_isEmpty hG (Nat.le_trans (by decide) hd)⟩ (trivial))))))))))))))))))))))))))))))))))))))))
set_option maxRecDepth 100000 in
theorem xb_2 {d : Nat} {l : Launch} {D : va_G} {G : xG} (hG : x_Gok xM xN l D G d) (hd : 4 ≤ d) : x_all2 (fun y b => b.1 = y.2.2.2.2 ∧ x_Snd xN l D y (b.2 G) d) [(yX9_add, cX9_add, 3, (some .int), 2), (yX9_cut, cX9_cut, 2, (some .boolean), 2), (yX9_open, cX9_open, 2, none, 2), (yX9_peek, cX9_peek, 1, (some .int), 1), (yX9_signAt, cX9_signAt, 2, (some .int), 2), (yX9_isAtEnd, cX9_isAtEnd, 1, (some .boolean), 1), (yX9_skip, cX9_skip, 1, none, 1), (yX9_take, cX9_take, 2, (some .boolean), 2), (yX9_need, cX9_need, 2, none, 2), (yX9_refuse, cX9_refuse, 1, none, 1), (yX9_isDigit, cX9_isDigit, 4, (some .boolean), 3), (yX9_digit, cX9_digit, 4, (some .int), 3), (yX9_coordinate, cX9_coordinate, 2, (some .int), 1), (yX9_boatLetter, cX9_boatLetter, 3, (some .int), 2), (yX9_faultSoFar, cX9_faultSoFar, 1, (some .int), 1), (yX9_close, cX9_close, 2, (some .int), 1), (yX10_init, cX10_init, 1, none, 1), (yX10_find, cX10_find, 7, none, 4), (yX10_reckonPowers, cX10_reckonPowers, 3, none, 2), (yX10_chanceOfTried, cX10_chanceOfTried, 5, (some .int), 1), (yX10_goToNextRow, cX10_goToNextRow, 3, (some .boolean), 1), (yX11_init, cX11_init, 2, none, 1), (yX11_sign, cX11_sign, 2, (some .int), 2), (yX11_end, cX11_end, 2, (some .boolean), 2), (yX11_fleet, cX11_fleet, 3, (some .int), 1), (yX11_gulls, cX11_gulls, 3, (some .int), 1), (yX11_rule, cX11_rule, 1, (some .int), 1), (yX11_boat, cX11_boat, 4, (some .int), 3), (yX11_gull, cX11_gull, 4, (some .int), 3), (yX11_letter, cX11_letter, 4, (some .int), 3), (yX11_weather, cX11_weather, 4, (some .int), 3), (yX11_sheet, cX11_sheet, 5, (some .int), 5), (yX11_readBoats, cX11_readBoats, 4, (some .int), 1), (yX11_readGulls, cX11_readGulls, 4, (some .int), 1), (yX11_readGull, cX11_readGull, 4, none, 2), (yX11_write, cX11_write, 2, (some .int), 2), (yX11_send, cX11_send, 3, (some .int), 3), (yX11_paint, cX11_paint, 3, (some .int), 3), (yX11_show, cX11_show, 2, (some .int), 2), (yX11_chum, cX11_chum, 3, (some .int), 3)] xB_2 := And.intro ⟨rfl, sX9_add hG (Nat.le_trans (by decide) hd)⟩ (And.intro ⟨rfl, sX9_cut hG (Nat.le_trans (by decide) hd)⟩ (And.intro ⟨rfl, sX9_open hG (Nat.le_trans (by decide) hd)⟩ (And.intro ⟨rfl, sX9_peek hG (Nat.le_trans (by decide) hd)⟩ (And.intro ⟨rfl, sX9_signAt hG (Nat.le_trans (by decide) hd)⟩ (And.intro ⟨rfl, sX9_isAtEnd hG (Nat.le_trans (by decide) hd)⟩ (And.intro ⟨rfl, sX9_skip hG (Nat.le_trans (by decide) hd)⟩ (And.intro ⟨rfl, sX9_take hG (Nat.le_trans (by decide) hd)⟩ (And.intro ⟨rfl, sX9_need hG (Nat.le_trans (by decide) hd)⟩ (And.intro ⟨rfl, sX9_refuse hG (Nat.le_trans (by decide) hd)⟩ (And.intro ⟨rfl, sX9_isDigit hG (Nat.le_trans (by decide) hd)⟩ (And.intro ⟨rfl, sX9_digit hG (Nat.le_trans (by decide) hd)⟩ (And.intro ⟨rfl, sX9_coordinate hG (Nat.le_trans (by decide) hd)⟩ (And.intro ⟨rfl, sX9_boatLetter hG (Nat.le_trans (by decide) hd)⟩ (And.intro ⟨rfl, sX9_faultSoFar hG (Nat.le_trans (by decide) hd)⟩ (And.intro ⟨rfl, sX9_close hG (Nat.le_trans (by decide) hd)⟩ (And.intro ⟨rfl, sX10_init hG (Nat.le_trans (by decide) hd)⟩ (And.intro ⟨rfl, sX10_find hG (Nat.le_trans (by decide) hd)⟩ (And.intro ⟨rfl, sX10_reckonPowers hG (Nat.le_trans (by decide) hd)⟩ (And.intro ⟨rfl, sX10_chanceOfTried hG (Nat.le_trans (by decide) hd)⟩ (And.intro ⟨rfl, sX10_goToNextRow hG (Nat.le_trans (by decide) hd)⟩ (And.intro ⟨rfl, sX11_init hG (Nat.le_trans (by decide) hd)⟩ (And.intro ⟨rfl, sX11_sign hG (Nat.le_trans (by decide) hd)⟩ (And.intro ⟨rfl, sX11_end hG (Nat.le_trans (by decide) hd)⟩ (And.intro ⟨rfl, sX11_fleet hG (Nat.le_trans (by decide) hd)⟩ (And.intro ⟨rfl, sX11_gulls hG (Nat.le_trans (by decide) hd)⟩ (And.intro ⟨rfl, sX11_rule hG (Nat.le_trans (by decide) hd)⟩ (And.intro ⟨rfl, sX11_boat hG (Nat.le_trans (by decide) hd)⟩ (And.intro ⟨rfl, sX11_gull hG (Nat.le_trans (by decide) hd)⟩ (And.intro ⟨rfl, sX11_letter hG (Nat.le_trans (by decide) hd)⟩ (And.intro ⟨rfl, sX11_weather hG (Nat.le_trans (by decide) hd)⟩ (And.intro ⟨rfl, sX11_sheet hG (Nat.le_trans (by decide) hd)⟩ (And.intro ⟨rfl, sX11_readBoats hG (Nat.le_trans (by decide) hd)⟩ (And.intro ⟨rfl, sX11_readGulls hG (Nat.le_trans (by decide) hd)⟩ (And.intro ⟨rfl, sX11_readGull hG (Nat.le_trans (by decide) hd)⟩ (And.intro ⟨rfl, sX11_write hG (Nat.le_trans (by decide) hd)⟩ (And.intro ⟨rfl, sX11_send hG (Nat.le_trans (by decide) hd)⟩ (And.intro ⟨rfl, sX11_paint hG (Nat.le_trans (by decide) hd)⟩ (And.intro ⟨rfl, sX11_show hG (Nat.le_trans (by decide) hd)⟩ (And.intro ⟨rfl, sX11_chum hG (Nat.le_trans (by decide) hd)⟩ (trivial))))))))))))))))))))))))))))))))))))))))
set_option maxRecDepth 100000 in
theorem xb_3 {d : Nat} {l : Launch} {D : va_G} {G : xG} (hG : x_Gok xM xN l D G d) (hd : 4 ≤ d) : x_all2 (fun y b => b.1 = y.2.2.2.2 ∧ x_Snd xN l D y (b.2 G) d) [(yX11_feed, cX11_feed, 2, (some .int), 2), (yX11_half, cX11_half, 1, (some .int), 1), (yX11_halves, cX11_halves, 2, (some .int), 2), (yX11_day, cX11_day, 3, (some .int), 1), (yX11_undo, cX11_undo, 1, (some .int), 1), (yX11_held, cX11_held, 2, (some .int), 2), (yX11_passAndTell, cX11_passAndTell, 2, (some .int), 2), (yX11_perform, cX11_perform, 4, (some .int), 4), (yX11_where, cX11_where, 5, (some .int), 3), (yX11_comes, cX11_comes, 2, (some .int), 2), (yX11_would, cX11_would, 2, (some .int), 2), (yX11_delivers, cX11_delivers, 4, (some .int), 2), (yX11_due, cX11_due, 5, (some .int), 2), (yX11_heads, cX11_heads, 4, (some .int), 2), (yX11_nearest, cX11_nearest, 9, (some .int), 3), (yX11_lookAhead, cX11_lookAhead, 1, none, 1), (yX11_arrivalTold, cX11_arrivalTold, 3, (some .int), 2), (yX11_shouted, cX11_shouted, 8, (some .int), 4), (yX11_spreads, cX11_spreads, 4, (some .int), 3), (yX11_teller, cX11_teller, 6, (some .int), 2), (yX11_order, cX11_order, 9, (some .int), 3), (yX11_isShout, cX11_isShout, 2, (some .boolean), 2), (yX11_areBoats, cX11_areBoats, 2, (some .boolean), 2), (yX11_watchFleet, cX11_watchFleet, 2, none, 2), (yX11_tellByGulls, cX11_tellByGulls, 5, (some .int), 2), (yX11_thief, cX11_thief, 6, (some .int), 2), (yX11_astray, cX11_astray, 5, (some .int), 1), (yX11_newOnWrongDecks, cX11_newOnWrongDecks, 6, (some .int), 2), (yX11_fits, cX11_fits, 7, (some .int), 3), (yX11_ring, cX11_ring, 4, (some .int), 2), (yX11_metJustNow, cX11_metJustNow, 8, (some .boolean), 4), (yX11_lonely, cX11_lonely, 3, (some .int), 1), (yX11_train, cX11_train, 4, (some .int), 3), (yX11_codes, cX11_codes, 5, (some .int), 2), (yX11_slip, cX11_slip, 3, (some .int), 3), (yX11_opens, cX11_opens, 7, (some .int), 5), (yX11_isSlip, cX11_isSlip, 3, (some .boolean), 3), (yX11_season, cX11_season, 5, (some .int), 4), (yX11_keep, cX11_keep, 2, (some .boolean), 2), (yX11_again, cX11_again, 2, (some .boolean), 2)] xB_3 := And.intro ⟨rfl, sX11_feed hG (Nat.le_trans (by decide) hd)⟩ (And.intro ⟨rfl, sX11_half hG (Nat.le_trans (by decide) hd)⟩ (And.intro ⟨rfl, sX11_halves hG (Nat.le_trans (by decide) hd)⟩ (And.intro ⟨rfl, sX11_day hG (Nat.le_trans (by decide) hd)⟩ (And.intro ⟨rfl, sX11_undo hG (Nat.le_trans (by decide) hd)⟩ (And.intro ⟨rfl, sX11_held hG (Nat.le_trans (by decide) hd)⟩ (And.intro ⟨rfl, sX11_passAndTell hG (Nat.le_trans (by decide) hd)⟩ (And.intro ⟨rfl, sX11_perform hG (Nat.le_trans (by decide) hd)⟩ (And.intro ⟨rfl, sX11_where hG (Nat.le_trans (by decide) hd)⟩ (And.intro ⟨rfl, sX11_comes hG (Nat.le_trans (by decide) hd)⟩ (And.intro ⟨rfl, sX11_would hG (Nat.le_trans (by decide) hd)⟩ (And.intro ⟨rfl, sX11_delivers hG (Nat.le_trans (by decide) hd)⟩ (And.intro ⟨rfl, sX11_due hG (Nat.le_trans (by decide) hd)⟩ (And.intro ⟨rfl, sX11_heads hG (Nat.le_trans (by decide) hd)⟩ (And.intro ⟨rfl, sX11_nearest hG (Nat.le_trans (by decide) hd)⟩ (And.intro ⟨rfl, sX11_lookAhead hG (Nat.le_trans (by decide) hd)⟩ (And.intro ⟨rfl, sX11_arrivalTold hG (Nat.le_trans (by decide) hd)⟩ (And.intro ⟨rfl, sX11_shouted hG (Nat.le_trans (by decide) hd)⟩ (And.intro ⟨rfl, sX11_spreads hG (Nat.le_trans (by decide) hd)⟩ (And.intro ⟨rfl, sX11_teller hG (Nat.le_trans (by decide) hd)⟩ (And.intro ⟨rfl, sX11_order hG (Nat.le_trans (by decide) hd)⟩ (And.intro ⟨rfl, sX11_isShout hG (Nat.le_trans (by decide) hd)⟩ (And.intro ⟨rfl, sX11_areBoats hG (Nat.le_trans (by decide) hd)⟩ (And.intro ⟨rfl, sX11_watchFleet hG (Nat.le_trans (by decide) hd)⟩ (And.intro ⟨rfl, sX11_tellByGulls hG (Nat.le_trans (by decide) hd)⟩ (And.intro ⟨rfl, sX11_thief hG (Nat.le_trans (by decide) hd)⟩ (And.intro ⟨rfl, sX11_astray hG (Nat.le_trans (by decide) hd)⟩ (And.intro ⟨rfl, sX11_newOnWrongDecks hG (Nat.le_trans (by decide) hd)⟩ (And.intro ⟨rfl, sX11_fits hG (Nat.le_trans (by decide) hd)⟩ (And.intro ⟨rfl, sX11_ring hG (Nat.le_trans (by decide) hd)⟩ (And.intro ⟨rfl, sX11_metJustNow hG (Nat.le_trans (by decide) hd)⟩ (And.intro ⟨rfl, sX11_lonely hG (Nat.le_trans (by decide) hd)⟩ (And.intro ⟨rfl, sX11_train hG (Nat.le_trans (by decide) hd)⟩ (And.intro ⟨rfl, sX11_codes hG (Nat.le_trans (by decide) hd)⟩ (And.intro ⟨rfl, sX11_slip hG (Nat.le_trans (by decide) hd)⟩ (And.intro ⟨rfl, sX11_opens hG (Nat.le_trans (by decide) hd)⟩ (And.intro ⟨rfl, sX11_isSlip hG (Nat.le_trans (by decide) hd)⟩ (And.intro ⟨rfl, sX11_season hG (Nat.le_trans (by decide) hd)⟩ (And.intro ⟨rfl, sX11_keep hG (Nat.le_trans (by decide) hd)⟩ (And.intro ⟨rfl, sX11_again hG (Nat.le_trans (by decide) hd)⟩ (trivial))))))))))))))))))))))))))))))))))))))))
set_option maxRecDepth 100000 in
theorem xb_4 {d : Nat} {l : Launch} {D : va_G} {G : xG} (hG : x_Gok xM xN l D G d) (hd : 4 ≤ d) : x_all2 (fun y b => b.1 = y.2.2.2.2 ∧ x_Snd xN l D y (b.2 G) d) [(yX11_count, cX11_count, 2, (some .int), 2), (yX11_row, cX11_row, 2, (some .int), 2), (yX11_tellMore, cX11_tellMore, 2, none, 2), (yX11_tellOne, cX11_tellOne, 2, none, 2), (yX11_tellTwo, cX11_tellTwo, 3, none, 3), (yX11_tellThree, cX11_tellThree, 4, none, 4), (yX11_apart, cX11_apart, 4, (some .int), 4), (yX11_isAtSea, cX11_isAtSea, 1, (some .boolean), 1), (yX11_cellNumber, cX11_cellNumber, 2, (some .int), 2), (yX12_init, cX12_init, 1, none, 1), (yX12_thrown, cX12_thrown, 1, (some .int), 1), (yX12_in, cX12_in, 3, (some .boolean), 3), (yX12_has, cX12_has, 2, (some .boolean), 2), (yX12_lost, cX12_lost, 1, (some .int), 1), (yX12_tell, cX12_tell, 2, none, 2), (yX12_isBoat, cX12_isBoat, 2, (some .boolean), 2), (yX12_isGull, cX12_isGull, 2, (some .boolean), 2), (yX12_isLetter, cX12_isLetter, 2, (some .boolean), 2), (yX12_sign, cX12_sign, 3, (some .int), 2), (yX12_end, cX12_end, 2, (some .boolean), 2), (yX12_begin, cX12_begin, 4, none, 4), (yX12_here, cX12_here, 1, (some .int), 1), (yX12_fine, cX12_fine, 1, (some .boolean), 1), (yX12_fault, cX12_fault, 2, none, 2), (yX12_passes, cX12_passes, 2, (some .boolean), 2), (yX12_need, cX12_need, 2, none, 2), (yX12_digit, cX12_digit, 3, (some .int), 3), (yX12_number, cX12_number, 4, (some .int), 2), (yX12_letter, cX12_letter, 2, (some .int), 2), (yX12_cell, cX12_cell, 2, (some .int), 1), (yX12_readBoat, cX12_readBoat, 6, none, 2), (yX12_fleet, cX12_fleet, 4, (some .int), 1), (yX12_gulls, cX12_gulls, 4, (some .int), 1), (yX12_held, cX12_held, 3, (some .int), 2), (yX12_sum, cX12_sum, 5, (some .int), 2), (yX12_product, cX12_product, 5, (some .int), 2), (yX12_letterOf, cX12_letterOf, 1, (some .int), 1), (yX12_thing, cX12_thing, 4, (some .int), 2), (yX12_rule, cX12_rule, 3, (some .int), 1), (yX12_rangeOf, cX12_rangeOf, 5, (some .int), 4)] xB_4 := And.intro ⟨rfl, sX11_count hG (Nat.le_trans (by decide) hd)⟩ (And.intro ⟨rfl, sX11_row hG (Nat.le_trans (by decide) hd)⟩ (And.intro ⟨rfl, sX11_tellMore hG (Nat.le_trans (by decide) hd)⟩ (And.intro ⟨rfl, sX11_tellOne hG (Nat.le_trans (by decide) hd)⟩ (And.intro ⟨rfl, sX11_tellTwo hG (Nat.le_trans (by decide) hd)⟩ (And.intro ⟨rfl, sX11_tellThree hG (Nat.le_trans (by decide) hd)⟩ (And.intro ⟨rfl, sX11_apart hG (Nat.le_trans (by decide) hd)⟩ (And.intro ⟨rfl, sX11_isAtSea hG (Nat.le_trans (by decide) hd)⟩ (And.intro ⟨rfl, sX11_cellNumber hG (Nat.le_trans (by decide) hd)⟩ (And.intro ⟨rfl, sX12_init hG (Nat.le_trans (by decide) hd)⟩ (And.intro ⟨rfl, sX12_thrown hG (Nat.le_trans (by decide) hd)⟩ (And.intro ⟨rfl, sX12_in hG (Nat.le_trans (by decide) hd)⟩ (And.intro ⟨rfl, sX12_has hG (Nat.le_trans (by decide) hd)⟩ (And.intro ⟨rfl, sX12_lost hG (Nat.le_trans (by decide) hd)⟩ (And.intro ⟨rfl, sX12_tell hG (Nat.le_trans (by decide) hd)⟩ (And.intro ⟨rfl, sX12_isBoat hG (Nat.le_trans (by decide) hd)⟩ (And.intro ⟨rfl, sX12_isGull hG (Nat.le_trans (by decide) hd)⟩ (And.intro ⟨rfl, sX12_isLetter hG (Nat.le_trans (by decide) hd)⟩ (And.intro ⟨rfl, sX12_sign hG (Nat.le_trans (by decide) hd)⟩ (And.intro ⟨rfl, sX12_end hG (Nat.le_trans (by decide) hd)⟩ (And.intro ⟨rfl, sX12_begin hG (Nat.le_trans (by decide) hd)⟩ (And.intro ⟨rfl, sX12_here hG (Nat.le_trans (by decide) hd)⟩ (And.intro ⟨rfl, sX12_fine hG (Nat.le_trans (by decide) hd)⟩ (And.intro ⟨rfl, sX12_fault hG (Nat.le_trans (by decide) hd)⟩ (And.intro ⟨rfl, sX12_passes hG (Nat.le_trans (by decide) hd)⟩ (And.intro ⟨rfl, sX12_need hG (Nat.le_trans (by decide) hd)⟩ (And.intro ⟨rfl, sX12_digit hG (Nat.le_trans (by decide) hd)⟩ (And.intro ⟨rfl, sX12_number hG (Nat.le_trans (by decide) hd)⟩ (And.intro ⟨rfl, sX12_letter hG (Nat.le_trans (by decide) hd)⟩ (And.intro ⟨rfl, sX12_cell hG (Nat.le_trans (by decide) hd)⟩ (And.intro ⟨rfl, sX12_readBoat hG (Nat.le_trans (by decide) hd)⟩ (And.intro ⟨rfl, sX12_fleet hG (Nat.le_trans (by decide) hd)⟩ (And.intro ⟨rfl, sX12_gulls hG (Nat.le_trans (by decide) hd)⟩ (And.intro ⟨rfl, sX12_held hG (Nat.le_trans (by decide) hd)⟩ (And.intro ⟨rfl, sX12_sum hG (Nat.le_trans (by decide) hd)⟩ (And.intro ⟨rfl, sX12_product hG (Nat.le_trans (by decide) hd)⟩ (And.intro ⟨rfl, sX12_letterOf hG (Nat.le_trans (by decide) hd)⟩ (And.intro ⟨rfl, sX12_thing hG (Nat.le_trans (by decide) hd)⟩ (And.intro ⟨rfl, sX12_rule hG (Nat.le_trans (by decide) hd)⟩ (And.intro ⟨rfl, sX12_rangeOf hG (Nat.le_trans (by decide) hd)⟩ (trivial))))))))))))))))))))))))))))))))))))))))
set_option maxRecDepth 100000 in
theorem xb_5 {d : Nat} {l : Launch} {D : va_G} {G : xG} (hG : x_Gok xM xN l D G d) (hd : 4 ≤ d) : x_all2 (fun y b => b.1 = y.2.2.2.2 ∧ x_Snd xN l D y (b.2 G) d) [(yX12_boat, cX12_boat, 3, (some .int), 3), (yX12_gull, cX12_gull, 3, (some .int), 3), (yX12_letter_, cX12_letter_, 3, (some .int), 3), (yX12_lettersAt, cX12_lettersAt, 5, (some .int), 3), (yX12_weather, cX12_weather, 4, (some .int), 3), (yX12_sheet, cX12_sheet, 9, (some .int), 5), (yX12_goBoats, cX12_goBoats, 3, none, 2), (yX12_farTo, cX12_farTo, 6, (some .int), 4), (yX12_nearestTo, cX12_nearestTo, 6, (some .int), 4), (yX12_aimOf, cX12_aimOf, 4, (some .int), 3), (yX12_toward, cX12_toward, 3, (some .int), 3), (yX12_goHalf, cX12_goHalf, 3, none, 2), (yX12_goGull, cX12_goGull, 9, none, 3), (yX12_lay, cX12_lay, 4, none, 3), (yX12_remember, cX12_remember, 3, none, 2), (yX12_refusesWrite, cX12_refusesWrite, 2, (some .int), 2), (yX12_goWrite, cX12_goWrite, 3, (some .int), 2), (yX12_write, cX12_write, 3, (some .int), 2), (yX12_refusesSend, cX12_refusesSend, 3, (some .int), 3), (yX12_goSend, cX12_goSend, 3, none, 3), (yX12_send, cX12_send, 4, (some .int), 3), (yX12_paint, cX12_paint, 4, (some .int), 3), (yX12_refusesRest, cX12_refusesRest, 2, (some .int), 2), (yX12_goShow, cX12_goShow, 2, (some .int), 2), (yX12_show, cX12_show, 3, (some .int), 2), (yX12_chum, cX12_chum, 4, (some .int), 3), (yX12_goFeed, cX12_goFeed, 3, (some .int), 2), (yX12_feed, cX12_feed, 3, (some .int), 2), (yX12_goHalves, cX12_goHalves, 4, none, 3), (yX12_beginHalves, cX12_beginHalves, 1, none, 1), (yX12_tellHalves, cX12_tellHalves, 1, (some .int), 1), (yX12_half, cX12_half, 1, (some .int), 1), (yX12_halves, cX12_halves, 2, (some .int), 2), (yX12_day, cX12_day, 4, (some .int), 1), (yX12_readAct, cX12_readAct, 3, none, 2), (yX12_act, cX12_act, 4, (some .boolean), 4), (yX12_undo, cX12_undo, 2, (some .int), 1), (yX12_isLook, cX12_isLook, 1, (some .boolean), 1), (yX12_where, cX12_where, 4, (some .int), 3), (yX12_comesThen, cX12_comesThen, 3, (some .int), 2)] xB_5 := And.intro ⟨rfl, sX12_boat hG (Nat.le_trans (by decide) hd)⟩ (And.intro ⟨rfl, sX12_gull hG (Nat.le_trans (by decide) hd)⟩ (And.intro ⟨rfl, sX12_letter_ hG (Nat.le_trans (by decide) hd)⟩ (And.intro ⟨rfl, sX12_lettersAt hG (Nat.le_trans (by decide) hd)⟩ (And.intro ⟨rfl, sX12_weather hG (Nat.le_trans (by decide) hd)⟩ (And.intro ⟨rfl, sX12_sheet hG (Nat.le_trans (by decide) hd)⟩ (And.intro ⟨rfl, sX12_goBoats hG (Nat.le_trans (by decide) hd)⟩ (And.intro ⟨rfl, sX12_farTo hG (Nat.le_trans (by decide) hd)⟩ (And.intro ⟨rfl, sX12_nearestTo hG (Nat.le_trans (by decide) hd)⟩ (And.intro ⟨rfl, sX12_aimOf hG (Nat.le_trans (by decide) hd)⟩ (And.intro ⟨rfl, sX12_toward hG (Nat.le_trans (by decide) hd)⟩ (And.intro ⟨rfl, sX12_goHalf hG (Nat.le_trans (by decide) hd)⟩ (And.intro ⟨rfl, sX12_goGull hG (Nat.le_trans (by decide) hd)⟩ (And.intro ⟨rfl, sX12_lay hG (Nat.le_trans (by decide) hd)⟩ (And.intro ⟨rfl, sX12_remember hG (Nat.le_trans (by decide) hd)⟩ (And.intro ⟨rfl, sX12_refusesWrite hG (Nat.le_trans (by decide) hd)⟩ (And.intro ⟨rfl, sX12_goWrite hG (Nat.le_trans (by decide) hd)⟩ (And.intro ⟨rfl, sX12_write hG (Nat.le_trans (by decide) hd)⟩ (And.intro ⟨rfl, sX12_refusesSend hG (Nat.le_trans (by decide) hd)⟩ (And.intro ⟨rfl, sX12_goSend hG (Nat.le_trans (by decide) hd)⟩ (And.intro ⟨rfl, sX12_send hG (Nat.le_trans (by decide) hd)⟩ (And.intro ⟨rfl, sX12_paint hG (Nat.le_trans (by decide) hd)⟩ (And.intro ⟨rfl, sX12_refusesRest hG (Nat.le_trans (by decide) hd)⟩ (And.intro ⟨rfl, sX12_goShow hG (Nat.le_trans (by decide) hd)⟩ (And.intro ⟨rfl, sX12_show hG (Nat.le_trans (by decide) hd)⟩ (And.intro ⟨rfl, sX12_chum hG (Nat.le_trans (by decide) hd)⟩ (And.intro ⟨rfl, sX12_goFeed hG (Nat.le_trans (by decide) hd)⟩ (And.intro ⟨rfl, sX12_feed hG (Nat.le_trans (by decide) hd)⟩ (And.intro ⟨rfl, sX12_goHalves hG (Nat.le_trans (by decide) hd)⟩ (And.intro ⟨rfl, sX12_beginHalves hG (Nat.le_trans (by decide) hd)⟩ (And.intro ⟨rfl, sX12_tellHalves hG (Nat.le_trans (by decide) hd)⟩ (And.intro ⟨rfl, sX12_half hG (Nat.le_trans (by decide) hd)⟩ (And.intro ⟨rfl, sX12_halves hG (Nat.le_trans (by decide) hd)⟩ (And.intro ⟨rfl, sX12_day hG (Nat.le_trans (by decide) hd)⟩ (And.intro ⟨rfl, sX12_readAct hG (Nat.le_trans (by decide) hd)⟩ (And.intro ⟨rfl, sX12_act hG (Nat.le_trans (by decide) hd)⟩ (And.intro ⟨rfl, sX12_undo hG (Nat.le_trans (by decide) hd)⟩ (And.intro ⟨rfl, sX12_isLook hG (Nat.le_trans (by decide) hd)⟩ (And.intro ⟨rfl, sX12_where hG (Nat.le_trans (by decide) hd)⟩ (And.intro ⟨rfl, sX12_comesThen hG (Nat.le_trans (by decide) hd)⟩ (trivial))))))))))))))))))))))))))))))))))))))))
set_option maxRecDepth 100000 in
theorem xb_6 {d : Nat} {l : Launch} {D : va_G} {G : xG} (hG : x_Gok xM xN l D G d) (hd : 4 ≤ d) : x_all2 (fun y b => b.1 = y.2.2.2.2 ∧ x_Snd xN l D y (b.2 G) d) [(yX12_comes, cX12_comes, 2, (some .int), 2), (yX12_would, cX12_would, 2, (some .int), 2), (yX12_onDeck, cX12_onDeck, 4, (some .int), 2), (yX12_delivers, cX12_delivers, 3, (some .int), 2), (yX12_due, cX12_due, 5, (some .int), 2), (yX12_heads, cX12_heads, 4, (some .int), 2), (yX12_apart, cX12_apart, 3, (some .int), 3), (yX12_nearest, cX12_nearest, 6, (some .int), 3), (yX12_shoutOn, cX12_shoutOn, 9, (some .int), 4), (yX12_areBoats, cX12_areBoats, 2, (some .boolean), 2), (yX12_isShout, cX12_isShout, 1, (some .boolean), 1), (yX12_shoutFor, cX12_shoutFor, 7, (some .int), 4), (yX12_shouted, cX12_shouted, 6, (some .int), 4), (yX12_allKnow, cX12_allKnow, 5, (some .int), 3), (yX12_spreads, cX12_spreads, 4, (some .int), 3), (yX12_teller, cX12_teller, 6, (some .int), 2), (yX12_ordered, cX12_ordered, 9, (some .int), 4), (yX12_order, cX12_order, 8, (some .int), 3), (yX12_stolen, cX12_stolen, 5, (some .int), 3), (yX12_thief, cX12_thief, 6, (some .int), 2), (yX12_astray, cX12_astray, 5, (some .int), 1), (yX12_comesJust, cX12_comesJust, 13, (some .boolean), 5), (yX12_fits, cX12_fits, 10, (some .int), 3), (yX12_ring, cX12_ring, 4, (some .int), 2), (yX12_lonely, cX12_lonely, 6, (some .int), 1), (yX12_power, cX12_power, 6, (some .long), 2), (yX12_goTrain, cX12_goTrain, 7, none, 5), (yX12_train, cX12_train, 4, (some .int), 3), (yX12_draw, cX12_draw, 2, (some .int), 2), (yX12_codes, cX12_codes, 4, (some .int), 2), (yX12_slip, cX12_slip, 3, (some .int), 3), (yX12_opens, cX12_opens, 7, (some .int), 5), (yX12_season, cX12_season, 8, (some .int), 4), (yX12_keep, cX12_keep, 2, (some .boolean), 2), (yX12_again, cX12_again, 3, (some .boolean), 2), (yX12_gullsThat, cX12_gullsThat, 4, (some .int), 2), (yX12_count, cX12_count, 2, (some .int), 2), (yX12_row, cX12_row, 2, (some .int), 2), (yJ9_floorMod_7cf53, cJ9_floorMod_7cf53, 3, (some .int), 2), (yJ9_abs_0f7a4, cJ9_abs_0f7a4, 1, (some .int), 1)] xB_6 := And.intro ⟨rfl, sX12_comes hG (Nat.le_trans (by decide) hd)⟩ (And.intro ⟨rfl, sX12_would hG (Nat.le_trans (by decide) hd)⟩ (And.intro ⟨rfl, sX12_onDeck hG (Nat.le_trans (by decide) hd)⟩ (And.intro ⟨rfl, sX12_delivers hG (Nat.le_trans (by decide) hd)⟩ (And.intro ⟨rfl, sX12_due hG (Nat.le_trans (by decide) hd)⟩ (And.intro ⟨rfl, sX12_heads hG (Nat.le_trans (by decide) hd)⟩ (And.intro ⟨rfl, sX12_apart hG (Nat.le_trans (by decide) hd)⟩ (And.intro ⟨rfl, sX12_nearest hG (Nat.le_trans (by decide) hd)⟩ (And.intro ⟨rfl, sX12_shoutOn hG (Nat.le_trans (by decide) hd)⟩ (And.intro ⟨rfl, sX12_areBoats hG (Nat.le_trans (by decide) hd)⟩ (And.intro ⟨rfl, sX12_isShout hG (Nat.le_trans (by decide) hd)⟩ (And.intro ⟨rfl, sX12_shoutFor hG (Nat.le_trans (by decide) hd)⟩ (And.intro ⟨rfl, sX12_shouted hG (Nat.le_trans (by decide) hd)⟩ (And.intro ⟨rfl, sX12_allKnow hG (Nat.le_trans (by decide) hd)⟩ (And.intro ⟨rfl, sX12_spreads hG (Nat.le_trans (by decide) hd)⟩ (And.intro ⟨rfl, sX12_teller hG (Nat.le_trans (by decide) hd)⟩ (And.intro ⟨rfl, sX12_ordered hG (Nat.le_trans (by decide) hd)⟩ (And.intro ⟨rfl, sX12_order hG (Nat.le_trans (by decide) hd)⟩ (And.intro ⟨rfl, sX12_stolen hG (Nat.le_trans (by decide) hd)⟩ (And.intro ⟨rfl, sX12_thief hG (Nat.le_trans (by decide) hd)⟩ (And.intro ⟨rfl, sX12_astray hG (Nat.le_trans (by decide) hd)⟩ (And.intro ⟨rfl, sX12_comesJust hG (Nat.le_trans (by decide) hd)⟩ (And.intro ⟨rfl, sX12_fits hG (Nat.le_trans (by decide) hd)⟩ (And.intro ⟨rfl, sX12_ring hG (Nat.le_trans (by decide) hd)⟩ (And.intro ⟨rfl, sX12_lonely hG (Nat.le_trans (by decide) hd)⟩ (And.intro ⟨rfl, sX12_power hG (Nat.le_trans (by decide) hd)⟩ (And.intro ⟨rfl, sX12_goTrain hG (Nat.le_trans (by decide) hd)⟩ (And.intro ⟨rfl, sX12_train hG (Nat.le_trans (by decide) hd)⟩ (And.intro ⟨rfl, sX12_draw hG (Nat.le_trans (by decide) hd)⟩ (And.intro ⟨rfl, sX12_codes hG (Nat.le_trans (by decide) hd)⟩ (And.intro ⟨rfl, sX12_slip hG (Nat.le_trans (by decide) hd)⟩ (And.intro ⟨rfl, sX12_opens hG (Nat.le_trans (by decide) hd)⟩ (And.intro ⟨rfl, sX12_season hG (Nat.le_trans (by decide) hd)⟩ (And.intro ⟨rfl, sX12_keep hG (Nat.le_trans (by decide) hd)⟩ (And.intro ⟨rfl, sX12_again hG (Nat.le_trans (by decide) hd)⟩ (And.intro ⟨rfl, sX12_gullsThat hG (Nat.le_trans (by decide) hd)⟩ (And.intro ⟨rfl, sX12_count hG (Nat.le_trans (by decide) hd)⟩ (And.intro ⟨rfl, sX12_row hG (Nat.le_trans (by decide) hd)⟩ (And.intro ⟨rfl, sJ9_floorMod_7cf53 hG (Nat.le_trans (by decide) hd)⟩ (And.intro ⟨rfl, sJ9_abs_0f7a4 hG (Nat.le_trans (by decide) hd)⟩ (trivial))))))))))))))))))))))))))))))))))))))))
set_option maxRecDepth 100000 in
theorem xb_7 {d : Nat} {l : Launch} {D : va_G} {G : xG} (hG : x_Gok xM xN l D G d) (hd : 4 ≤ d) : x_all2 (fun y b => b.1 = y.2.2.2.2 ∧ x_Snd xN l D y (b.2 G) d) [(yJ9_max_7cf53, cJ9_max_7cf53, 2, (some .int), 2), (yJ9_min_7cf53, cJ9_min_7cf53, 2, (some .int), 2), (yJ6_bitCount_0f7a4, cJ6_bitCount_0f7a4, 1, (some .int), 1), (yJ7_fill_53178, cJ7_fill_53178, 4, none, 2)] xB_7 := And.intro ⟨rfl, sJ9_max_7cf53 hG (Nat.le_trans (by decide) hd)⟩ (And.intro ⟨rfl, sJ9_min_7cf53 hG (Nat.le_trans (by decide) hd)⟩ (And.intro ⟨rfl, sJ6_bitCount_0f7a4 hG (Nat.le_trans (by decide) hd)⟩ (And.intro ⟨rfl, sJ7_fill_53178 hG (Nat.le_trans (by decide) hd)⟩ (trivial))))
theorem x_all2_app {P : xMi → xBt → Prop} : ∀ {ys zs : List xMi} {bs cs : List xBt}, x_all2 P ys bs → x_all2 P zs cs → x_all2 P (ys ++ zs) (bs ++ cs)
  | [], zs, [], cs, _, h => h
  | y :: ys, zs, b :: bs, cs, hA, h => ⟨hA.1, x_all2_app hA.2 h⟩
  | [], zs, b :: bs, cs, hA, h => by cases hA
  | y :: ys, zs, [], cs, hA, h => by cases hA
set_option maxRecDepth 100000 in
theorem xb_all {d : Nat} {l : Launch} {D : va_G} {G : xG} (hG : x_Gok xM xN l D G d) (hd : 4 ≤ d) : x_all2 (fun y b => b.1 = y.2.2.2.2 ∧ x_Snd xN l D y (b.2 G) d) xM xB := x_all2_app (xb_0 hG hd) (x_all2_app (xb_1 hG hd) (x_all2_app (xb_2 hG hd) (x_all2_app (xb_3 hG hd) (x_all2_app (xb_4 hG hd) (x_all2_app (xb_5 hG hd) (x_all2_app (xb_6 hG hd) (xb_7 hG hd)))))))
theorem gg_ok (l : Launch) (D : va_G) : ∀ n, x_Gok xM xN l D (gg n) (n + 5)
  | 0 => by
    have h0 : x_Gok xM xN l D (fun mi => (((xM[mi]?).map (fun y => y.2.2.2.2)).getD 0, fun _ _ => none)) 5 := ⟨(fun mi a H r H' h => by cases h), fun mi y hy => ⟨(by dsimp only; rw [hy]; rfl), 0, (by omega), x_none⟩⟩
    have hA := xb_all h0 (by omega)
    refine ⟨(fun mi a H r H' h => by cases h), fun mi y hy => ?_⟩
    obtain ⟨b, hb, h1, -⟩ := x_all2_get hA hy
    refine ⟨?_, 0, by omega, x_none⟩
    show (xB.getD mi xB0).1 = _
    rw [List.getD_eq_getElem?_getD, hb]
    exact h1
  | n + 1 => by
    have hA := xb_all (gg_ok l D n) (by omega)
    refine ⟨fun mi a H r H' h => ?_, fun mi y hy => ?_⟩
    · by_cases hm : mi < xM.length
      · obtain ⟨b, hb, -, h2⟩ := x_all2_get hA (List.getElem?_eq_getElem hm)
        have h : (xB.getD mi xB0).2 (gg n) a H = some (r, H') := h
        rw [List.getD_eq_getElem?_getD, hb] at h
        exact (h2 a H r H' h).1
      · have h : (xB.getD mi xB0).2 (gg n) a H = some (r, H') := h
        rw [List.getD_eq_getElem?_getD, List.getElem?_eq_none (by rw [← x_all2_len hA]; omega)] at h
        cases h
    · obtain ⟨b, hb, h1, h2⟩ := x_all2_get hA hy
      refine ⟨?_, n + 5, by omega, ?_⟩
      · show (xB.getD mi xB0).1 = _
        rw [List.getD_eq_getElem?_getD, hb]
        exact h1
      · show x_Snd xN l D y ((xB.getD mi xB0).2 (gg n)) (n + 5)
        rw [List.getD_eq_getElem?_getD, hb]
        exact h2
