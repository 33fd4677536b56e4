abbrev w_J9_floorDiv_7cf53 (k : mg_K) : va_W := []
def f_J9_floorDiv_7cf53 (x0 : Int32) (x1 : Int32) : Option (Int32) := if x1 = 0 then none else (if 0 ≤ (x0 ^^^ x1) then (some (x0 / x1)) else (if ((x0 / x1) * x1) = x0 then (some (x0 / x1)) else (some ((x0 / x1) - 1))))
theorem Y_J9_floorDiv_7cf53 : mg_YS yJ9_floorDiv_7cf53 cJ9_floorDiv_7cf53 3 (some .int) 2 := ⟨wm_597, wm_7, wm_598, ⟨by decide +kernel, by decide +kernel, by decide +kernel⟩, by decide⟩
set_option maxRecDepth 100000 in
set_option maxHeartbeats 4000000 in
theorem c_J9_floorDiv_7cf53 (l : Launch) (k : mg_K) (x0 : Int32) (x1 : Int32) (q : Int32) (hf : f_J9_floorDiv_7cf53 x0 x1 = some q) : mg_M l yJ9_floorDiv_7cf53 cJ9_floorDiv_7cf53 3 (some .int) 0 k [.int x0, .int x1] (w_J9_floorDiv_7cf53 k) (w_J9_floorDiv_7cf53 k) (some (.int q)) := by
  refine mg_Mi RJ9 [(0, .int x0), (1, .int x1)] (by decide +kernel) rfl rfl (Nat.le_of_ble_eq_true rfl) ?_
  intro z A Q hl C E
  subst hl
  unfold f_J9_floorDiv_7cf53 at hf
  refine mg_iload_n (pc := 0) C 0 dJ9_floorDiv_7cf53_0 rfl rfl ?_
  refine mg_iload_n (pc := 1) C 1 dJ9_floorDiv_7cf53_1 rfl rfl ?_
  obtain ⟨d1, hf⟩ := mg_ck' hf
  refine mg_idiv (pc := 2) C dJ9_floorDiv_7cf53_2 d1 ?_
  refine mg_istore_n (pc := 3) C (lv' := [(2, .int (x0 / x1)), (0, .int x0), (1, .int x1)]) dJ9_floorDiv_7cf53_3 rfl (by decide) rfl ?_
  refine mg_iload_n (pc := 4) C 1 dJ9_floorDiv_7cf53_4 rfl rfl ?_
  refine mg_iload_n (pc := 5) C 2 dJ9_floorDiv_7cf53_5 rfl rfl ?_
  refine mg_ixor (pc := 6) C dJ9_floorDiv_7cf53_6 ?_
  refine mg_if_ge (pc := 7) (tgt := 21) C dJ9_floorDiv_7cf53_7 (by decide) hf (fun hf => ?_) (fun hf => ?_)
  · refine mg_iload_n (pc := 21) C 0 dJ9_floorDiv_7cf53_21 rfl rfl ?_
    obtain rfl := Option.some.inj hf
    exact E _ _ dJ9_floorDiv_7cf53_22
  · refine mg_iload_n (pc := 10) C 0 dJ9_floorDiv_7cf53_10 rfl rfl ?_
    refine mg_iload_n (pc := 11) C 2 dJ9_floorDiv_7cf53_11 rfl rfl ?_
    refine mg_imul (pc := 12) C dJ9_floorDiv_7cf53_12 ?_
    refine mg_iload_n (pc := 13) C 1 dJ9_floorDiv_7cf53_13 rfl rfl ?_
    refine mg_icmp_eq (pc := 14) (tgt := 21) C dJ9_floorDiv_7cf53_14 (by decide) hf (fun hf => ?_) (fun hf => ?_)
    · refine mg_iload_n (pc := 21) C 0 dJ9_floorDiv_7cf53_21 rfl rfl ?_
      obtain rfl := Option.some.inj hf
      exact E _ _ dJ9_floorDiv_7cf53_22
    · refine mg_iload_n (pc := 17) C 0 dJ9_floorDiv_7cf53_17 rfl rfl ?_
      refine mg_iconst (pc := 18) C dJ9_floorDiv_7cf53_18 (v := 1) (by decide) ?_
      refine mg_isub (pc := 19) C dJ9_floorDiv_7cf53_19 ?_
      obtain rfl := Option.some.inj hf
      exact E _ _ dJ9_floorDiv_7cf53_20
abbrev w_X1_edgeDepth (k : mg_K) (a_t a_p1 a_p1_bottoms a_t_site a_t_trial a_t_chosen a_t_site_ballast a_t_site_lubricated a_t_site_pose a_t_site_ground a_t_site_boulders a_t_site_records : Nat) (v_p1_depth : Int32) (v_p1_tiltX : Int32) (v_p1_tiltY : Int32) (v_t_excess : Int32) (v_t_momentX : Int32) (v_t_momentY : Int32) (v_t_nextTiltX : Int32) (v_t_nextTiltY : Int32) (v_t_site_columns : Int32) (v_t_site_rows : Int32) (v_t_site_weight : Int32) (v_t_site_stiffness : Int32) (v_t_site_water : Int32) : va_W := [(a_p1, .inr (4, [.int v_p1_depth, .int v_p1_tiltX, .int v_p1_tiltY, .ref a_p1_bottoms])), (a_t, .inr (1, [.ref a_t_site, .ref a_t_trial, .ref a_t_chosen, .int v_t_excess, .int v_t_momentX, .int v_t_momentY, .int v_t_nextTiltX, .int v_t_nextTiltY])), (a_t_site, .inr (5, [.int v_t_site_columns, .int v_t_site_rows, .int v_t_site_weight, .int v_t_site_stiffness, .int v_t_site_water, .ref a_t_site_ballast, .ref a_t_site_lubricated, .ref a_t_site_pose, .ref a_t_site_ground, .ref a_t_site_boulders, .ref a_t_site_records]))]
def f_X1_edgeDepth (v_p1_depth : Int32) (v_p1_tiltX : Int32) (v_p1_tiltY : Int32) (v_t_site_columns : Int32) (v_t_site_rows : Int32) (x2 : Int32) (x3 : Int32) : Option (Int32) := (f_J9_floorDiv_7cf53 ((v_p1_tiltX * (((2 * x2) - v_t_site_columns) + 1)) + (v_p1_tiltY * (((2 * x3) - v_t_site_rows) + 1))) 2).bind (fun q1 => some (mg_mx 0 (v_p1_depth + q1)))
theorem Y_X1_edgeDepth : mg_Y yX1_edgeDepth cX1_edgeDepth 5 (some .int) 3 := ⟨wm_593, wm_594, wm_2, wm_595, ⟨by decide +kernel, by decide +kernel, by decide +kernel⟩, by decide⟩
set_option maxRecDepth 100000 in
set_option maxHeartbeats 4000000 in
theorem c_X1_edgeDepth (l : Launch) (k : mg_K) (a_t a_p1 a_p1_bottoms a_t_site a_t_trial a_t_chosen a_t_site_ballast a_t_site_lubricated a_t_site_pose a_t_site_ground a_t_site_boulders a_t_site_records : Nat) (v_p1_depth : Int32) (v_p1_tiltX : Int32) (v_p1_tiltY : Int32) (v_t_excess : Int32) (v_t_momentX : Int32) (v_t_momentY : Int32) (v_t_nextTiltX : Int32) (v_t_nextTiltY : Int32) (v_t_site_columns : Int32) (v_t_site_rows : Int32) (v_t_site_weight : Int32) (v_t_site_stiffness : Int32) (v_t_site_water : Int32) (x2 : Int32) (x3 : Int32) (q : Int32) (hf : f_X1_edgeDepth v_p1_depth v_p1_tiltX v_p1_tiltY v_t_site_columns v_t_site_rows x2 x3 = some q) : mg_M l yX1_edgeDepth cX1_edgeDepth 5 (some .int) 1 k [.ref a_t, .ref a_p1, .int x2, .int x3] (w_X1_edgeDepth k a_t a_p1 a_p1_bottoms a_t_site a_t_trial a_t_chosen a_t_site_ballast a_t_site_lubricated a_t_site_pose a_t_site_ground a_t_site_boulders a_t_site_records v_p1_depth v_p1_tiltX v_p1_tiltY v_t_excess v_t_momentX v_t_momentY v_t_nextTiltX v_t_nextTiltY v_t_site_columns v_t_site_rows v_t_site_weight v_t_site_stiffness v_t_site_water) (w_X1_edgeDepth k a_t a_p1 a_p1_bottoms a_t_site a_t_trial a_t_chosen a_t_site_ballast a_t_site_lubricated a_t_site_pose a_t_site_ground a_t_site_boulders a_t_site_records v_p1_depth v_p1_tiltX v_p1_tiltY v_t_excess v_t_momentX v_t_momentY v_t_nextTiltX v_t_nextTiltY v_t_site_columns v_t_site_rows v_t_site_weight v_t_site_stiffness v_t_site_water) (some (.int q)) := by
  refine mg_Mi RX1 [(0, .ref a_t), (1, .ref a_p1), (2, .int x2), (3, .int x3)] (by decide +kernel) rfl rfl (Nat.le_of_ble_eq_true rfl) ?_
  intro z A Q hl C E
  subst hl
  unfold f_X1_edgeDepth at hf
  refine mg_aload_n (pc := 0) C 1 dX1_edgeDepth_0 rfl rfl ?_
  refine mg_get (pc := 1) C 0 rfl rfl inX4 1 (by decide) wm_47 rfl rfl dX1_edgeDepth_1 ?_
  refine mg_iconst (pc := 4) C dX1_edgeDepth_4 (v := 2) (by decide) ?_
  refine mg_iload_n (pc := 5) C 2 dX1_edgeDepth_5 rfl rfl ?_
  refine mg_imul (pc := 6) C dX1_edgeDepth_6 ?_
  refine mg_aload_n (pc := 7) C 0 dX1_edgeDepth_7 rfl rfl ?_
  refine mg_get (pc := 8) C 1 rfl rfl inX1 0 (by decide) wm_200 rfl rfl dX1_edgeDepth_8 ?_
  refine mg_get (pc := 11) C 2 rfl rfl inX5 0 (by decide) wm_137 rfl rfl dX1_edgeDepth_11 ?_
  refine mg_isub (pc := 14) C dX1_edgeDepth_14 ?_
  refine mg_iconst (pc := 15) C dX1_edgeDepth_15 (v := 1) (by decide) ?_
  refine mg_iadd (pc := 16) C dX1_edgeDepth_16 ?_
  refine mg_imul (pc := 17) C dX1_edgeDepth_17 ?_
  refine mg_aload_n (pc := 18) C 1 dX1_edgeDepth_18 rfl rfl ?_
  refine mg_get (pc := 19) C 0 rfl rfl inX4 2 (by decide) wm_51 rfl rfl dX1_edgeDepth_19 ?_
  refine mg_iconst (pc := 22) C dX1_edgeDepth_22 (v := 2) (by decide) ?_
  refine mg_iload_n (pc := 23) C 3 dX1_edgeDepth_23 rfl rfl ?_
  refine mg_imul (pc := 24) C dX1_edgeDepth_24 ?_
  refine mg_aload_n (pc := 25) C 0 dX1_edgeDepth_25 rfl rfl ?_
  refine mg_get (pc := 26) C 1 rfl rfl inX1 0 (by decide) wm_200 rfl rfl dX1_edgeDepth_26 ?_
  refine mg_get (pc := 29) C 2 rfl rfl inX5 1 (by decide) wm_141 rfl rfl dX1_edgeDepth_29 ?_
  refine mg_isub (pc := 32) C dX1_edgeDepth_32 ?_
  refine mg_iconst (pc := 33) C dX1_edgeDepth_33 (v := 1) (by decide) ?_
  refine mg_iadd (pc := 34) C dX1_edgeDepth_34 ?_
  refine mg_imul (pc := 35) C dX1_edgeDepth_35 ?_
  refine mg_iadd (pc := 36) C dX1_edgeDepth_36 ?_
  refine mg_istore (pc := 37) C (lv' := [(4, .int ((v_p1_tiltX * (((2 * x2) - v_t_site_columns) + 1)) + (v_p1_tiltY * (((2 * x3) - v_t_site_rows) + 1)))), (0, .ref a_t), (1, .ref a_p1), (2, .int x2), (3, .int x3)]) dX1_edgeDepth_37 (by decide) rfl ?_
  refine mg_iconst (pc := 39) C dX1_edgeDepth_39 (v := 0) (by decide) ?_
  refine mg_aload_n (pc := 40) C 2 dX1_edgeDepth_40 rfl rfl ?_
  refine mg_get (pc := 41) C 0 rfl rfl inX4 0 (by decide) wm_44 rfl rfl dX1_edgeDepth_41 ?_
  refine mg_iload (pc := 44) C 0 dX1_edgeDepth_44 rfl ?_
  refine mg_iconst (pc := 46) C dX1_edgeDepth_46 (v := 2) (by decide) ?_
  obtain ⟨q1, h2, hf⟩ := mg_b hf
  refine mg_callS (pc := 47) C (w2 := w_X1_edgeDepth k a_t a_p1 a_p1_bottoms a_t_site a_t_trial a_t_chosen a_t_site_ballast a_t_site_lubricated a_t_site_pose a_t_site_ground a_t_site_boulders a_t_site_records v_p1_depth v_p1_tiltX v_p1_tiltY v_t_excess v_t_momentX v_t_momentY v_t_nextTiltX v_t_nextTiltY v_t_site_columns v_t_site_rows v_t_site_weight v_t_site_stiffness v_t_site_water) (c_J9_floorDiv_7cf53 z.2.1 k ((v_p1_tiltX * (((2 * x2) - v_t_site_columns) + 1)) + (v_p1_tiltY * (((2 * x3) - v_t_site_rows) + 1))) 2 q1 h2) Y_J9_floorDiv_7cf53 wm_596 (by decide) rfl [] rfl (by decide) rfl [none, none, none] (by decide) rfl (Nat.le_of_ble_eq_true rfl) rfl dX1_edgeDepth_47 ?_
  refine mg_iadd (pc := 50) C dX1_edgeDepth_50 ?_
  refine mg_mmax (pc := 51) C wm_599 wm_80 wm_7 wm_81 (by decide) (Nat.le_of_ble_eq_true rfl) dX1_edgeDepth_51 ?_
  obtain rfl := Option.some.inj hf
  exact E _ _ dX1_edgeDepth_54
abbrev w_X1_support (k : mg_K) (a_t a_p1 a_p1_bottoms a_t_site a_t_trial a_t_chosen a_t_site_ballast a_t_site_lubricated a_t_site_pose a_t_site_ground a_t_site_boulders a_t_site_records a_t_site_boulders_list a_t_site_boulders_list_values a_t_site_ground_layers a_t_site_ground_layers_values : Nat) (v_p1_depth : Int32) (v_p1_tiltX : Int32) (v_p1_tiltY : Int32) (v_p1_bottoms : Nat → Int32) (v_t_excess : Int32) (v_t_momentX : Int32) (v_t_momentY : Int32) (v_t_nextTiltX : Int32) (v_t_nextTiltY : Int32) (v_t_site_columns : Int32) (v_t_site_rows : Int32) (v_t_site_weight : Int32) (v_t_site_stiffness : Int32) (v_t_site_water : Int32) (v_t_site_boulders_list_count : Int32) (v_t_site_boulders_list_values : Nat → Int32) (v_t_site_ground_layers_count : Int32) (v_t_site_ground_layers_values : Nat → Int32) : va_W := [(a_p1, .inr (4, [.int v_p1_depth, .int v_p1_tiltX, .int v_p1_tiltY, .ref a_p1_bottoms])), (a_p1_bottoms, .inl (k.2.1, 49, .inl v_p1_bottoms)), (a_t, .inr (1, [.ref a_t_site, .ref a_t_trial, .ref a_t_chosen, .int v_t_excess, .int v_t_momentX, .int v_t_momentY, .int v_t_nextTiltX, .int v_t_nextTiltY])), (a_t_site, .inr (5, [.int v_t_site_columns, .int v_t_site_rows, .int v_t_site_weight, .int v_t_site_stiffness, .int v_t_site_water, .ref a_t_site_ballast, .ref a_t_site_lubricated, .ref a_t_site_pose, .ref a_t_site_ground, .ref a_t_site_boulders, .ref a_t_site_records])), (a_t_site_boulders, .inr (0, [.ref a_t_site_boulders_list])), (a_t_site_boulders_list, .inr (7, [.int 10, .ref a_t_site_boulders_list_values, .int v_t_site_boulders_list_count])), (a_t_site_boulders_list_values, .inl (k.2.1, 30, .inl v_t_site_boulders_list_values)), (a_t_site_ground, .inr (2, [.ref a_t_site_ground_layers])), (a_t_site_ground_layers, .inr (7, [.int 8, .ref a_t_site_ground_layers_values, .int v_t_site_ground_layers_count])), (a_t_site_ground_layers_values, .inl (k.2.1, 24, .inl v_t_site_ground_layers_values))]
def f_X1_support (fuel : Nat) (v_p1_bottoms : Nat → Int32) (v_t_site_columns : Int32) (v_t_site_rows : Int32) (v_t_site_boulders_list_count : Int32) (v_t_site_boulders_list_values : Nat → Int32) (v_t_site_ground_layers_count : Int32) (v_t_site_ground_layers_values : Nat → Int32) (x2 : Int32) (x3 : Int32) (x4 : Int32) : Option (Int32) := (f_X5_wellBeside v_t_site_columns v_t_site_rows x2 x3).bind (fun q1 => if mg_ix q1 49 = true then ((f_X2_strengthAt fuel v_t_site_ground_layers_count v_t_site_ground_layers_values x4).bind (fun q3 => (f_X0_hardnessDownTo fuel v_t_site_boulders_list_count v_t_site_boulders_list_values ((x3 * v_t_site_columns) + x2) x4).bind (fun q5 => some (((mg_mx 0 (mg_mn 4 ((x4 - (v_p1_bottoms (Int32.toNatClampNeg q1))) + 2))) * q3) + (4 * q5))))) else none)
theorem Y_X1_support : mg_Y yX1_support cX1_support 7 (some .int) 4 := ⟨wm_601, wm_602, wm_2, wm_603, ⟨by decide +kernel, by decide +kernel, by decide +kernel⟩, by decide⟩
set_option maxRecDepth 100000 in
set_option maxHeartbeats 4000000 in
theorem c_X1_support (l : Launch) (k : mg_K) (a_t a_p1 a_p1_bottoms a_t_site a_t_trial a_t_chosen a_t_site_ballast a_t_site_lubricated a_t_site_pose a_t_site_ground a_t_site_boulders a_t_site_records a_t_site_boulders_list a_t_site_boulders_list_values a_t_site_ground_layers a_t_site_ground_layers_values : Nat) (v_p1_depth : Int32) (v_p1_tiltX : Int32) (v_p1_tiltY : Int32) (v_p1_bottoms : Nat → Int32) (v_t_excess : Int32) (v_t_momentX : Int32) (v_t_momentY : Int32) (v_t_nextTiltX : Int32) (v_t_nextTiltY : Int32) (v_t_site_columns : Int32) (v_t_site_rows : Int32) (v_t_site_weight : Int32) (v_t_site_stiffness : Int32) (v_t_site_water : Int32) (v_t_site_boulders_list_count : Int32) (v_t_site_boulders_list_values : Nat → Int32) (v_t_site_ground_layers_count : Int32) (v_t_site_ground_layers_values : Nat → Int32) (fuel : Nat) (x2 : Int32) (x3 : Int32) (x4 : Int32) (q : Int32) (hf : f_X1_support fuel v_p1_bottoms v_t_site_columns v_t_site_rows v_t_site_boulders_list_count v_t_site_boulders_list_values v_t_site_ground_layers_count v_t_site_ground_layers_values x2 x3 x4 = some q) : mg_M l yX1_support cX1_support 7 (some .int) 2 k [.ref a_t, .ref a_p1, .int x2, .int x3, .int x4] (w_X1_support k a_t a_p1 a_p1_bottoms a_t_site a_t_trial a_t_chosen a_t_site_ballast a_t_site_lubricated a_t_site_pose a_t_site_ground a_t_site_boulders a_t_site_records a_t_site_boulders_list a_t_site_boulders_list_values a_t_site_ground_layers a_t_site_ground_layers_values v_p1_depth v_p1_tiltX v_p1_tiltY v_p1_bottoms v_t_excess v_t_momentX v_t_momentY v_t_nextTiltX v_t_nextTiltY v_t_site_columns v_t_site_rows v_t_site_weight v_t_site_stiffness v_t_site_water v_t_site_boulders_list_count v_t_site_boulders_list_values v_t_site_ground_layers_count v_t_site_ground_layers_values) (w_X1_support k a_t a_p1 a_p1_bottoms a_t_site a_t_trial a_t_chosen a_t_site_ballast a_t_site_lubricated a_t_site_pose a_t_site_ground a_t_site_boulders a_t_site_records a_t_site_boulders_list a_t_site_boulders_list_values a_t_site_ground_layers a_t_site_ground_layers_values v_p1_depth v_p1_tiltX v_p1_tiltY v_p1_bottoms v_t_excess v_t_momentX v_t_momentY v_t_nextTiltX v_t_nextTiltY v_t_site_columns v_t_site_rows v_t_site_weight v_t_site_stiffness v_t_site_water v_t_site_boulders_list_count v_t_site_boulders_list_values v_t_site_ground_layers_count v_t_site_ground_layers_values) (some (.int q)) := by
  refine mg_Mi RX1 [(0, .ref a_t), (1, .ref a_p1), (2, .int x2), (3, .int x3), (4, .int x4)] (by decide +kernel) rfl rfl (Nat.le_of_ble_eq_true rfl) ?_
  intro z A Q hl C E
  subst hl
  unfold f_X1_support at hf
  refine mg_iload (pc := 0) C 4 dX1_support_0 rfl ?_
  refine mg_aload_n (pc := 2) C 1 dX1_support_2 rfl rfl ?_
  refine mg_get (pc := 3) C 0 rfl rfl inX4 3 (by decide) wm_54 rfl rfl dX1_support_3 ?_
  refine mg_aload_n (pc := 6) C 0 dX1_support_6 rfl rfl ?_
  refine mg_get (pc := 7) C 2 rfl rfl inX1 0 (by decide) wm_200 rfl rfl dX1_support_7 ?_
  refine mg_iload_n (pc := 10) C 2 dX1_support_10 rfl rfl ?_
  refine mg_iload_n (pc := 11) C 3 dX1_support_11 rfl rfl ?_
  obtain ⟨q1, h2, hf⟩ := mg_b hf
  refine mg_callV (pc := 12) C (w2 := w_X1_support k a_t a_p1 a_p1_bottoms a_t_site a_t_trial a_t_chosen a_t_site_ballast a_t_site_lubricated a_t_site_pose a_t_site_ground a_t_site_boulders a_t_site_records a_t_site_boulders_list a_t_site_boulders_list_values a_t_site_ground_layers a_t_site_ground_layers_values v_p1_depth v_p1_tiltX v_p1_tiltY v_p1_bottoms v_t_excess v_t_momentX v_t_momentY v_t_nextTiltX v_t_nextTiltY v_t_site_columns v_t_site_rows v_t_site_weight v_t_site_stiffness v_t_site_water v_t_site_boulders_list_count v_t_site_boulders_list_values v_t_site_ground_layers_count v_t_site_ground_layers_values) (c_X5_wellBeside z.2.1 k a_t_site a_t_site_ballast a_t_site_lubricated a_t_site_pose a_t_site_ground a_t_site_boulders a_t_site_records v_t_site_columns v_t_site_rows v_t_site_weight v_t_site_stiffness v_t_site_water x2 x3 q1 h2) Y_X5_wellBeside wm_604 (by decide) rfl 3 rfl rfl rfl [3] rfl (by decide) rfl [none, none, none, some 0, none, none, none, none, none, none] (by decide) rfl (Nat.le_of_ble_eq_true rfl) rfl dX1_support_12 ?_
  refine mg_iald (pc := 15) C 1 rfl dX1_support_15 hf (fun hf => ?_)
  refine mg_isub (pc := 16) C dX1_support_16 ?_
  refine mg_iconst (pc := 17) C dX1_support_17 (v := 2) (by decide) ?_
  refine mg_iadd (pc := 18) C dX1_support_18 ?_
  refine mg_istore (pc := 19) C (lv' := [(5, .int ((x4 - (v_p1_bottoms (Int32.toNatClampNeg q1))) + 2)), (0, .ref a_t), (1, .ref a_p1), (2, .int x2), (3, .int x3), (4, .int x4)]) dX1_support_19 (by decide) rfl ?_
  refine mg_iconst (pc := 21) C dX1_support_21 (v := 0) (by decide) ?_
  refine mg_iconst (pc := 22) C dX1_support_22 (v := 4) (by decide) ?_
  refine mg_iload (pc := 23) C 0 dX1_support_23 rfl ?_
  refine mg_mmin (pc := 25) C wm_608 wm_470 wm_7 wm_471 (by decide) (Nat.le_of_ble_eq_true rfl) dX1_support_25 ?_
  refine mg_mmax (pc := 28) C wm_599 wm_80 wm_7 wm_81 (by decide) (Nat.le_of_ble_eq_true rfl) dX1_support_28 ?_
  refine mg_istore (pc := 31) C (lv' := [(5, .int (mg_mx 0 (mg_mn 4 ((x4 - (v_p1_bottoms (Int32.toNatClampNeg q1))) + 2)))), (0, .ref a_t), (1, .ref a_p1), (2, .int x2), (3, .int x3), (4, .int x4)]) dX1_support_31 (by decide) rfl ?_
  refine mg_iload_n (pc := 33) C 4 dX1_support_33 rfl rfl ?_
  refine mg_aload_n (pc := 34) C 1 dX1_support_34 rfl rfl ?_
  refine mg_get (pc := 35) C 2 rfl rfl inX1 0 (by decide) wm_200 rfl rfl dX1_support_35 ?_
  refine mg_get (pc := 38) C 3 rfl rfl inX5 0 (by decide) wm_137 rfl rfl dX1_support_38 ?_
  refine mg_imul (pc := 41) C dX1_support_41 ?_
  refine mg_iload_n (pc := 42) C 3 dX1_support_42 rfl rfl ?_
  refine mg_iadd (pc := 43) C dX1_support_43 ?_
  refine mg_istore (pc := 44) C (lv' := [(6, .int ((x3 * v_t_site_columns) + x2)), (5, .int (mg_mx 0 (mg_mn 4 ((x4 - (v_p1_bottoms (Int32.toNatClampNeg q1))) + 2)))), (0, .ref a_t), (1, .ref a_p1), (2, .int x2), (3, .int x3), (4, .int x4)]) dX1_support_44 (by decide) rfl ?_
  refine mg_iload (pc := 46) C 1 dX1_support_46 rfl ?_
  refine mg_aload_n (pc := 48) C 2 dX1_support_48 rfl rfl ?_
  refine mg_get (pc := 49) C 2 rfl rfl inX1 0 (by decide) wm_200 rfl rfl dX1_support_49 ?_
  refine mg_get (pc := 52) C 3 rfl rfl inX5 8 (by decide) wm_166 rfl rfl dX1_support_52 ?_
  refine mg_iload (pc := 55) C 6 dX1_support_55 rfl ?_
  obtain ⟨q3, h4, hf⟩ := mg_b hf
  refine mg_callV (pc := 57) C (w2 := w_X1_support k a_t a_p1 a_p1_bottoms a_t_site a_t_trial a_t_chosen a_t_site_ballast a_t_site_lubricated a_t_site_pose a_t_site_ground a_t_site_boulders a_t_site_records a_t_site_boulders_list a_t_site_boulders_list_values a_t_site_ground_layers a_t_site_ground_layers_values v_p1_depth v_p1_tiltX v_p1_tiltY v_p1_bottoms v_t_excess v_t_momentX v_t_momentY v_t_nextTiltX v_t_nextTiltY v_t_site_columns v_t_site_rows v_t_site_weight v_t_site_stiffness v_t_site_water v_t_site_boulders_list_count v_t_site_boulders_list_values v_t_site_ground_layers_count v_t_site_ground_layers_values) (c_X2_strengthAt z.2.1 k a_t_site_ground a_t_site_ground_layers a_t_site_ground_layers_values v_t_site_ground_layers_count v_t_site_ground_layers_values fuel x4 q3 h4) Y_X2_strengthAt wm_609 (by decide) rfl 7 rfl rfl rfl [7, 8, 9] rfl (by decide) rfl [none, none, none, none, none, none, none, some 0, some 1, some 2] (by decide) rfl (Nat.le_of_ble_eq_true rfl) rfl dX1_support_57 ?_
  refine mg_imul (pc := 60) C dX1_support_60 ?_
  refine mg_iconst (pc := 61) C dX1_support_61 (v := 4) (by decide) ?_
  refine mg_aload_n (pc := 62) C 2 dX1_support_62 rfl rfl ?_
  refine mg_get (pc := 63) C 2 rfl rfl inX1 0 (by decide) wm_200 rfl rfl dX1_support_63 ?_
  refine mg_get (pc := 66) C 3 rfl rfl inX5 9 (by decide) wm_170 rfl rfl dX1_support_66 ?_
  refine mg_iload (pc := 69) C 0 dX1_support_69 rfl ?_
  refine mg_iload (pc := 71) C 6 dX1_support_71 rfl ?_
  obtain ⟨q5, h6, hf⟩ := mg_b hf
  refine mg_callV (pc := 73) C (w2 := w_X1_support k a_t a_p1 a_p1_bottoms a_t_site a_t_trial a_t_chosen a_t_site_ballast a_t_site_lubricated a_t_site_pose a_t_site_ground a_t_site_boulders a_t_site_records a_t_site_boulders_list a_t_site_boulders_list_values a_t_site_ground_layers a_t_site_ground_layers_values v_p1_depth v_p1_tiltX v_p1_tiltY v_p1_bottoms v_t_excess v_t_momentX v_t_momentY v_t_nextTiltX v_t_nextTiltY v_t_site_columns v_t_site_rows v_t_site_weight v_t_site_stiffness v_t_site_water v_t_site_boulders_list_count v_t_site_boulders_list_values v_t_site_ground_layers_count v_t_site_ground_layers_values) (c_X0_hardnessDownTo z.2.1 k a_t_site_boulders a_t_site_boulders_list a_t_site_boulders_list_values v_t_site_boulders_list_count v_t_site_boulders_list_values fuel ((x3 * v_t_site_columns) + x2) x4 q5 h6) Y_X0_hardnessDownTo wm_610 (by decide) rfl 4 rfl rfl rfl [4, 5, 6] rfl (by decide) rfl [none, none, none, none, some 0, some 1, some 2, none, none, none] (by decide) rfl (Nat.le_of_ble_eq_true rfl) rfl dX1_support_73 ?_
  refine mg_imul (pc := 76) C dX1_support_76 ?_
  refine mg_iadd (pc := 77) C dX1_support_77 ?_
  obtain rfl := Option.some.inj hf
  exact E _ _ dX1_support_78
abbrev w_X1_skinForce (k : mg_K) (a_t a_t_site a_t_trial a_t_chosen a_t_site_ballast a_t_site_lubricated a_t_site_pose a_t_site_ground a_t_site_boulders a_t_site_records a_t_site_ground_layers a_t_site_ground_layers_values : Nat) (v_t_excess : Int32) (v_t_momentX : Int32) (v_t_momentY : Int32) (v_t_nextTiltX : Int32) (v_t_nextTiltY : Int32) (v_t_site_columns : Int32) (v_t_site_rows : Int32) (v_t_site_weight : Int32) (v_t_site_stiffness : Int32) (v_t_site_water : Int32) (v_t_site_ground_layers_count : Int32) (v_t_site_ground_layers_values : Nat → Int32) (v_t_site_lubricated : Nat → Int32) : va_W := [(a_t, .inr (1, [.ref a_t_site, .ref a_t_trial, .ref a_t_chosen, .int v_t_excess, .int v_t_momentX, .int v_t_momentY, .int v_t_nextTiltX, .int v_t_nextTiltY])), (a_t_site, .inr (5, [.int v_t_site_columns, .int v_t_site_rows, .int v_t_site_weight, .int v_t_site_stiffness, .int v_t_site_water, .ref a_t_site_ballast, .ref a_t_site_lubricated, .ref a_t_site_pose, .ref a_t_site_ground, .ref a_t_site_boulders, .ref a_t_site_records])), (a_t_site_ground, .inr (2, [.ref a_t_site_ground_layers])), (a_t_site_ground_layers, .inr (7, [.int 8, .ref a_t_site_ground_layers_values, .int v_t_site_ground_layers_count])), (a_t_site_ground_layers_values, .inl (k.2.1, 24, .inl v_t_site_ground_layers_values)), (a_t_site_lubricated, .inl (k.2.1, 4, .inl v_t_site_lubricated))]
def f_X1_skinForce (fuel : Nat) (v_t_site_columns : Int32) (v_t_site_rows : Int32) (v_t_site_ground_layers_count : Int32) (v_t_site_ground_layers_values : Nat → Int32) (v_t_site_lubricated : Nat → Int32) (x1 : Int32) (x2 : Int32) (x3 : Int32) : Option (Int32) := (f_X5_skinFactor v_t_site_columns v_t_site_rows v_t_site_lubricated x1 x2).bind (fun q1 => (f_X2_frictionAbove fuel v_t_site_ground_layers_count v_t_site_ground_layers_values x3).bind (fun q3 => some (q1 * q3)))
theorem Y_X1_skinForce : mg_Y yX1_skinForce cX1_skinForce 4 (some .int) 3 := ⟨wm_615, wm_616, wm_2, wm_617, ⟨by decide +kernel, by decide +kernel, by decide +kernel⟩, by decide⟩
set_option maxRecDepth 100000 in
set_option maxHeartbeats 4000000 in
theorem c_X1_skinForce (l : Launch) (k : mg_K) (a_t a_t_site a_t_trial a_t_chosen a_t_site_ballast a_t_site_lubricated a_t_site_pose a_t_site_ground a_t_site_boulders a_t_site_records a_t_site_ground_layers a_t_site_ground_layers_values : Nat) (v_t_excess : Int32) (v_t_momentX : Int32) (v_t_momentY : Int32) (v_t_nextTiltX : Int32) (v_t_nextTiltY : Int32) (v_t_site_columns : Int32) (v_t_site_rows : Int32) (v_t_site_weight : Int32) (v_t_site_stiffness : Int32) (v_t_site_water : Int32) (v_t_site_ground_layers_count : Int32) (v_t_site_ground_layers_values : Nat → Int32) (v_t_site_lubricated : Nat → Int32) (fuel : Nat) (x1 : Int32) (x2 : Int32) (x3 : Int32) (q : Int32) (hf : f_X1_skinForce fuel v_t_site_columns v_t_site_rows v_t_site_ground_layers_count v_t_site_ground_layers_values v_t_site_lubricated x1 x2 x3 = some q) : mg_M l yX1_skinForce cX1_skinForce 4 (some .int) 1 k [.ref a_t, .int x1, .int x2, .int x3] (w_X1_skinForce k a_t a_t_site a_t_trial a_t_chosen a_t_site_ballast a_t_site_lubricated a_t_site_pose a_t_site_ground a_t_site_boulders a_t_site_records a_t_site_ground_layers a_t_site_ground_layers_values v_t_excess v_t_momentX v_t_momentY v_t_nextTiltX v_t_nextTiltY v_t_site_columns v_t_site_rows v_t_site_weight v_t_site_stiffness v_t_site_water v_t_site_ground_layers_count v_t_site_ground_layers_values v_t_site_lubricated) (w_X1_skinForce k a_t a_t_site a_t_trial a_t_chosen a_t_site_ballast a_t_site_lubricated a_t_site_pose a_t_site_ground a_t_site_boulders a_t_site_records a_t_site_ground_layers a_t_site_ground_layers_values v_t_excess v_t_momentX v_t_momentY v_t_nextTiltX v_t_nextTiltY v_t_site_columns v_t_site_rows v_t_site_weight v_t_site_stiffness v_t_site_water v_t_site_ground_layers_count v_t_site_ground_layers_values v_t_site_lubricated) (some (.int q)) := by
  refine mg_Mi RX1 [(0, .ref a_t), (1, .int x1), (2, .int x2), (3, .int x3)] (by decide +kernel) rfl rfl (Nat.le_of_ble_eq_true rfl) ?_
  intro z A Q hl C E
  subst hl
  unfold f_X1_skinForce at hf
  refine mg_aload_n (pc := 0) C 0 dX1_skinForce_0 rfl rfl ?_
  refine mg_get (pc := 1) C 0 rfl rfl inX1 0 (by decide) wm_200 rfl rfl dX1_skinForce_1 ?_
  refine mg_iload_n (pc := 4) C 1 dX1_skinForce_4 rfl rfl ?_
  refine mg_iload_n (pc := 5) C 2 dX1_skinForce_5 rfl rfl ?_
  obtain ⟨q1, h2, hf⟩ := mg_b hf
  refine mg_callV (pc := 6) C (w2 := w_X1_skinForce k a_t a_t_site a_t_trial a_t_chosen a_t_site_ballast a_t_site_lubricated a_t_site_pose a_t_site_ground a_t_site_boulders a_t_site_records a_t_site_ground_layers a_t_site_ground_layers_values v_t_excess v_t_momentX v_t_momentY v_t_nextTiltX v_t_nextTiltY v_t_site_columns v_t_site_rows v_t_site_weight v_t_site_stiffness v_t_site_water v_t_site_ground_layers_count v_t_site_ground_layers_values v_t_site_lubricated) (c_X5_skinFactor z.2.1 k a_t_site a_t_site_ballast a_t_site_lubricated a_t_site_pose a_t_site_ground a_t_site_boulders a_t_site_records v_t_site_columns v_t_site_rows v_t_site_weight v_t_site_stiffness v_t_site_water v_t_site_lubricated x1 x2 q1 h2) Y_X5_skinFactor wm_618 (by decide) rfl 1 rfl rfl rfl [1, 5] rfl (by decide) rfl [none, some 0, none, none, none, some 1] (by decide) rfl (Nat.le_of_ble_eq_true rfl) rfl dX1_skinForce_6 ?_
  refine mg_aload_n (pc := 9) C 0 dX1_skinForce_9 rfl rfl ?_
  refine mg_get (pc := 10) C 0 rfl rfl inX1 0 (by decide) wm_200 rfl rfl dX1_skinForce_10 ?_
  refine mg_get (pc := 13) C 1 rfl rfl inX5 8 (by decide) wm_166 rfl rfl dX1_skinForce_13 ?_
  refine mg_iload_n (pc := 16) C 3 dX1_skinForce_16 rfl rfl ?_
  obtain ⟨q3, h4, hf⟩ := mg_b hf
  refine mg_callV (pc := 17) C (w2 := w_X1_skinForce k a_t a_t_site a_t_trial a_t_chosen a_t_site_ballast a_t_site_lubricated a_t_site_pose a_t_site_ground a_t_site_boulders a_t_site_records a_t_site_ground_layers a_t_site_ground_layers_values v_t_excess v_t_momentX v_t_momentY v_t_nextTiltX v_t_nextTiltY v_t_site_columns v_t_site_rows v_t_site_weight v_t_site_stiffness v_t_site_water v_t_site_ground_layers_count v_t_site_ground_layers_values v_t_site_lubricated) (c_X2_frictionAbove z.2.1 k a_t_site_ground a_t_site_ground_layers a_t_site_ground_layers_values v_t_site_ground_layers_count v_t_site_ground_layers_values fuel x3 q3 h4) Y_X2_frictionAbove wm_622 (by decide) rfl 2 rfl rfl rfl [2, 3, 4] rfl (by decide) rfl [none, none, some 0, some 1, some 2, none] (by decide) rfl (Nat.le_of_ble_eq_true rfl) rfl dX1_skinForce_17 ?_
  refine mg_imul (pc := 20) C dX1_skinForce_20 ?_
  obtain rfl := Option.some.inj hf
  exact E _ _ dX1_skinForce_21
abbrev w_X1_buoyancy (k : mg_K) (a_t a_t_site a_t_trial a_t_chosen a_t_site_ballast a_t_site_lubricated a_t_site_pose a_t_site_ground a_t_site_boulders a_t_site_records : Nat) (v_t_excess : Int32) (v_t_momentX : Int32) (v_t_momentY : Int32) (v_t_nextTiltX : Int32) (v_t_nextTiltY : Int32) (v_t_site_columns : Int32) (v_t_site_rows : Int32) (v_t_site_weight : Int32) (v_t_site_stiffness : Int32) (v_t_site_water : Int32) : va_W := [(a_t, .inr (1, [.ref a_t_site, .ref a_t_trial, .ref a_t_chosen, .int v_t_excess, .int v_t_momentX, .int v_t_momentY, .int v_t_nextTiltX, .int v_t_nextTiltY])), (a_t_site, .inr (5, [.int v_t_site_columns, .int v_t_site_rows, .int v_t_site_weight, .int v_t_site_stiffness, .int v_t_site_water, .ref a_t_site_ballast, .ref a_t_site_lubricated, .ref a_t_site_pose, .ref a_t_site_ground, .ref a_t_site_boulders, .ref a_t_site_records]))]
def f_X1_buoyancy (v_t_site_water : Int32) (x1 : Int32) : Option (Int32) := some (mg_mx 0 (x1 - v_t_site_water))
theorem Y_X1_buoyancy : mg_Y yX1_buoyancy cX1_buoyancy 2 (some .int) 1 := ⟨wm_627, wm_628, wm_2, wm_629, ⟨by decide +kernel, by decide +kernel, by decide +kernel⟩, by decide⟩
set_option maxRecDepth 100000 in
set_option maxHeartbeats 4000000 in
theorem c_X1_buoyancy (l : Launch) (k : mg_K) (a_t a_t_site a_t_trial a_t_chosen a_t_site_ballast a_t_site_lubricated a_t_site_pose a_t_site_ground a_t_site_boulders a_t_site_records : Nat) (v_t_excess : Int32) (v_t_momentX : Int32) (v_t_momentY : Int32) (v_t_nextTiltX : Int32) (v_t_nextTiltY : Int32) (v_t_site_columns : Int32) (v_t_site_rows : Int32) (v_t_site_weight : Int32) (v_t_site_stiffness : Int32) (v_t_site_water : Int32) (x1 : Int32) (q : Int32) (hf : f_X1_buoyancy v_t_site_water x1 = some q) : mg_M l yX1_buoyancy cX1_buoyancy 2 (some .int) 1 k [.ref a_t, .int x1] (w_X1_buoyancy k a_t a_t_site a_t_trial a_t_chosen a_t_site_ballast a_t_site_lubricated a_t_site_pose a_t_site_ground a_t_site_boulders a_t_site_records v_t_excess v_t_momentX v_t_momentY v_t_nextTiltX v_t_nextTiltY v_t_site_columns v_t_site_rows v_t_site_weight v_t_site_stiffness v_t_site_water) (w_X1_buoyancy k a_t a_t_site a_t_trial a_t_chosen a_t_site_ballast a_t_site_lubricated a_t_site_pose a_t_site_ground a_t_site_boulders a_t_site_records v_t_excess v_t_momentX v_t_momentY v_t_nextTiltX v_t_nextTiltY v_t_site_columns v_t_site_rows v_t_site_weight v_t_site_stiffness v_t_site_water) (some (.int q)) := by
  refine mg_Mi RX1 [(0, .ref a_t), (1, .int x1)] (by decide +kernel) rfl rfl (Nat.le_of_ble_eq_true rfl) ?_
  intro z A Q hl C E
  subst hl
  unfold f_X1_buoyancy at hf
  refine mg_iconst (pc := 0) C dX1_buoyancy_0 (v := 0) (by decide) ?_
  refine mg_iload_n (pc := 1) C 1 dX1_buoyancy_1 rfl rfl ?_
  refine mg_aload_n (pc := 2) C 0 dX1_buoyancy_2 rfl rfl ?_
  refine mg_get (pc := 3) C 0 rfl rfl inX1 0 (by decide) wm_200 rfl rfl dX1_buoyancy_3 ?_
  refine mg_get (pc := 6) C 1 rfl rfl inX5 4 (by decide) wm_154 rfl rfl dX1_buoyancy_6 ?_
  refine mg_isub (pc := 9) C dX1_buoyancy_9 ?_
  refine mg_mmax (pc := 10) C wm_599 wm_80 wm_7 wm_81 (by decide) (Nat.le_of_ble_eq_true rfl) dX1_buoyancy_10 ?_
  obtain rfl := Option.some.inj hf
  exact E _ _ dX1_buoyancy_13
abbrev w_X1_resistance (k : mg_K) (a_t a_p1 a_p1_bottoms a_t_site a_t_trial a_t_chosen a_t_site_ballast a_t_site_lubricated a_t_site_pose a_t_site_ground a_t_site_boulders a_t_site_records a_t_site_boulders_list a_t_site_boulders_list_values a_t_site_ground_layers a_t_site_ground_layers_values : Nat) (v_p1_depth : Int32) (v_p1_tiltX : Int32) (v_p1_tiltY : Int32) (v_p1_bottoms : Nat → Int32) (v_t_excess : Int32) (v_t_momentX : Int32) (v_t_momentY : Int32) (v_t_nextTiltX : Int32) (v_t_nextTiltY : Int32) (v_t_site_columns : Int32) (v_t_site_rows : Int32) (v_t_site_weight : Int32) (v_t_site_stiffness : Int32) (v_t_site_water : Int32) (v_t_site_boulders_list_count : Int32) (v_t_site_boulders_list_values : Nat → Int32) (v_t_site_ground_layers_count : Int32) (v_t_site_ground_layers_values : Nat → Int32) (v_t_site_lubricated : Nat → Int32) : va_W := [(a_p1, .inr (4, [.int v_p1_depth, .int v_p1_tiltX, .int v_p1_tiltY, .ref a_p1_bottoms])), (a_p1_bottoms, .inl (k.2.1, 49, .inl v_p1_bottoms)), (a_t, .inr (1, [.ref a_t_site, .ref a_t_trial, .ref a_t_chosen, .int v_t_excess, .int v_t_momentX, .int v_t_momentY, .int v_t_nextTiltX, .int v_t_nextTiltY])), (a_t_site, .inr (5, [.int v_t_site_columns, .int v_t_site_rows, .int v_t_site_weight, .int v_t_site_stiffness, .int v_t_site_water, .ref a_t_site_ballast, .ref a_t_site_lubricated, .ref a_t_site_pose, .ref a_t_site_ground, .ref a_t_site_boulders, .ref a_t_site_records])), (a_t_site_boulders, .inr (0, [.ref a_t_site_boulders_list])), (a_t_site_boulders_list, .inr (7, [.int 10, .ref a_t_site_boulders_list_values, .int v_t_site_boulders_list_count])), (a_t_site_boulders_list_values, .inl (k.2.1, 30, .inl v_t_site_boulders_list_values)), (a_t_site_ground, .inr (2, [.ref a_t_site_ground_layers])), (a_t_site_ground_layers, .inr (7, [.int 8, .ref a_t_site_ground_layers_values, .int v_t_site_ground_layers_count])), (a_t_site_ground_layers_values, .inl (k.2.1, 24, .inl v_t_site_ground_layers_values)), (a_t_site_lubricated, .inl (k.2.1, 4, .inl v_t_site_lubricated))]
def f_X1_resistance (fuel : Nat) (v_p1_depth : Int32) (v_p1_tiltX : Int32) (v_p1_tiltY : Int32) (v_p1_bottoms : Nat → Int32) (v_t_site_columns : Int32) (v_t_site_rows : Int32) (v_t_site_water : Int32) (v_t_site_boulders_list_count : Int32) (v_t_site_boulders_list_values : Nat → Int32) (v_t_site_ground_layers_count : Int32) (v_t_site_ground_layers_values : Nat → Int32) (v_t_site_lubricated : Nat → Int32) (x2 : Int32) (x3 : Int32) : Option (Int32) := (f_X1_edgeDepth v_p1_depth v_p1_tiltX v_p1_tiltY v_t_site_columns v_t_site_rows x2 x3).bind (fun q1 => (f_X1_support fuel v_p1_bottoms v_t_site_columns v_t_site_rows v_t_site_boulders_list_count v_t_site_boulders_list_values v_t_site_ground_layers_count v_t_site_ground_layers_values x2 x3 q1).bind (fun q3 => (f_X1_skinForce fuel v_t_site_columns v_t_site_rows v_t_site_ground_layers_count v_t_site_ground_layers_values v_t_site_lubricated x2 x3 q1).bind (fun q5 => (f_X1_buoyancy v_t_site_water q1).bind (fun q7 => some ((q3 + q5) + q7)))))
theorem Y_X1_resistance : mg_Y yX1_resistance cX1_resistance 5 (some .int) 3 := ⟨wm_649, wm_650, wm_2, wm_651, ⟨by decide +kernel, by decide +kernel, by decide +kernel⟩, by decide⟩
set_option maxRecDepth 100000 in
set_option maxHeartbeats 4000000 in
theorem c_X1_resistance (l : Launch) (k : mg_K) (a_t a_p1 a_p1_bottoms a_t_site a_t_trial a_t_chosen a_t_site_ballast a_t_site_lubricated a_t_site_pose a_t_site_ground a_t_site_boulders a_t_site_records a_t_site_boulders_list a_t_site_boulders_list_values a_t_site_ground_layers a_t_site_ground_layers_values : Nat) (v_p1_depth : Int32) (v_p1_tiltX : Int32) (v_p1_tiltY : Int32) (v_p1_bottoms : Nat → Int32) (v_t_excess : Int32) (v_t_momentX : Int32) (v_t_momentY : Int32) (v_t_nextTiltX : Int32) (v_t_nextTiltY : Int32) (v_t_site_columns : Int32) (v_t_site_rows : Int32) (v_t_site_weight : Int32) (v_t_site_stiffness : Int32) (v_t_site_water : Int32) (v_t_site_boulders_list_count : Int32) (v_t_site_boulders_list_values : Nat → Int32) (v_t_site_ground_layers_count : Int32) (v_t_site_ground_layers_values : Nat → Int32) (v_t_site_lubricated : Nat → Int32) (fuel : Nat) (x2 : Int32) (x3 : Int32) (q : Int32) (hf : f_X1_resistance fuel v_p1_depth v_p1_tiltX v_p1_tiltY v_p1_bottoms v_t_site_columns v_t_site_rows v_t_site_water v_t_site_boulders_list_count v_t_site_boulders_list_values v_t_site_ground_layers_count v_t_site_ground_layers_values v_t_site_lubricated x2 x3 = some q) : mg_M l yX1_resistance cX1_resistance 5 (some .int) 3 k [.ref a_t, .ref a_p1, .int x2, .int x3] (w_X1_resistance k a_t a_p1 a_p1_bottoms a_t_site a_t_trial a_t_chosen a_t_site_ballast a_t_site_lubricated a_t_site_pose a_t_site_ground a_t_site_boulders a_t_site_records a_t_site_boulders_list a_t_site_boulders_list_values a_t_site_ground_layers a_t_site_ground_layers_values v_p1_depth v_p1_tiltX v_p1_tiltY v_p1_bottoms v_t_excess v_t_momentX v_t_momentY v_t_nextTiltX v_t_nextTiltY v_t_site_columns v_t_site_rows v_t_site_weight v_t_site_stiffness v_t_site_water v_t_site_boulders_list_count v_t_site_boulders_list_values v_t_site_ground_layers_count v_t_site_ground_layers_values v_t_site_lubricated) (w_X1_resistance k a_t a_p1 a_p1_bottoms a_t_site a_t_trial a_t_chosen a_t_site_ballast a_t_site_lubricated a_t_site_pose a_t_site_ground a_t_site_boulders a_t_site_records a_t_site_boulders_list a_t_site_boulders_list_values a_t_site_ground_layers a_t_site_ground_layers_values v_p1_depth v_p1_tiltX v_p1_tiltY v_p1_bottoms v_t_excess v_t_momentX v_t_momentY v_t_nextTiltX v_t_nextTiltY v_t_site_columns v_t_site_rows v_t_site_weight v_t_site_stiffness v_t_site_water v_t_site_boulders_list_count v_t_site_boulders_list_values v_t_site_ground_layers_count v_t_site_ground_layers_values v_t_site_lubricated) (some (.int q)) := by
  refine mg_Mi RX1 [(0, .ref a_t), (1, .ref a_p1), (2, .int x2), (3, .int x3)] (by decide +kernel) rfl rfl (Nat.le_of_ble_eq_true rfl) ?_
  intro z A Q hl C E
  subst hl
  unfold f_X1_resistance at hf
  refine mg_aload_n (pc := 0) C 0 dX1_resistance_0 rfl rfl ?_
  refine mg_aload_n (pc := 1) C 1 dX1_resistance_1 rfl rfl ?_
  refine mg_iload_n (pc := 2) C 2 dX1_resistance_2 rfl rfl ?_
  refine mg_iload_n (pc := 3) C 3 dX1_resistance_3 rfl rfl ?_
  obtain ⟨q1, h2, hf⟩ := mg_b hf
  refine mg_callV (pc := 4) C (w2 := w_X1_resistance k a_t a_p1 a_p1_bottoms a_t_site a_t_trial a_t_chosen a_t_site_ballast a_t_site_lubricated a_t_site_pose a_t_site_ground a_t_site_boulders a_t_site_records a_t_site_boulders_list a_t_site_boulders_list_values a_t_site_ground_layers a_t_site_ground_layers_values v_p1_depth v_p1_tiltX v_p1_tiltY v_p1_bottoms v_t_excess v_t_momentX v_t_momentY v_t_nextTiltX v_t_nextTiltY v_t_site_columns v_t_site_rows v_t_site_weight v_t_site_stiffness v_t_site_water v_t_site_boulders_list_count v_t_site_boulders_list_values v_t_site_ground_layers_count v_t_site_ground_layers_values v_t_site_lubricated) (c_X1_edgeDepth z.2.1 k a_t a_p1 a_p1_bottoms a_t_site a_t_trial a_t_chosen a_t_site_ballast a_t_site_lubricated a_t_site_pose a_t_site_ground a_t_site_boulders a_t_site_records v_p1_depth v_p1_tiltX v_p1_tiltY v_t_excess v_t_momentX v_t_momentY v_t_nextTiltX v_t_nextTiltY v_t_site_columns v_t_site_rows v_t_site_weight v_t_site_stiffness v_t_site_water x2 x3 q1 h2) Y_X1_edgeDepth wm_652 (by decide) rfl 2 rfl rfl rfl [0, 2, 3] rfl (by decide) rfl [some 0, none, some 1, some 2, none, none, none, none, none, none, none] (by decide) rfl (Nat.le_of_ble_eq_true rfl) rfl dX1_resistance_4 ?_
  refine mg_istore (pc := 7) C (lv' := [(4, .int q1), (0, .ref a_t), (1, .ref a_p1), (2, .int x2), (3, .int x3)]) dX1_resistance_7 (by decide) rfl ?_
  refine mg_aload_n (pc := 9) C 1 dX1_resistance_9 rfl rfl ?_
  refine mg_aload_n (pc := 10) C 2 dX1_resistance_10 rfl rfl ?_
  refine mg_iload_n (pc := 11) C 3 dX1_resistance_11 rfl rfl ?_
  refine mg_iload_n (pc := 12) C 4 dX1_resistance_12 rfl rfl ?_
  refine mg_iload (pc := 13) C 0 dX1_resistance_13 rfl ?_
  obtain ⟨q3, h4, hf⟩ := mg_b hf
  refine mg_callV (pc := 15) C (w2 := w_X1_resistance k a_t a_p1 a_p1_bottoms a_t_site a_t_trial a_t_chosen a_t_site_ballast a_t_site_lubricated a_t_site_pose a_t_site_ground a_t_site_boulders a_t_site_records a_t_site_boulders_list a_t_site_boulders_list_values a_t_site_ground_layers a_t_site_ground_layers_values v_p1_depth v_p1_tiltX v_p1_tiltY v_p1_bottoms v_t_excess v_t_momentX v_t_momentY v_t_nextTiltX v_t_nextTiltY v_t_site_columns v_t_site_rows v_t_site_weight v_t_site_stiffness v_t_site_water v_t_site_boulders_list_count v_t_site_boulders_list_values v_t_site_ground_layers_count v_t_site_ground_layers_values v_t_site_lubricated) (c_X1_support z.2.1 k a_t a_p1 a_p1_bottoms a_t_site a_t_trial a_t_chosen a_t_site_ballast a_t_site_lubricated a_t_site_pose a_t_site_ground a_t_site_boulders a_t_site_records a_t_site_boulders_list a_t_site_boulders_list_values a_t_site_ground_layers a_t_site_ground_layers_values v_p1_depth v_p1_tiltX v_p1_tiltY v_p1_bottoms v_t_excess v_t_momentX v_t_momentY v_t_nextTiltX v_t_nextTiltY v_t_site_columns v_t_site_rows v_t_site_weight v_t_site_stiffness v_t_site_water v_t_site_boulders_list_count v_t_site_boulders_list_values v_t_site_ground_layers_count v_t_site_ground_layers_values fuel x2 x3 q1 q3 h4) Y_X1_support wm_653 (by decide) rfl 2 rfl rfl rfl [0, 1, 2, 3, 4, 5, 6, 7, 8, 9] rfl (by decide) rfl [some 0, some 1, some 2, some 3, some 4, some 5, some 6, some 7, some 8, some 9, none] (by decide) rfl (Nat.le_of_ble_eq_true rfl) rfl dX1_resistance_15 ?_
  refine mg_aload_n (pc := 18) C 1 dX1_resistance_18 rfl rfl ?_
  refine mg_iload_n (pc := 19) C 3 dX1_resistance_19 rfl rfl ?_
  refine mg_iload_n (pc := 20) C 4 dX1_resistance_20 rfl rfl ?_
  refine mg_iload (pc := 21) C 0 dX1_resistance_21 rfl ?_
  obtain ⟨q5, h6, hf⟩ := mg_b hf
  refine mg_callV (pc := 23) C (w2 := w_X1_resistance k a_t a_p1 a_p1_bottoms a_t_site a_t_trial a_t_chosen a_t_site_ballast a_t_site_lubricated a_t_site_pose a_t_site_ground a_t_site_boulders a_t_site_records a_t_site_boulders_list a_t_site_boulders_list_values a_t_site_ground_layers a_t_site_ground_layers_values v_p1_depth v_p1_tiltX v_p1_tiltY v_p1_bottoms v_t_excess v_t_momentX v_t_momentY v_t_nextTiltX v_t_nextTiltY v_t_site_columns v_t_site_rows v_t_site_weight v_t_site_stiffness v_t_site_water v_t_site_boulders_list_count v_t_site_boulders_list_values v_t_site_ground_layers_count v_t_site_ground_layers_values v_t_site_lubricated) (c_X1_skinForce z.2.1 k a_t a_t_site a_t_trial a_t_chosen a_t_site_ballast a_t_site_lubricated a_t_site_pose a_t_site_ground a_t_site_boulders a_t_site_records a_t_site_ground_layers a_t_site_ground_layers_values v_t_excess v_t_momentX v_t_momentY v_t_nextTiltX v_t_nextTiltY v_t_site_columns v_t_site_rows v_t_site_weight v_t_site_stiffness v_t_site_water v_t_site_ground_layers_count v_t_site_ground_layers_values v_t_site_lubricated fuel x2 x3 q1 q5 h6) Y_X1_skinForce wm_654 (by decide) rfl 2 rfl rfl rfl [2, 3, 7, 8, 9, 10] rfl (by decide) rfl [none, none, some 0, some 1, none, none, none, some 2, some 3, some 4, some 5] (by decide) rfl (Nat.le_of_ble_eq_true rfl) rfl dX1_resistance_23 ?_
  refine mg_iadd (pc := 26) C dX1_resistance_26 ?_
  refine mg_aload_n (pc := 27) C 1 dX1_resistance_27 rfl rfl ?_
  refine mg_iload (pc := 28) C 0 dX1_resistance_28 rfl ?_
  obtain ⟨q7, h8, hf⟩ := mg_b hf
  refine mg_callV (pc := 30) C (w2 := w_X1_resistance k a_t a_p1 a_p1_bottoms a_t_site a_t_trial a_t_chosen a_t_site_ballast a_t_site_lubricated a_t_site_pose a_t_site_ground a_t_site_boulders a_t_site_records a_t_site_boulders_list a_t_site_boulders_list_values a_t_site_ground_layers a_t_site_ground_layers_values v_p1_depth v_p1_tiltX v_p1_tiltY v_p1_bottoms v_t_excess v_t_momentX v_t_momentY v_t_nextTiltX v_t_nextTiltY v_t_site_columns v_t_site_rows v_t_site_weight v_t_site_stiffness v_t_site_water v_t_site_boulders_list_count v_t_site_boulders_list_values v_t_site_ground_layers_count v_t_site_ground_layers_values v_t_site_lubricated) (c_X1_buoyancy z.2.1 k a_t a_t_site a_t_trial a_t_chosen a_t_site_ballast a_t_site_lubricated a_t_site_pose a_t_site_ground a_t_site_boulders a_t_site_records v_t_excess v_t_momentX v_t_momentY v_t_nextTiltX v_t_nextTiltY v_t_site_columns v_t_site_rows v_t_site_weight v_t_site_stiffness v_t_site_water q1 q7 h8) Y_X1_buoyancy wm_655 (by decide) rfl 2 rfl rfl rfl [2, 3] rfl (by decide) rfl [none, none, some 0, some 1, none, none, none, none, none, none, none] (by decide) rfl (Nat.le_of_ble_eq_true rfl) rfl dX1_resistance_30 ?_
  refine mg_iadd (pc := 33) C dX1_resistance_33 ?_
  obtain rfl := Option.some.inj hf
  exact E _ _ dX1_resistance_34
abbrev w_X1_turn (k : mg_K) (a_t a_t_site a_t_trial a_t_chosen a_t_site_ballast a_t_site_lubricated a_t_site_pose a_t_site_ground a_t_site_boulders a_t_site_records : Nat) (v_t_excess : Int32) (v_t_momentX : Int32) (v_t_momentY : Int32) (v_t_nextTiltX : Int32) (v_t_nextTiltY : Int32) (v_t_site_columns : Int32) (v_t_site_rows : Int32) (v_t_site_weight : Int32) (v_t_site_stiffness : Int32) (v_t_site_water : Int32) : va_W := [(a_t, .inr (1, [.ref a_t_site, .ref a_t_trial, .ref a_t_chosen, .int v_t_excess, .int v_t_momentX, .int v_t_momentY, .int v_t_nextTiltX, .int v_t_nextTiltY])), (a_t_site, .inr (5, [.int v_t_site_columns, .int v_t_site_rows, .int v_t_site_weight, .int v_t_site_stiffness, .int v_t_site_water, .ref a_t_site_ballast, .ref a_t_site_lubricated, .ref a_t_site_pose, .ref a_t_site_ground, .ref a_t_site_boulders, .ref a_t_site_records]))]
def f_X1_turn (v_t_site_stiffness : Int32) (x1 : Int32) : Option (Int32) := if x1 ≤ v_t_site_stiffness then (if (-v_t_site_stiffness) ≤ x1 then (some 0) else (some 1)) else (some (-1))
theorem Y_X1_turn : mg_Y yX1_turn cX1_turn 2 (some .int) 1 := ⟨wm_658, wp_14, wm_2, wm_659, ⟨by decide +kernel, by decide +kernel, by decide +kernel⟩, by decide⟩
set_option maxRecDepth 100000 in
set_option maxHeartbeats 4000000 in
theorem c_X1_turn (l : Launch) (k : mg_K) (a_t a_t_site a_t_trial a_t_chosen a_t_site_ballast a_t_site_lubricated a_t_site_pose a_t_site_ground a_t_site_boulders a_t_site_records : Nat) (v_t_excess : Int32) (v_t_momentX : Int32) (v_t_momentY : Int32) (v_t_nextTiltX : Int32) (v_t_nextTiltY : Int32) (v_t_site_columns : Int32) (v_t_site_rows : Int32) (v_t_site_weight : Int32) (v_t_site_stiffness : Int32) (v_t_site_water : Int32) (x1 : Int32) (q : Int32) (hf : f_X1_turn v_t_site_stiffness x1 = some q) : mg_M l yX1_turn cX1_turn 2 (some .int) 0 k [.ref a_t, .int x1] (w_X1_turn k a_t a_t_site a_t_trial a_t_chosen a_t_site_ballast a_t_site_lubricated a_t_site_pose a_t_site_ground a_t_site_boulders a_t_site_records v_t_excess v_t_momentX v_t_momentY v_t_nextTiltX v_t_nextTiltY v_t_site_columns v_t_site_rows v_t_site_weight v_t_site_stiffness v_t_site_water) (w_X1_turn k a_t a_t_site a_t_trial a_t_chosen a_t_site_ballast a_t_site_lubricated a_t_site_pose a_t_site_ground a_t_site_boulders a_t_site_records v_t_excess v_t_momentX v_t_momentY v_t_nextTiltX v_t_nextTiltY v_t_site_columns v_t_site_rows v_t_site_weight v_t_site_stiffness v_t_site_water) (some (.int q)) := by
  refine mg_Mi RX1 [(0, .ref a_t), (1, .int x1)] (by decide +kernel) rfl rfl (Nat.le_of_ble_eq_true rfl) ?_
  intro z A Q hl C E
  subst hl
  unfold f_X1_turn at hf
  refine mg_iload_n (pc := 0) C 1 dX1_turn_0 rfl rfl ?_
  refine mg_aload_n (pc := 1) C 0 dX1_turn_1 rfl rfl ?_
  refine mg_get (pc := 2) C 0 rfl rfl inX1 0 (by decide) wm_200 rfl rfl dX1_turn_2 ?_
  refine mg_get (pc := 5) C 1 rfl rfl inX5 3 (by decide) wm_151 rfl rfl dX1_turn_5 ?_
  refine mg_icmp_le (pc := 8) (tgt := 13) C dX1_turn_8 (by decide) hf (fun hf => ?_) (fun hf => ?_)
  · refine mg_iload_n (pc := 13) C 1 dX1_turn_13 rfl rfl ?_
    refine mg_aload_n (pc := 14) C 0 dX1_turn_14 rfl rfl ?_
    refine mg_get (pc := 15) C 0 rfl rfl inX1 0 (by decide) wm_200 rfl rfl dX1_turn_15 ?_
    refine mg_get (pc := 18) C 1 rfl rfl inX5 3 (by decide) wm_151 rfl rfl dX1_turn_18 ?_
    refine mg_ineg (pc := 21) C dX1_turn_21 ?_
    refine mg_icmp_ge (pc := 22) (tgt := 29) C dX1_turn_22 (by decide) hf (fun hf => ?_) (fun hf => ?_)
    · refine mg_iconst (pc := 29) C dX1_turn_29 (v := 0) (by decide) ?_
      obtain rfl := Option.some.inj hf
      exact E _ _ dX1_turn_30
    · refine mg_iconst (pc := 25) C dX1_turn_25 (v := 1) (by decide) ?_
      refine mg_goto (pc := 26) (tgt := 30) C dX1_turn_26 (by decide) ?_
      obtain rfl := Option.some.inj hf
      exact E _ _ dX1_turn_30
  · refine mg_iconst (pc := 11) C dX1_turn_11 (v := (-1)) (by decide) ?_
    obtain rfl := Option.some.inj hf
    exact E _ _ dX1_turn_12
abbrev w_X1_examine (k : mg_K) (a_t a_p1 a_p1_bottoms a_t_site a_t_trial a_t_chosen a_t_site_ballast a_t_site_lubricated a_t_site_pose a_t_site_ground a_t_site_boulders a_t_site_records a_t_site_boulders_list a_t_site_boulders_list_values a_t_site_ground_layers a_t_site_ground_layers_values : Nat) (v_p1_depth : Int32) (v_p1_tiltX : Int32) (v_p1_tiltY : Int32) (v_p1_bottoms : Nat → Int32) (v_t_excess : Int32) (v_t_momentX : Int32) (v_t_momentY : Int32) (v_t_nextTiltX : Int32) (v_t_nextTiltY : Int32) (v_t_site_columns : Int32) (v_t_site_rows : Int32) (v_t_site_weight : Int32) (v_t_site_stiffness : Int32) (v_t_site_water : Int32) (v_t_site_ballast : Nat → Int32) (v_t_site_boulders_list_count : Int32) (v_t_site_boulders_list_values : Nat → Int32) (v_t_site_ground_layers_count : Int32) (v_t_site_ground_layers_values : Nat → Int32) (v_t_site_lubricated : Nat → Int32) : va_W := [(a_p1, .inr (4, [.int v_p1_depth, .int v_p1_tiltX, .int v_p1_tiltY, .ref a_p1_bottoms])), (a_p1_bottoms, .inl (k.2.1, 49, .inl v_p1_bottoms)), (a_t, .inr (1, [.ref a_t_site, .ref a_t_trial, .ref a_t_chosen, .int v_t_excess, .int v_t_momentX, .int v_t_momentY, .int v_t_nextTiltX, .int v_t_nextTiltY])), (a_t_site, .inr (5, [.int v_t_site_columns, .int v_t_site_rows, .int v_t_site_weight, .int v_t_site_stiffness, .int v_t_site_water, .ref a_t_site_ballast, .ref a_t_site_lubricated, .ref a_t_site_pose, .ref a_t_site_ground, .ref a_t_site_boulders, .ref a_t_site_records])), (a_t_site_ballast, .inl (k.2.1, 49, .inl v_t_site_ballast)), (a_t_site_boulders, .inr (0, [.ref a_t_site_boulders_list])), (a_t_site_boulders_list, .inr (7, [.int 10, .ref a_t_site_boulders_list_values, .int v_t_site_boulders_list_count])), (a_t_site_boulders_list_values, .inl (k.2.1, 30, .inl v_t_site_boulders_list_values)), (a_t_site_ground, .inr (2, [.ref a_t_site_ground_layers])), (a_t_site_ground_layers, .inr (7, [.int 8, .ref a_t_site_ground_layers_values, .int v_t_site_ground_layers_count])), (a_t_site_ground_layers_values, .inl (k.2.1, 24, .inl v_t_site_ground_layers_values)), (a_t_site_lubricated, .inl (k.2.1, 4, .inl v_t_site_lubricated))]
def f_X1_examine_J97 (rec_ : Int32 → Int32 → Int32 → Int32 → Option (Int32 × Int32 × Int32 × Int32)) (v_t_excess : Int32) (v_t_momentX : Int32) (v_t_momentY : Int32) (v_t_site_columns : Int32) (v_t_site_rows : Int32) (x2 : Int32) (x3 : Int32) (x4 : Int32) : Option (Int32 × Int32 × Int32 × Int32) := rec_ (x3 + 1) (v_t_excess - x4) (v_t_momentX + ((((2 * x3) - v_t_site_columns) + 1) * x4)) (v_t_momentY + ((((2 * x2) - v_t_site_rows) + 1) * x4))
def f_X1_examine_L38 (fuel : Nat) (v_p1_depth : Int32) (v_p1_tiltX : Int32) (v_p1_tiltY : Int32) (v_p1_bottoms : Nat → Int32) (v_t_site_columns : Int32) (v_t_site_rows : Int32) (v_t_site_water : Int32) (v_t_site_ballast : Nat → Int32) (v_t_site_boulders_list_count : Int32) (v_t_site_boulders_list_values : Nat → Int32) (v_t_site_ground_layers_count : Int32) (v_t_site_ground_layers_values : Nat → Int32) (v_t_site_lubricated : Nat → Int32) (x2 : Int32) : Nat → Int32 → Int32 → Int32 → Int32 → Option (Int32 × Int32 × Int32 × Int32)
  | 0, _, _, _, _ => none
  | n_ + 1, x3, v_t_excess, v_t_momentX, v_t_momentY => if v_t_site_columns ≤ x3 then (some ((x3, v_t_excess, v_t_momentX, v_t_momentY))) else (if mg_ix ((x2 * v_t_site_columns) + x3) 49 = true then ((f_X5_isEdgeAt v_t_site_columns v_t_site_rows x3 x2).bind (fun q1 => if q1 = 0 then (f_X1_examine_J97 (f_X1_examine_L38 fuel v_p1_depth v_p1_tiltX v_p1_tiltY v_p1_bottoms v_t_site_columns v_t_site_rows v_t_site_water v_t_site_ballast v_t_site_boulders_list_count v_t_site_boulders_list_values v_t_site_ground_layers_count v_t_site_ground_layers_values v_t_site_lubricated x2 n_) v_t_excess v_t_momentX v_t_momentY v_t_site_columns v_t_site_rows x2 x3 ((-4) * (v_t_site_ballast (Int32.toNatClampNeg ((x2 * v_t_site_columns) + x3))))) else ((f_X1_resistance fuel v_p1_depth v_p1_tiltX v_p1_tiltY v_p1_bottoms v_t_site_columns v_t_site_rows v_t_site_water v_t_site_boulders_list_count v_t_site_boulders_list_values v_t_site_ground_layers_count v_t_site_ground_layers_values v_t_site_lubricated x3 x2).bind (fun q3 => f_X1_examine_J97 (f_X1_examine_L38 fuel v_p1_depth v_p1_tiltX v_p1_tiltY v_p1_bottoms v_t_site_columns v_t_site_rows v_t_site_water v_t_site_ballast v_t_site_boulders_list_count v_t_site_boulders_list_values v_t_site_ground_layers_count v_t_site_ground_layers_values v_t_site_lubricated x2 n_) v_t_excess v_t_momentX v_t_momentY v_t_site_columns v_t_site_rows x2 x3 (((-4) * (v_t_site_ballast (Int32.toNatClampNeg ((x2 * v_t_site_columns) + x3)))) + q3))))) else none)
def f_X1_examine_L25 (fuel : Nat) (v_p1_depth : Int32) (v_p1_tiltX : Int32) (v_p1_tiltY : Int32) (v_p1_bottoms : Nat → Int32) (v_t_site_columns : Int32) (v_t_site_rows : Int32) (v_t_site_water : Int32) (v_t_site_ballast : Nat → Int32) (v_t_site_boulders_list_count : Int32) (v_t_site_boulders_list_values : Nat → Int32) (v_t_site_ground_layers_count : Int32) (v_t_site_ground_layers_values : Nat → Int32) (v_t_site_lubricated : Nat → Int32) : Nat → Int32 → Int32 → Int32 → Int32 → Option (Int32 × Int32 × Int32 × Int32)
  | 0, _, _, _, _ => none
  | n_ + 1, x2, v_t_excess, v_t_momentX, v_t_momentY => if v_t_site_rows ≤ x2 then (some ((x2, v_t_excess, v_t_momentX, v_t_momentY))) else ((f_X1_examine_L38 fuel v_p1_depth v_p1_tiltX v_p1_tiltY v_p1_bottoms v_t_site_columns v_t_site_rows v_t_site_water v_t_site_ballast v_t_site_boulders_list_count v_t_site_boulders_list_values v_t_site_ground_layers_count v_t_site_ground_layers_values v_t_site_lubricated x2 fuel 0 v_t_excess v_t_momentX v_t_momentY).bind (fun q5 => f_X1_examine_L25 fuel v_p1_depth v_p1_tiltX v_p1_tiltY v_p1_bottoms v_t_site_columns v_t_site_rows v_t_site_water v_t_site_ballast v_t_site_boulders_list_count v_t_site_boulders_list_values v_t_site_ground_layers_count v_t_site_ground_layers_values v_t_site_lubricated n_ (x2 + 1) q5.2.1 q5.2.2.1 q5.2.2.2))
def f_X1_examine (fuel : Nat) (v_p1_depth : Int32) (v_p1_tiltX : Int32) (v_p1_tiltY : Int32) (v_p1_bottoms : Nat → Int32) (v_t_nextTiltX : Int32) (v_t_nextTiltY : Int32) (v_t_site_columns : Int32) (v_t_site_rows : Int32) (v_t_site_weight : Int32) (v_t_site_stiffness : Int32) (v_t_site_water : Int32) (v_t_site_ballast : Nat → Int32) (v_t_site_boulders_list_count : Int32) (v_t_site_boulders_list_values : Nat → Int32) (v_t_site_ground_layers_count : Int32) (v_t_site_ground_layers_values : Nat → Int32) (v_t_site_lubricated : Nat → Int32) : Option (Int32 × Int32 × Int32 × Int32 × Int32 × Int32) := (f_X1_examine_L25 fuel v_p1_depth v_p1_tiltX v_p1_tiltY v_p1_bottoms v_t_site_columns v_t_site_rows v_t_site_water v_t_site_ballast v_t_site_boulders_list_count v_t_site_boulders_list_values v_t_site_ground_layers_count v_t_site_ground_layers_values v_t_site_lubricated fuel 0 (4 * v_t_site_weight) 0 0).bind (fun q7 => if q7.2.1 ≤ 0 then (some (0, q7.2.1, q7.2.2.1, q7.2.2.2, v_t_nextTiltX, v_t_nextTiltY)) else (if v_p1_depth < 200 then ((f_X1_turn v_t_site_stiffness q7.2.2.1).bind (fun q9 => (f_X1_turn v_t_site_stiffness q7.2.2.2).bind (fun q11 => if 5 < (mg_ab (v_p1_tiltX + q9)) then (some (2, q7.2.1, q7.2.2.1, q7.2.2.2, v_p1_tiltX + q9, v_p1_tiltY + q11)) else (if (mg_ab (v_p1_tiltY + q11)) ≤ 5 then (some (1, q7.2.1, q7.2.2.1, q7.2.2.2, v_p1_tiltX + q9, v_p1_tiltY + q11)) else (some (2, q7.2.1, q7.2.2.1, q7.2.2.2, v_p1_tiltX + q9, v_p1_tiltY + q11)))))) else (some (0, q7.2.1, q7.2.2.1, q7.2.2.2, v_t_nextTiltX, v_t_nextTiltY))))
theorem Y_X1_examine : mg_Y yX1_examine cX1_examine 5 (some .int) 1 := ⟨wm_644, wm_645, wm_2, wm_646, ⟨by decide +kernel, by decide +kernel, by decide +kernel⟩, by decide⟩
set_option maxRecDepth 100000 in
set_option maxHeartbeats 4000000 in
theorem c_X1_examine (l : Launch) (k : mg_K) (a_t a_p1 a_p1_bottoms a_t_site a_t_trial a_t_chosen a_t_site_ballast a_t_site_lubricated a_t_site_pose a_t_site_ground a_t_site_boulders a_t_site_records a_t_site_boulders_list a_t_site_boulders_list_values a_t_site_ground_layers a_t_site_ground_layers_values : Nat) (v_p1_depth : Int32) (v_p1_tiltX : Int32) (v_p1_tiltY : Int32) (v_p1_bottoms : Nat → Int32) (v_t_excess : Int32) (v_t_momentX : Int32) (v_t_momentY : Int32) (v_t_nextTiltX : Int32) (v_t_nextTiltY : Int32) (v_t_site_columns : Int32) (v_t_site_rows : Int32) (v_t_site_weight : Int32) (v_t_site_stiffness : Int32) (v_t_site_water : Int32) (v_t_site_ballast : Nat → Int32) (v_t_site_boulders_list_count : Int32) (v_t_site_boulders_list_values : Nat → Int32) (v_t_site_ground_layers_count : Int32) (v_t_site_ground_layers_values : Nat → Int32) (v_t_site_lubricated : Nat → Int32) (fuel : Nat) (q : Int32 × Int32 × Int32 × Int32 × Int32 × Int32) (hf : f_X1_examine fuel v_p1_depth v_p1_tiltX v_p1_tiltY v_p1_bottoms v_t_nextTiltX v_t_nextTiltY v_t_site_columns v_t_site_rows v_t_site_weight v_t_site_stiffness v_t_site_water v_t_site_ballast v_t_site_boulders_list_count v_t_site_boulders_list_values v_t_site_ground_layers_count v_t_site_ground_layers_values v_t_site_lubricated = some q) : mg_M l yX1_examine cX1_examine 5 (some .int) 4 k [.ref a_t, .ref a_p1] (w_X1_examine k a_t a_p1 a_p1_bottoms a_t_site a_t_trial a_t_chosen a_t_site_ballast a_t_site_lubricated a_t_site_pose a_t_site_ground a_t_site_boulders a_t_site_records a_t_site_boulders_list a_t_site_boulders_list_values a_t_site_ground_layers a_t_site_ground_layers_values v_p1_depth v_p1_tiltX v_p1_tiltY v_p1_bottoms v_t_excess v_t_momentX v_t_momentY v_t_nextTiltX v_t_nextTiltY v_t_site_columns v_t_site_rows v_t_site_weight v_t_site_stiffness v_t_site_water v_t_site_ballast v_t_site_boulders_list_count v_t_site_boulders_list_values v_t_site_ground_layers_count v_t_site_ground_layers_values v_t_site_lubricated) (w_X1_examine k a_t a_p1 a_p1_bottoms a_t_site a_t_trial a_t_chosen a_t_site_ballast a_t_site_lubricated a_t_site_pose a_t_site_ground a_t_site_boulders a_t_site_records a_t_site_boulders_list a_t_site_boulders_list_values a_t_site_ground_layers a_t_site_ground_layers_values v_p1_depth v_p1_tiltX v_p1_tiltY v_p1_bottoms q.2.1 q.2.2.1 q.2.2.2.1 q.2.2.2.2.1 q.2.2.2.2.2 v_t_site_columns v_t_site_rows v_t_site_weight v_t_site_stiffness v_t_site_water v_t_site_ballast v_t_site_boulders_list_count v_t_site_boulders_list_values v_t_site_ground_layers_count v_t_site_ground_layers_values v_t_site_lubricated) (some (.int q.1)) := by
  refine mg_Mi RX1 [(0, .ref a_t), (1, .ref a_p1)] (by decide +kernel) rfl rfl (Nat.le_of_ble_eq_true rfl) ?_
  intro z A Q hl C E
  subst hl
  unfold f_X1_examine at hf
  have L25 : ∀ (v_t_nextTiltX : Int32) (v_t_nextTiltY : Int32) (n_ : Nat) (x2 : Int32) (v_t_excess : Int32) (v_t_momentX : Int32) (v_t_momentY : Int32) (q_ : Int32 × Int32 × Int32 × Int32), f_X1_examine_L25 fuel v_p1_depth v_p1_tiltX v_p1_tiltY v_p1_bottoms v_t_site_columns v_t_site_rows v_t_site_water v_t_site_ballast v_t_site_boulders_list_count v_t_site_boulders_list_values v_t_site_ground_layers_count v_t_site_ground_layers_values v_t_site_lubricated n_ x2 v_t_excess v_t_momentX v_t_momentY = some q_ → (mg z k A 5 0 0 Q (w_X1_examine k a_t a_p1 a_p1_bottoms a_t_site a_t_trial a_t_chosen a_t_site_ballast a_t_site_lubricated a_t_site_pose a_t_site_ground a_t_site_boulders a_t_site_records a_t_site_boulders_list a_t_site_boulders_list_values a_t_site_ground_layers a_t_site_ground_layers_values v_p1_depth v_p1_tiltX v_p1_tiltY v_p1_bottoms q_.2.1 q_.2.2.1 q_.2.2.2 v_t_nextTiltX v_t_nextTiltY v_t_site_columns v_t_site_rows v_t_site_weight v_t_site_stiffness v_t_site_water v_t_site_ballast v_t_site_boulders_list_count v_t_site_boulders_list_values v_t_site_ground_layers_count v_t_site_ground_layers_values v_t_site_lubricated) [(0, .ref a_t), (1, .ref a_p1)] 170 []) → mg z k A 5 0 0 Q (w_X1_examine k a_t a_p1 a_p1_bottoms a_t_site a_t_trial a_t_chosen a_t_site_ballast a_t_site_lubricated a_t_site_pose a_t_site_ground a_t_site_boulders a_t_site_records a_t_site_boulders_list a_t_site_boulders_list_values a_t_site_ground_layers a_t_site_ground_layers_values v_p1_depth v_p1_tiltX v_p1_tiltY v_p1_bottoms v_t_excess v_t_momentX v_t_momentY v_t_nextTiltX v_t_nextTiltY v_t_site_columns v_t_site_rows v_t_site_weight v_t_site_stiffness v_t_site_water v_t_site_ballast v_t_site_boulders_list_count v_t_site_boulders_list_values v_t_site_ground_layers_count v_t_site_ground_layers_values v_t_site_lubricated) [(0, .ref a_t), (1, .ref a_p1), (2, .int x2)] 25 [] := by
    intro v_t_nextTiltX v_t_nextTiltY n_
    induction n_ with
    | zero => intro x2 v_t_excess v_t_momentX v_t_momentY q_ hf; exact mg_no (show none = some q_ from hf)
    | succ n_ ih =>
      intro x2 v_t_excess v_t_momentX v_t_momentY q_ hf X0
      rw [f_X1_examine_L25] at hf
      have L38 : ∀ (x2 : Int32) (n_ : Nat) (x3 : Int32) (v_t_excess : Int32) (v_t_momentX : Int32) (v_t_momentY : Int32) (q_ : Int32 × Int32 × Int32 × Int32), f_X1_examine_L38 fuel v_p1_depth v_p1_tiltX v_p1_tiltY v_p1_bottoms v_t_site_columns v_t_site_rows v_t_site_water v_t_site_ballast v_t_site_boulders_list_count v_t_site_boulders_list_values v_t_site_ground_layers_count v_t_site_ground_layers_values v_t_site_lubricated x2 n_ x3 v_t_excess v_t_momentX v_t_momentY = some q_ → (mg z k A 5 0 0 Q (w_X1_examine k a_t a_p1 a_p1_bottoms a_t_site a_t_trial a_t_chosen a_t_site_ballast a_t_site_lubricated a_t_site_pose a_t_site_ground a_t_site_boulders a_t_site_records a_t_site_boulders_list a_t_site_boulders_list_values a_t_site_ground_layers a_t_site_ground_layers_values v_p1_depth v_p1_tiltX v_p1_tiltY v_p1_bottoms q_.2.1 q_.2.2.1 q_.2.2.2 v_t_nextTiltX v_t_nextTiltY v_t_site_columns v_t_site_rows v_t_site_weight v_t_site_stiffness v_t_site_water v_t_site_ballast v_t_site_boulders_list_count v_t_site_boulders_list_values v_t_site_ground_layers_count v_t_site_ground_layers_values v_t_site_lubricated) [(0, .ref a_t), (1, .ref a_p1), (2, .int x2)] 164 []) → mg z k A 5 0 0 Q (w_X1_examine k a_t a_p1 a_p1_bottoms a_t_site a_t_trial a_t_chosen a_t_site_ballast a_t_site_lubricated a_t_site_pose a_t_site_ground a_t_site_boulders a_t_site_records a_t_site_boulders_list a_t_site_boulders_list_values a_t_site_ground_layers a_t_site_ground_layers_values v_p1_depth v_p1_tiltX v_p1_tiltY v_p1_bottoms v_t_excess v_t_momentX v_t_momentY v_t_nextTiltX v_t_nextTiltY v_t_site_columns v_t_site_rows v_t_site_weight v_t_site_stiffness v_t_site_water v_t_site_ballast v_t_site_boulders_list_count v_t_site_boulders_list_values v_t_site_ground_layers_count v_t_site_ground_layers_values v_t_site_lubricated) [(0, .ref a_t), (1, .ref a_p1), (2, .int x2), (3, .int x3)] 38 [] := by
        intro x2 n_
        induction n_ with
        | zero => intro x3 v_t_excess v_t_momentX v_t_momentY q_ hf; exact mg_no (show none = some q_ from hf)
        | succ n_ ih =>
          intro x3 v_t_excess v_t_momentX v_t_momentY q_ hf X0
          rw [f_X1_examine_L38] at hf
          have J97 : ∀ (x3 : Int32) (x4 : Int32) (v_t_excess : Int32) (v_t_momentX : Int32) (v_t_momentY : Int32), f_X1_examine_J97 (f_X1_examine_L38 fuel v_p1_depth v_p1_tiltX v_p1_tiltY v_p1_bottoms v_t_site_columns v_t_site_rows v_t_site_water v_t_site_ballast v_t_site_boulders_list_count v_t_site_boulders_list_values v_t_site_ground_layers_count v_t_site_ground_layers_values v_t_site_lubricated x2 n_) v_t_excess v_t_momentX v_t_momentY v_t_site_columns v_t_site_rows x2 x3 x4 = some q_ → mg z k A 5 0 0 Q (w_X1_examine k a_t a_p1 a_p1_bottoms a_t_site a_t_trial a_t_chosen a_t_site_ballast a_t_site_lubricated a_t_site_pose a_t_site_ground a_t_site_boulders a_t_site_records a_t_site_boulders_list a_t_site_boulders_list_values a_t_site_ground_layers a_t_site_ground_layers_values v_p1_depth v_p1_tiltX v_p1_tiltY v_p1_bottoms v_t_excess v_t_momentX v_t_momentY v_t_nextTiltX v_t_nextTiltY v_t_site_columns v_t_site_rows v_t_site_weight v_t_site_stiffness v_t_site_water v_t_site_ballast v_t_site_boulders_list_count v_t_site_boulders_list_values v_t_site_ground_layers_count v_t_site_ground_layers_values v_t_site_lubricated) [(0, .ref a_t), (1, .ref a_p1), (2, .int x2), (3, .int x3), (4, .int x4)] 97 [] := by
            intro x3 x4 v_t_excess v_t_momentX v_t_momentY hf
            unfold f_X1_examine_J97 at hf
            refine mg_aload_n (pc := 97) C 0 dX1_examine_97 rfl rfl ?_
            refine mg_dup (pc := 98) C dX1_examine_98 rfl ?_
            refine mg_get (pc := 99) C 2 rfl rfl inX1 3 (by decide) wm_205 rfl rfl dX1_examine_99 ?_
            refine mg_iload (pc := 102) C 4 dX1_examine_102 rfl ?_
            refine mg_isub (pc := 104) C dX1_examine_104 ?_
            refine mg_puti (pc := 105) C (w2 := w_X1_examine k a_t a_p1 a_p1_bottoms a_t_site a_t_trial a_t_chosen a_t_site_ballast a_t_site_lubricated a_t_site_pose a_t_site_ground a_t_site_boulders a_t_site_records a_t_site_boulders_list a_t_site_boulders_list_values a_t_site_ground_layers a_t_site_ground_layers_values v_p1_depth v_p1_tiltX v_p1_tiltY v_p1_bottoms (v_t_excess - x4) v_t_momentX v_t_momentY v_t_nextTiltX v_t_nextTiltY v_t_site_columns v_t_site_rows v_t_site_weight v_t_site_stiffness v_t_site_water v_t_site_ballast v_t_site_boulders_list_count v_t_site_boulders_list_values v_t_site_ground_layers_count v_t_site_ground_layers_values v_t_site_lubricated) 2 rfl rfl inX1 3 (by decide) wm_205 rfl tyX1 tyX1_ok nmX1 rfl (by decide +kernel) (Nat.le_of_ble_eq_true rfl) rfl dX1_examine_105 ?_
            refine mg_aload_n (pc := 108) C 0 dX1_examine_108 rfl rfl ?_
            refine mg_dup (pc := 109) C dX1_examine_109 rfl ?_
            refine mg_get (pc := 110) C 2 rfl rfl inX1 4 (by decide) wm_207 rfl rfl dX1_examine_110 ?_
            refine mg_iconst (pc := 113) C dX1_examine_113 (v := 2) (by decide) ?_
            refine mg_iload_n (pc := 114) C 3 dX1_examine_114 rfl rfl ?_
            refine mg_imul (pc := 115) C dX1_examine_115 ?_
            refine mg_aload_n (pc := 116) C 0 dX1_examine_116 rfl rfl ?_
            refine mg_get (pc := 117) C 2 rfl rfl inX1 0 (by decide) wm_200 rfl rfl dX1_examine_117 ?_
            refine mg_get (pc := 120) C 3 rfl rfl inX5 0 (by decide) wm_137 rfl rfl dX1_examine_120 ?_
            refine mg_isub (pc := 123) C dX1_examine_123 ?_
            refine mg_iconst (pc := 124) C dX1_examine_124 (v := 1) (by decide) ?_
            refine mg_iadd (pc := 125) C dX1_examine_125 ?_
            refine mg_iload (pc := 126) C 4 dX1_examine_126 rfl ?_
            refine mg_imul (pc := 128) C dX1_examine_128 ?_
            refine mg_iadd (pc := 129) C dX1_examine_129 ?_
            refine mg_puti (pc := 130) C (w2 := w_X1_examine k a_t a_p1 a_p1_bottoms a_t_site a_t_trial a_t_chosen a_t_site_ballast a_t_site_lubricated a_t_site_pose a_t_site_ground a_t_site_boulders a_t_site_records a_t_site_boulders_list a_t_site_boulders_list_values a_t_site_ground_layers a_t_site_ground_layers_values v_p1_depth v_p1_tiltX v_p1_tiltY v_p1_bottoms (v_t_excess - x4) (v_t_momentX + ((((2 * x3) - v_t_site_columns) + 1) * x4)) v_t_momentY v_t_nextTiltX v_t_nextTiltY v_t_site_columns v_t_site_rows v_t_site_weight v_t_site_stiffness v_t_site_water v_t_site_ballast v_t_site_boulders_list_count v_t_site_boulders_list_values v_t_site_ground_layers_count v_t_site_ground_layers_values v_t_site_lubricated) 2 rfl rfl inX1 4 (by decide) wm_207 rfl tyX1 tyX1_ok nmX1 rfl (by decide +kernel) (Nat.le_of_ble_eq_true rfl) rfl dX1_examine_130 ?_
            refine mg_aload_n (pc := 133) C 0 dX1_examine_133 rfl rfl ?_
            refine mg_dup (pc := 134) C dX1_examine_134 rfl ?_
            refine mg_get (pc := 135) C 2 rfl rfl inX1 5 (by decide) wm_209 rfl rfl dX1_examine_135 ?_
            refine mg_iconst (pc := 138) C dX1_examine_138 (v := 2) (by decide) ?_
            refine mg_iload_n (pc := 139) C 2 dX1_examine_139 rfl rfl ?_
            refine mg_imul (pc := 140) C dX1_examine_140 ?_
            refine mg_aload_n (pc := 141) C 0 dX1_examine_141 rfl rfl ?_
            refine mg_get (pc := 142) C 2 rfl rfl inX1 0 (by decide) wm_200 rfl rfl dX1_examine_142 ?_
            refine mg_get (pc := 145) C 3 rfl rfl inX5 1 (by decide) wm_141 rfl rfl dX1_examine_145 ?_
            refine mg_isub (pc := 148) C dX1_examine_148 ?_
            refine mg_iconst (pc := 149) C dX1_examine_149 (v := 1) (by decide) ?_
            refine mg_iadd (pc := 150) C dX1_examine_150 ?_
            refine mg_iload (pc := 151) C 4 dX1_examine_151 rfl ?_
            refine mg_imul (pc := 153) C dX1_examine_153 ?_
            refine mg_iadd (pc := 154) C dX1_examine_154 ?_
            refine mg_puti (pc := 155) C (w2 := w_X1_examine k a_t a_p1 a_p1_bottoms a_t_site a_t_trial a_t_chosen a_t_site_ballast a_t_site_lubricated a_t_site_pose a_t_site_ground a_t_site_boulders a_t_site_records a_t_site_boulders_list a_t_site_boulders_list_values a_t_site_ground_layers a_t_site_ground_layers_values v_p1_depth v_p1_tiltX v_p1_tiltY v_p1_bottoms (v_t_excess - x4) (v_t_momentX + ((((2 * x3) - v_t_site_columns) + 1) * x4)) (v_t_momentY + ((((2 * x2) - v_t_site_rows) + 1) * x4)) v_t_nextTiltX v_t_nextTiltY v_t_site_columns v_t_site_rows v_t_site_weight v_t_site_stiffness v_t_site_water v_t_site_ballast v_t_site_boulders_list_count v_t_site_boulders_list_values v_t_site_ground_layers_count v_t_site_ground_layers_values v_t_site_lubricated) 2 rfl rfl inX1 5 (by decide) wm_209 rfl tyX1 tyX1_ok nmX1 rfl (by decide +kernel) (Nat.le_of_ble_eq_true rfl) rfl dX1_examine_155 ?_
            refine mg_iinc (pc := 158) C (c := 1) (lv' := [(3, .int (x3 + 1)), (0, .ref a_t), (1, .ref a_p1), (2, .int x2), (4, .int x4)]) 3 dX1_examine_158 rfl (by decide) (by decide) rfl ?_
            refine mg_goto (pc := 161) (tgt := 38) C dX1_examine_161 (by decide) ?_
            refine mg_lv [1, 2, 3, 0] rfl ?_
            exact ih (x3 + 1) (v_t_excess - x4) (v_t_momentX + ((((2 * x3) - v_t_site_columns) + 1) * x4)) (v_t_momentY + ((((2 * x2) - v_t_site_rows) + 1) * x4)) _ hf X0
          refine mg_iload_n (pc := 38) C 3 dX1_examine_38 rfl rfl ?_
          refine mg_aload_n (pc := 39) C 0 dX1_examine_39 rfl rfl ?_
          refine mg_get (pc := 40) C 2 rfl rfl inX1 0 (by decide) wm_200 rfl rfl dX1_examine_40 ?_
          refine mg_get (pc := 43) C 3 rfl rfl inX5 0 (by decide) wm_137 rfl rfl dX1_examine_43 ?_
          refine mg_icmp_ge (pc := 46) (tgt := 164) C dX1_examine_46 (by decide) hf (fun hf => ?_) (fun hf => ?_)
          · obtain rfl := Option.some.inj hf
            refine mg_lv [0, 1, 2] rfl ?_
            exact X0
          · refine mg_bipush (pc := 49) C dX1_examine_49 (v := (-4)) (by decide) ?_
            refine mg_aload_n (pc := 51) C 0 dX1_examine_51 rfl rfl ?_
            refine mg_get (pc := 52) C 2 rfl rfl inX1 0 (by decide) wm_200 rfl rfl dX1_examine_52 ?_
            refine mg_get (pc := 55) C 3 rfl rfl inX5 5 (by decide) wm_158 rfl rfl dX1_examine_55 ?_
            refine mg_iload_n (pc := 58) C 2 dX1_examine_58 rfl rfl ?_
            refine mg_aload_n (pc := 59) C 0 dX1_examine_59 rfl rfl ?_
            refine mg_get (pc := 60) C 2 rfl rfl inX1 0 (by decide) wm_200 rfl rfl dX1_examine_60 ?_
            refine mg_get (pc := 63) C 3 rfl rfl inX5 0 (by decide) wm_137 rfl rfl dX1_examine_63 ?_
            refine mg_imul (pc := 66) C dX1_examine_66 ?_
            refine mg_iload_n (pc := 67) C 3 dX1_examine_67 rfl rfl ?_
            refine mg_iadd (pc := 68) C dX1_examine_68 ?_
            refine mg_iald (pc := 69) C 4 rfl dX1_examine_69 hf (fun hf => ?_)
            refine mg_imul (pc := 70) C dX1_examine_70 ?_
            refine mg_istore (pc := 71) C (lv' := [(4, .int ((-4) * (v_t_site_ballast (Int32.toNatClampNeg ((x2 * v_t_site_columns) + x3))))), (0, .ref a_t), (1, .ref a_p1), (2, .int x2), (3, .int x3)]) dX1_examine_71 (by decide) rfl ?_
            refine mg_aload_n (pc := 73) C 1 dX1_examine_73 rfl rfl ?_
            refine mg_get (pc := 74) C 2 rfl rfl inX1 0 (by decide) wm_200 rfl rfl dX1_examine_74 ?_
            refine mg_iload_n (pc := 77) C 4 dX1_examine_77 rfl rfl ?_
            refine mg_iload_n (pc := 78) C 3 dX1_examine_78 rfl rfl ?_
            obtain ⟨q1, h2, hf⟩ := mg_b hf
            refine mg_callV (pc := 79) C (w2 := w_X1_examine k a_t a_p1 a_p1_bottoms a_t_site a_t_trial a_t_chosen a_t_site_ballast a_t_site_lubricated a_t_site_pose a_t_site_ground a_t_site_boulders a_t_site_records a_t_site_boulders_list a_t_site_boulders_list_values a_t_site_ground_layers a_t_site_ground_layers_values v_p1_depth v_p1_tiltX v_p1_tiltY v_p1_bottoms v_t_excess v_t_momentX v_t_momentY v_t_nextTiltX v_t_nextTiltY v_t_site_columns v_t_site_rows v_t_site_weight v_t_site_stiffness v_t_site_water v_t_site_ballast v_t_site_boulders_list_count v_t_site_boulders_list_values v_t_site_ground_layers_count v_t_site_ground_layers_values v_t_site_lubricated) (c_X5_isEdgeAt z.2.1 k a_t_site a_t_site_ballast a_t_site_lubricated a_t_site_pose a_t_site_ground a_t_site_boulders a_t_site_records v_t_site_columns v_t_site_rows v_t_site_weight v_t_site_stiffness v_t_site_water x3 x2 q1 h2) Y_X5_isEdgeAt wm_647 (by decide) rfl 3 rfl rfl rfl [3] rfl (by decide) rfl [none, none, none, some 0, none, none, none, none, none, none, none, none] (by decide) rfl (Nat.le_of_ble_eq_true rfl) rfl dX1_examine_79 ?_
            refine mg_if_eq (pc := 82) (tgt := 97) C dX1_examine_82 (by decide) hf (fun hf => ?_) (fun hf => ?_)
            · refine mg_lv [1, 2, 3, 4, 0] rfl ?_
              exact J97 x3 ((-4) * (v_t_site_ballast (Int32.toNatClampNeg ((x2 * v_t_site_columns) + x3)))) v_t_excess v_t_momentX v_t_momentY hf
            · refine mg_iload (pc := 85) C 0 dX1_examine_85 rfl ?_
              refine mg_aload_n (pc := 87) C 1 dX1_examine_87 rfl rfl ?_
              refine mg_aload_n (pc := 88) C 2 dX1_examine_88 rfl rfl ?_
              refine mg_iload_n (pc := 89) C 4 dX1_examine_89 rfl rfl ?_
              refine mg_iload_n (pc := 90) C 3 dX1_examine_90 rfl rfl ?_
              obtain ⟨q3, h4, hf⟩ := mg_b hf
              refine mg_callV (pc := 91) C (w2 := w_X1_examine k a_t a_p1 a_p1_bottoms a_t_site a_t_trial a_t_chosen a_t_site_ballast a_t_site_lubricated a_t_site_pose a_t_site_ground a_t_site_boulders a_t_site_records a_t_site_boulders_list a_t_site_boulders_list_values a_t_site_ground_layers a_t_site_ground_layers_values v_p1_depth v_p1_tiltX v_p1_tiltY v_p1_bottoms v_t_excess v_t_momentX v_t_momentY v_t_nextTiltX v_t_nextTiltY v_t_site_columns v_t_site_rows v_t_site_weight v_t_site_stiffness v_t_site_water v_t_site_ballast v_t_site_boulders_list_count v_t_site_boulders_list_values v_t_site_ground_layers_count v_t_site_ground_layers_values v_t_site_lubricated) (c_X1_resistance z.2.1 k a_t a_p1 a_p1_bottoms a_t_site a_t_trial a_t_chosen a_t_site_ballast a_t_site_lubricated a_t_site_pose a_t_site_ground a_t_site_boulders a_t_site_records a_t_site_boulders_list a_t_site_boulders_list_values a_t_site_ground_layers a_t_site_ground_layers_values v_p1_depth v_p1_tiltX v_p1_tiltY v_p1_bottoms v_t_excess v_t_momentX v_t_momentY v_t_nextTiltX v_t_nextTiltY v_t_site_columns v_t_site_rows v_t_site_weight v_t_site_stiffness v_t_site_water v_t_site_boulders_list_count v_t_site_boulders_list_values v_t_site_ground_layers_count v_t_site_ground_layers_values v_t_site_lubricated fuel x3 x2 q3 h4) Y_X1_resistance wm_648 (by decide) rfl 2 rfl rfl rfl [0, 1, 2, 3, 5, 6, 7, 8, 9, 10, 11] rfl (by decide) rfl [some 0, some 1, some 2, some 3, none, some 4, some 5, some 6, some 7, some 8, some 9, some 10] (by decide) rfl (Nat.le_of_ble_eq_true rfl) rfl dX1_examine_91 ?_
              refine mg_iadd (pc := 94) C dX1_examine_94 ?_
              refine mg_istore (pc := 95) C (lv' := [(4, .int (((-4) * (v_t_site_ballast (Int32.toNatClampNeg ((x2 * v_t_site_columns) + x3)))) + q3)), (0, .ref a_t), (1, .ref a_p1), (2, .int x2), (3, .int x3)]) dX1_examine_95 (by decide) rfl ?_
              refine mg_lv [1, 2, 3, 4, 0] rfl ?_
              exact J97 x3 (((-4) * (v_t_site_ballast (Int32.toNatClampNeg ((x2 * v_t_site_columns) + x3)))) + q3) v_t_excess v_t_momentX v_t_momentY hf
      refine mg_iload_n (pc := 25) C 2 dX1_examine_25 rfl rfl ?_
      refine mg_aload_n (pc := 26) C 0 dX1_examine_26 rfl rfl ?_
      refine mg_get (pc := 27) C 2 rfl rfl inX1 0 (by decide) wm_200 rfl rfl dX1_examine_27 ?_
      refine mg_get (pc := 30) C 3 rfl rfl inX5 1 (by decide) wm_141 rfl rfl dX1_examine_30 ?_
      refine mg_icmp_ge (pc := 33) (tgt := 170) C dX1_examine_33 (by decide) hf (fun hf => ?_) (fun hf => ?_)
      · obtain rfl := Option.some.inj hf
        refine mg_lv [0, 1] rfl ?_
        exact X0
      · refine mg_iconst (pc := 36) C dX1_examine_36 (v := 0) (by decide) ?_
        refine mg_istore_n (pc := 37) C (lv' := [(3, .int 0), (0, .ref a_t), (1, .ref a_p1), (2, .int x2)]) dX1_examine_37 rfl (by decide) rfl ?_
        obtain ⟨q5, h6, hf⟩ := mg_b hf
        refine mg_lv [1, 2, 3, 0] rfl ?_
        refine L38 x2 fuel 0 v_t_excess v_t_momentX v_t_momentY q5 h6 ?_
        refine mg_iinc (pc := 164) C (c := 1) (lv' := [(2, .int (x2 + 1)), (0, .ref a_t), (1, .ref a_p1)]) 2 dX1_examine_164 rfl (by decide) (by decide) rfl ?_
        refine mg_goto (pc := 167) (tgt := 25) C dX1_examine_167 (by decide) ?_
        refine mg_lv [1, 2, 0] rfl ?_
        exact ih (x2 + 1) q5.2.1 q5.2.2.1 q5.2.2.2 _ hf X0
  refine mg_aload_n (pc := 0) C 0 dX1_examine_0 rfl rfl ?_
  refine mg_iconst (pc := 1) C dX1_examine_1 (v := 4) (by decide) ?_
  refine mg_aload_n (pc := 2) C 0 dX1_examine_2 rfl rfl ?_
  refine mg_get (pc := 3) C 2 rfl rfl inX1 0 (by decide) wm_200 rfl rfl dX1_examine_3 ?_
  refine mg_get (pc := 6) C 3 rfl rfl inX5 2 (by decide) wm_147 rfl rfl dX1_examine_6 ?_
  refine mg_imul (pc := 9) C dX1_examine_9 ?_
  refine mg_puti (pc := 10) C (w2 := w_X1_examine k a_t a_p1 a_p1_bottoms a_t_site a_t_trial a_t_chosen a_t_site_ballast a_t_site_lubricated a_t_site_pose a_t_site_ground a_t_site_boulders a_t_site_records a_t_site_boulders_list a_t_site_boulders_list_values a_t_site_ground_layers a_t_site_ground_layers_values v_p1_depth v_p1_tiltX v_p1_tiltY v_p1_bottoms (4 * v_t_site_weight) v_t_momentX v_t_momentY v_t_nextTiltX v_t_nextTiltY v_t_site_columns v_t_site_rows v_t_site_weight v_t_site_stiffness v_t_site_water v_t_site_ballast v_t_site_boulders_list_count v_t_site_boulders_list_values v_t_site_ground_layers_count v_t_site_ground_layers_values v_t_site_lubricated) 2 rfl rfl inX1 3 (by decide) wm_205 rfl tyX1 tyX1_ok nmX1 rfl (by decide +kernel) (Nat.le_of_ble_eq_true rfl) rfl dX1_examine_10 ?_
  refine mg_aload_n (pc := 13) C 0 dX1_examine_13 rfl rfl ?_
  refine mg_iconst (pc := 14) C dX1_examine_14 (v := 0) (by decide) ?_
  refine mg_puti (pc := 15) C (w2 := w_X1_examine k a_t a_p1 a_p1_bottoms a_t_site a_t_trial a_t_chosen a_t_site_ballast a_t_site_lubricated a_t_site_pose a_t_site_ground a_t_site_boulders a_t_site_records a_t_site_boulders_list a_t_site_boulders_list_values a_t_site_ground_layers a_t_site_ground_layers_values v_p1_depth v_p1_tiltX v_p1_tiltY v_p1_bottoms (4 * v_t_site_weight) 0 v_t_momentY v_t_nextTiltX v_t_nextTiltY v_t_site_columns v_t_site_rows v_t_site_weight v_t_site_stiffness v_t_site_water v_t_site_ballast v_t_site_boulders_list_count v_t_site_boulders_list_values v_t_site_ground_layers_count v_t_site_ground_layers_values v_t_site_lubricated) 2 rfl rfl inX1 4 (by decide) wm_207 rfl tyX1 tyX1_ok nmX1 rfl (by decide +kernel) (Nat.le_of_ble_eq_true rfl) rfl dX1_examine_15 ?_
  refine mg_aload_n (pc := 18) C 0 dX1_examine_18 rfl rfl ?_
  refine mg_iconst (pc := 19) C dX1_examine_19 (v := 0) (by decide) ?_
  refine mg_puti (pc := 20) C (w2 := w_X1_examine k a_t a_p1 a_p1_bottoms a_t_site a_t_trial a_t_chosen a_t_site_ballast a_t_site_lubricated a_t_site_pose a_t_site_ground a_t_site_boulders a_t_site_records a_t_site_boulders_list a_t_site_boulders_list_values a_t_site_ground_layers a_t_site_ground_layers_values v_p1_depth v_p1_tiltX v_p1_tiltY v_p1_bottoms (4 * v_t_site_weight) 0 0 v_t_nextTiltX v_t_nextTiltY v_t_site_columns v_t_site_rows v_t_site_weight v_t_site_stiffness v_t_site_water v_t_site_ballast v_t_site_boulders_list_count v_t_site_boulders_list_values v_t_site_ground_layers_count v_t_site_ground_layers_values v_t_site_lubricated) 2 rfl rfl inX1 5 (by decide) wm_209 rfl tyX1 tyX1_ok nmX1 rfl (by decide +kernel) (Nat.le_of_ble_eq_true rfl) rfl dX1_examine_20 ?_
  refine mg_iconst (pc := 23) C dX1_examine_23 (v := 0) (by decide) ?_
  refine mg_istore_n (pc := 24) C (lv' := [(2, .int 0), (0, .ref a_t), (1, .ref a_p1)]) dX1_examine_24 rfl (by decide) rfl ?_
  obtain ⟨q7, h8, hf⟩ := mg_b hf
  refine mg_lv [1, 2, 0] rfl ?_
  refine L25 v_t_nextTiltX v_t_nextTiltY fuel 0 (4 * v_t_site_weight) 0 0 q7 h8 ?_
  refine mg_aload_n (pc := 170) C 0 dX1_examine_170 rfl rfl ?_
  refine mg_get (pc := 171) C 2 rfl rfl inX1 3 (by decide) wm_205 rfl rfl dX1_examine_171 ?_
  refine mg_if_le (pc := 174) (tgt := 187) C dX1_examine_174 (by decide) hf (fun hf => ?_) (fun hf => ?_)
  · refine mg_iconst (pc := 187) C dX1_examine_187 (v := 0) (by decide) ?_
    obtain rfl := Option.some.inj hf
    exact E _ _ dX1_examine_188
  · refine mg_aload_n (pc := 177) C 1 dX1_examine_177 rfl rfl ?_
    refine mg_get (pc := 178) C 0 rfl rfl inX4 0 (by decide) wm_44 rfl rfl dX1_examine_178 ?_
    refine mg_sipush (pc := 181) C dX1_examine_181 (v := 200) (by decide) ?_
    refine mg_icmp_lt (pc := 184) (tgt := 189) C dX1_examine_184 (by decide) hf (fun hf => ?_) (fun hf => ?_)
    · refine mg_aload_n (pc := 189) C 0 dX1_examine_189 rfl rfl ?_
      refine mg_aload_n (pc := 190) C 1 dX1_examine_190 rfl rfl ?_
      refine mg_get (pc := 191) C 0 rfl rfl inX4 1 (by decide) wm_47 rfl rfl dX1_examine_191 ?_
      refine mg_aload_n (pc := 194) C 0 dX1_examine_194 rfl rfl ?_
      refine mg_aload_n (pc := 195) C 0 dX1_examine_195 rfl rfl ?_
      refine mg_get (pc := 196) C 2 rfl rfl inX1 4 (by decide) wm_207 rfl rfl dX1_examine_196 ?_
      obtain ⟨q9, h10, hf⟩ := mg_b hf
      refine mg_callV (pc := 199) C (w2 := w_X1_examine k a_t a_p1 a_p1_bottoms a_t_site a_t_trial a_t_chosen a_t_site_ballast a_t_site_lubricated a_t_site_pose a_t_site_ground a_t_site_boulders a_t_site_records a_t_site_boulders_list a_t_site_boulders_list_values a_t_site_ground_layers a_t_site_ground_layers_values v_p1_depth v_p1_tiltX v_p1_tiltY v_p1_bottoms q7.2.1 q7.2.2.1 q7.2.2.2 v_t_nextTiltX v_t_nextTiltY v_t_site_columns v_t_site_rows v_t_site_weight v_t_site_stiffness v_t_site_water v_t_site_ballast v_t_site_boulders_list_count v_t_site_boulders_list_values v_t_site_ground_layers_count v_t_site_ground_layers_values v_t_site_lubricated) (c_X1_turn z.2.1 k a_t a_t_site a_t_trial a_t_chosen a_t_site_ballast a_t_site_lubricated a_t_site_pose a_t_site_ground a_t_site_boulders a_t_site_records q7.2.1 q7.2.2.1 q7.2.2.2 v_t_nextTiltX v_t_nextTiltY v_t_site_columns v_t_site_rows v_t_site_weight v_t_site_stiffness v_t_site_water q7.2.2.1 q9 h10) Y_X1_turn wm_656 (by decide) rfl 2 rfl rfl rfl [2, 3] rfl (by decide) rfl [none, none, some 0, some 1, none, none, none, none, none, none, none, none] (by decide) rfl (Nat.le_of_ble_eq_true rfl) rfl dX1_examine_199 ?_
      refine mg_iadd (pc := 202) C dX1_examine_202 ?_
      refine mg_puti (pc := 203) C (w2 := w_X1_examine k a_t a_p1 a_p1_bottoms a_t_site a_t_trial a_t_chosen a_t_site_ballast a_t_site_lubricated a_t_site_pose a_t_site_ground a_t_site_boulders a_t_site_records a_t_site_boulders_list a_t_site_boulders_list_values a_t_site_ground_layers a_t_site_ground_layers_values v_p1_depth v_p1_tiltX v_p1_tiltY v_p1_bottoms q7.2.1 q7.2.2.1 q7.2.2.2 (v_p1_tiltX + q9) v_t_nextTiltY v_t_site_columns v_t_site_rows v_t_site_weight v_t_site_stiffness v_t_site_water v_t_site_ballast v_t_site_boulders_list_count v_t_site_boulders_list_values v_t_site_ground_layers_count v_t_site_ground_layers_values v_t_site_lubricated) 2 rfl rfl inX1 6 (by decide) wm_211 rfl tyX1 tyX1_ok nmX1 rfl (by decide +kernel) (Nat.le_of_ble_eq_true rfl) rfl dX1_examine_203 ?_
      refine mg_aload_n (pc := 206) C 0 dX1_examine_206 rfl rfl ?_
      refine mg_aload_n (pc := 207) C 1 dX1_examine_207 rfl rfl ?_
      refine mg_get (pc := 208) C 0 rfl rfl inX4 2 (by decide) wm_51 rfl rfl dX1_examine_208 ?_
      refine mg_aload_n (pc := 211) C 0 dX1_examine_211 rfl rfl ?_
      refine mg_aload_n (pc := 212) C 0 dX1_examine_212 rfl rfl ?_
      refine mg_get (pc := 213) C 2 rfl rfl inX1 5 (by decide) wm_209 rfl rfl dX1_examine_213 ?_
      obtain ⟨q11, h12, hf⟩ := mg_b hf
      refine mg_callV (pc := 216) C (w2 := w_X1_examine k a_t a_p1 a_p1_bottoms a_t_site a_t_trial a_t_chosen a_t_site_ballast a_t_site_lubricated a_t_site_pose a_t_site_ground a_t_site_boulders a_t_site_records a_t_site_boulders_list a_t_site_boulders_list_values a_t_site_ground_layers a_t_site_ground_layers_values v_p1_depth v_p1_tiltX v_p1_tiltY v_p1_bottoms q7.2.1 q7.2.2.1 q7.2.2.2 (v_p1_tiltX + q9) v_t_nextTiltY v_t_site_columns v_t_site_rows v_t_site_weight v_t_site_stiffness v_t_site_water v_t_site_ballast v_t_site_boulders_list_count v_t_site_boulders_list_values v_t_site_ground_layers_count v_t_site_ground_layers_values v_t_site_lubricated) (c_X1_turn z.2.1 k a_t a_t_site a_t_trial a_t_chosen a_t_site_ballast a_t_site_lubricated a_t_site_pose a_t_site_ground a_t_site_boulders a_t_site_records q7.2.1 q7.2.2.1 q7.2.2.2 (v_p1_tiltX + q9) v_t_nextTiltY v_t_site_columns v_t_site_rows v_t_site_weight v_t_site_stiffness v_t_site_water q7.2.2.2 q11 h12) Y_X1_turn wm_656 (by decide) rfl 2 rfl rfl rfl [2, 3] rfl (by decide) rfl [none, none, some 0, some 1, none, none, none, none, none, none, none, none] (by decide) rfl (Nat.le_of_ble_eq_true rfl) rfl dX1_examine_216 ?_
      refine mg_iadd (pc := 219) C dX1_examine_219 ?_
      refine mg_puti (pc := 220) C (w2 := w_X1_examine k a_t a_p1 a_p1_bottoms a_t_site a_t_trial a_t_chosen a_t_site_ballast a_t_site_lubricated a_t_site_pose a_t_site_ground a_t_site_boulders a_t_site_records a_t_site_boulders_list a_t_site_boulders_list_values a_t_site_ground_layers a_t_site_ground_layers_values v_p1_depth v_p1_tiltX v_p1_tiltY v_p1_bottoms q7.2.1 q7.2.2.1 q7.2.2.2 (v_p1_tiltX + q9) (v_p1_tiltY + q11) v_t_site_columns v_t_site_rows v_t_site_weight v_t_site_stiffness v_t_site_water v_t_site_ballast v_t_site_boulders_list_count v_t_site_boulders_list_values v_t_site_ground_layers_count v_t_site_ground_layers_values v_t_site_lubricated) 2 rfl rfl inX1 7 (by decide) wm_212 rfl tyX1 tyX1_ok nmX1 rfl (by decide +kernel) (Nat.le_of_ble_eq_true rfl) rfl dX1_examine_220 ?_
      refine mg_aload_n (pc := 223) C 0 dX1_examine_223 rfl rfl ?_
      refine mg_get (pc := 224) C 2 rfl rfl inX1 6 (by decide) wm_211 rfl rfl dX1_examine_224 ?_
      refine mg_mabs (pc := 227) C wm_660 wm_661 wm_7 wm_662 (by decide) (Nat.le_of_ble_eq_true rfl) dX1_examine_227 ?_
      refine mg_iconst (pc := 230) C dX1_examine_230 (v := 5) (by decide) ?_
      refine mg_icmp_gt (pc := 231) (tgt := 245) C dX1_examine_231 (by decide) hf (fun hf => ?_) (fun hf => ?_)
      · refine mg_iconst (pc := 245) C dX1_examine_245 (v := 2) (by decide) ?_
        refine mg_goto (pc := 246) (tgt := 250) C dX1_examine_246 (by decide) ?_
        obtain rfl := Option.some.inj hf
        exact E _ _ dX1_examine_250
      · refine mg_aload_n (pc := 234) C 0 dX1_examine_234 rfl rfl ?_
        refine mg_get (pc := 235) C 2 rfl rfl inX1 7 (by decide) wm_212 rfl rfl dX1_examine_235 ?_
        refine mg_mabs (pc := 238) C wm_660 wm_661 wm_7 wm_662 (by decide) (Nat.le_of_ble_eq_true rfl) dX1_examine_238 ?_
        refine mg_iconst (pc := 241) C dX1_examine_241 (v := 5) (by decide) ?_
        refine mg_icmp_le (pc := 242) (tgt := 249) C dX1_examine_242 (by decide) hf (fun hf => ?_) (fun hf => ?_)
        · refine mg_iconst (pc := 249) C dX1_examine_249 (v := 1) (by decide) ?_
          obtain rfl := Option.some.inj hf
          exact E _ _ dX1_examine_250
        · refine mg_iconst (pc := 245) C dX1_examine_245 (v := 2) (by decide) ?_
          refine mg_goto (pc := 246) (tgt := 250) C dX1_examine_246 (by decide) ?_
          obtain rfl := Option.some.inj hf
          exact E _ _ dX1_examine_250
    · refine mg_iconst (pc := 187) C dX1_examine_187 (v := 0) (by decide) ?_
      obtain rfl := Option.some.inj hf
      exact E _ _ dX1_examine_188
abbrev w_X1_heave (k : mg_K) (a_t a_p1 a_p1_bottoms a_t_site a_t_trial a_t_chosen a_t_site_ballast a_t_site_lubricated a_t_site_pose a_t_site_ground a_t_site_boulders a_t_site_records a_t_site_ground_layers a_t_site_ground_layers_values : Nat) (v_p1_depth : Int32) (v_p1_tiltX : Int32) (v_p1_tiltY : Int32) (v_p1_bottoms : Nat → Int32) (v_t_excess : Int32) (v_t_momentX : Int32) (v_t_momentY : Int32) (v_t_nextTiltX : Int32) (v_t_nextTiltY : Int32) (v_t_site_columns : Int32) (v_t_site_rows : Int32) (v_t_site_weight : Int32) (v_t_site_stiffness : Int32) (v_t_site_water : Int32) (v_t_site_ground_layers_count : Int32) (v_t_site_ground_layers_values : Nat → Int32) : va_W := [(a_p1, .inr (4, [.int v_p1_depth, .int v_p1_tiltX, .int v_p1_tiltY, .ref a_p1_bottoms])), (a_p1_bottoms, .inl (k.2.1, 49, .inl v_p1_bottoms)), (a_t, .inr (1, [.ref a_t_site, .ref a_t_trial, .ref a_t_chosen, .int v_t_excess, .int v_t_momentX, .int v_t_momentY, .int v_t_nextTiltX, .int v_t_nextTiltY])), (a_t_site, .inr (5, [.int v_t_site_columns, .int v_t_site_rows, .int v_t_site_weight, .int v_t_site_stiffness, .int v_t_site_water, .ref a_t_site_ballast, .ref a_t_site_lubricated, .ref a_t_site_pose, .ref a_t_site_ground, .ref a_t_site_boulders, .ref a_t_site_records])), (a_t_site_ground, .inr (2, [.ref a_t_site_ground_layers])), (a_t_site_ground_layers, .inr (7, [.int 8, .ref a_t_site_ground_layers_values, .int v_t_site_ground_layers_count])), (a_t_site_ground_layers_values, .inl (k.2.1, 24, .inl v_t_site_ground_layers_values))]
def f_X1_heave_L17 (fuel : Nat) (v_p1_depth : Int32) (v_t_site_columns : Int32) (v_t_site_ground_layers_count : Int32) (v_t_site_ground_layers_values : Nat → Int32) (x2 : Int32) : Nat → Int32 → (Nat → Int32) → Option (Int32 × (Nat → Int32))
  | 0, _, _ => none
  | n_ + 1, x3, v_p1_bottoms => if (v_t_site_columns - 1) ≤ x3 then (some ((x3, v_p1_bottoms))) else (if mg_ix ((x2 * v_t_site_columns) + x3) 49 = true then ((f_X2_strengthAt fuel v_t_site_ground_layers_count v_t_site_ground_layers_values (v_p1_bottoms (Int32.toNatClampNeg ((x2 * v_t_site_columns) + x3)))).bind (fun q1 => if mg_ix ((x2 * v_t_site_columns) + x3) 49 = true then (if ((v_p1_bottoms (Int32.toNatClampNeg ((x2 * v_t_site_columns) + x3))) - v_p1_depth) ≤ (4 + (q1 / 5)) then (f_X1_heave_L17 fuel v_p1_depth v_t_site_columns v_t_site_ground_layers_count v_t_site_ground_layers_values x2 n_ (x3 + 1) v_p1_bottoms) else (if mg_ix ((x2 * v_t_site_columns) + x3) 49 = true then (f_X1_heave_L17 fuel v_p1_depth v_t_site_columns v_t_site_ground_layers_count v_t_site_ground_layers_values x2 n_ (x3 + 1) (upd v_p1_bottoms (Int32.toNatClampNeg ((x2 * v_t_site_columns) + x3)) v_p1_depth)) else none)) else none)) else none)
def f_X1_heave_L2 (fuel : Nat) (v_p1_depth : Int32) (v_t_site_columns : Int32) (v_t_site_rows : Int32) (v_t_site_ground_layers_count : Int32) (v_t_site_ground_layers_values : Nat → Int32) : Nat → Int32 → (Nat → Int32) → Option (Int32 × (Nat → Int32))
  | 0, _, _ => none
  | n_ + 1, x2, v_p1_bottoms => if (v_t_site_rows - 1) ≤ x2 then (some ((x2, v_p1_bottoms))) else ((f_X1_heave_L17 fuel v_p1_depth v_t_site_columns v_t_site_ground_layers_count v_t_site_ground_layers_values x2 fuel 1 v_p1_bottoms).bind (fun q3 => f_X1_heave_L2 fuel v_p1_depth v_t_site_columns v_t_site_rows v_t_site_ground_layers_count v_t_site_ground_layers_values n_ (x2 + 1) q3.2))
def f_X1_heave (fuel : Nat) (v_p1_depth : Int32) (v_p1_bottoms : Nat → Int32) (v_t_site_columns : Int32) (v_t_site_rows : Int32) (v_t_site_ground_layers_count : Int32) (v_t_site_ground_layers_values : Nat → Int32) : Option ((Nat → Int32)) := (f_X1_heave_L2 fuel v_p1_depth v_t_site_columns v_t_site_rows v_t_site_ground_layers_count v_t_site_ground_layers_values fuel 1 v_p1_bottoms).bind (fun q5 => some q5.2)
theorem Y_X1_heave : mg_Y yX1_heave cX1_heave 6 none 1 := ⟨wm_737, wp_16, wm_2, wm_738, ⟨by decide +kernel, by decide +kernel, by decide +kernel⟩, by decide⟩
set_option maxRecDepth 100000 in
set_option maxHeartbeats 4000000 in
theorem c_X1_heave (l : Launch) (k : mg_K) (a_t a_p1 a_p1_bottoms a_t_site a_t_trial a_t_chosen a_t_site_ballast a_t_site_lubricated a_t_site_pose a_t_site_ground a_t_site_boulders a_t_site_records a_t_site_ground_layers a_t_site_ground_layers_values : Nat) (v_p1_depth : Int32) (v_p1_tiltX : Int32) (v_p1_tiltY : Int32) (v_p1_bottoms : Nat → Int32) (v_t_excess : Int32) (v_t_momentX : Int32) (v_t_momentY : Int32) (v_t_nextTiltX : Int32) (v_t_nextTiltY : Int32) (v_t_site_columns : Int32) (v_t_site_rows : Int32) (v_t_site_weight : Int32) (v_t_site_stiffness : Int32) (v_t_site_water : Int32) (v_t_site_ground_layers_count : Int32) (v_t_site_ground_layers_values : Nat → Int32) (fuel : Nat) (q : (Nat → Int32)) (hf : f_X1_heave fuel v_p1_depth v_p1_bottoms v_t_site_columns v_t_site_rows v_t_site_ground_layers_count v_t_site_ground_layers_values = some q) : mg_M l yX1_heave cX1_heave 6 none 2 k [.ref a_t, .ref a_p1] (w_X1_heave k a_t a_p1 a_p1_bottoms a_t_site a_t_trial a_t_chosen a_t_site_ballast a_t_site_lubricated a_t_site_pose a_t_site_ground a_t_site_boulders a_t_site_records a_t_site_ground_layers a_t_site_ground_layers_values v_p1_depth v_p1_tiltX v_p1_tiltY v_p1_bottoms v_t_excess v_t_momentX v_t_momentY v_t_nextTiltX v_t_nextTiltY v_t_site_columns v_t_site_rows v_t_site_weight v_t_site_stiffness v_t_site_water v_t_site_ground_layers_count v_t_site_ground_layers_values) (w_X1_heave k a_t a_p1 a_p1_bottoms a_t_site a_t_trial a_t_chosen a_t_site_ballast a_t_site_lubricated a_t_site_pose a_t_site_ground a_t_site_boulders a_t_site_records a_t_site_ground_layers a_t_site_ground_layers_values v_p1_depth v_p1_tiltX v_p1_tiltY q v_t_excess v_t_momentX v_t_momentY v_t_nextTiltX v_t_nextTiltY v_t_site_columns v_t_site_rows v_t_site_weight v_t_site_stiffness v_t_site_water v_t_site_ground_layers_count v_t_site_ground_layers_values) none := by
  refine mg_Mv RX1 [(0, .ref a_t), (1, .ref a_p1)] (by decide +kernel) rfl rfl (Nat.le_of_ble_eq_true rfl) ?_
  intro z A Q hl C E
  subst hl
  unfold f_X1_heave at hf
  have L2 : ∀ (n_ : Nat) (x2 : Int32) (v_p1_bottoms : Nat → Int32) (q_ : Int32 × (Nat → Int32)), f_X1_heave_L2 fuel v_p1_depth v_t_site_columns v_t_site_rows v_t_site_ground_layers_count v_t_site_ground_layers_values n_ x2 v_p1_bottoms = some q_ → (mg z k A 6 0 0 Q (w_X1_heave k a_t a_p1 a_p1_bottoms a_t_site a_t_trial a_t_chosen a_t_site_ballast a_t_site_lubricated a_t_site_pose a_t_site_ground a_t_site_boulders a_t_site_records a_t_site_ground_layers a_t_site_ground_layers_values v_p1_depth v_p1_tiltX v_p1_tiltY q_.2 v_t_excess v_t_momentX v_t_momentY v_t_nextTiltX v_t_nextTiltY v_t_site_columns v_t_site_rows v_t_site_weight v_t_site_stiffness v_t_site_water v_t_site_ground_layers_count v_t_site_ground_layers_values) [] 106 []) → mg z k A 6 0 0 Q (w_X1_heave k a_t a_p1 a_p1_bottoms a_t_site a_t_trial a_t_chosen a_t_site_ballast a_t_site_lubricated a_t_site_pose a_t_site_ground a_t_site_boulders a_t_site_records a_t_site_ground_layers a_t_site_ground_layers_values v_p1_depth v_p1_tiltX v_p1_tiltY v_p1_bottoms v_t_excess v_t_momentX v_t_momentY v_t_nextTiltX v_t_nextTiltY v_t_site_columns v_t_site_rows v_t_site_weight v_t_site_stiffness v_t_site_water v_t_site_ground_layers_count v_t_site_ground_layers_values) [(0, .ref a_t), (1, .ref a_p1), (2, .int x2)] 2 [] := by
    intro n_
    induction n_ with
    | zero => intro x2 v_p1_bottoms q_ hf; exact mg_no (show none = some q_ from hf)
    | succ n_ ih =>
      intro x2 v_p1_bottoms q_ hf X0
      rw [f_X1_heave_L2] at hf
      have L17 : ∀ (x2 : Int32) (n_ : Nat) (x3 : Int32) (v_p1_bottoms : Nat → Int32) (q_ : Int32 × (Nat → Int32)), f_X1_heave_L17 fuel v_p1_depth v_t_site_columns v_t_site_ground_layers_count v_t_site_ground_layers_values x2 n_ x3 v_p1_bottoms = some q_ → (mg z k A 6 0 0 Q (w_X1_heave k a_t a_p1 a_p1_bottoms a_t_site a_t_trial a_t_chosen a_t_site_ballast a_t_site_lubricated a_t_site_pose a_t_site_ground a_t_site_boulders a_t_site_records a_t_site_ground_layers a_t_site_ground_layers_values v_p1_depth v_p1_tiltX v_p1_tiltY q_.2 v_t_excess v_t_momentX v_t_momentY v_t_nextTiltX v_t_nextTiltY v_t_site_columns v_t_site_rows v_t_site_weight v_t_site_stiffness v_t_site_water v_t_site_ground_layers_count v_t_site_ground_layers_values) [(0, .ref a_t), (1, .ref a_p1), (2, .int x2)] 100 []) → mg z k A 6 0 0 Q (w_X1_heave k a_t a_p1 a_p1_bottoms a_t_site a_t_trial a_t_chosen a_t_site_ballast a_t_site_lubricated a_t_site_pose a_t_site_ground a_t_site_boulders a_t_site_records a_t_site_ground_layers a_t_site_ground_layers_values v_p1_depth v_p1_tiltX v_p1_tiltY v_p1_bottoms v_t_excess v_t_momentX v_t_momentY v_t_nextTiltX v_t_nextTiltY v_t_site_columns v_t_site_rows v_t_site_weight v_t_site_stiffness v_t_site_water v_t_site_ground_layers_count v_t_site_ground_layers_values) [(0, .ref a_t), (1, .ref a_p1), (2, .int x2), (3, .int x3)] 17 [] := by
        intro x2 n_
        induction n_ with
        | zero => intro x3 v_p1_bottoms q_ hf; exact mg_no (show none = some q_ from hf)
        | succ n_ ih =>
          intro x3 v_p1_bottoms q_ hf X0
          rw [f_X1_heave_L17] at hf
          refine mg_iload_n (pc := 17) C 3 dX1_heave_17 rfl rfl ?_
          refine mg_aload_n (pc := 18) C 0 dX1_heave_18 rfl rfl ?_
          refine mg_get (pc := 19) C 2 rfl rfl inX1 0 (by decide) wm_200 rfl rfl dX1_heave_19 ?_
          refine mg_get (pc := 22) C 3 rfl rfl inX5 0 (by decide) wm_137 rfl rfl dX1_heave_22 ?_
          refine mg_iconst (pc := 25) C dX1_heave_25 (v := 1) (by decide) ?_
          refine mg_isub (pc := 26) C dX1_heave_26 ?_
          refine mg_icmp_ge (pc := 27) (tgt := 100) C dX1_heave_27 (by decide) hf (fun hf => ?_) (fun hf => ?_)
          · obtain rfl := Option.some.inj hf
            refine mg_lv [0, 1, 2] rfl ?_
            exact X0
          · refine mg_iload_n (pc := 30) C 2 dX1_heave_30 rfl rfl ?_
            refine mg_aload_n (pc := 31) C 0 dX1_heave_31 rfl rfl ?_
            refine mg_get (pc := 32) C 2 rfl rfl inX1 0 (by decide) wm_200 rfl rfl dX1_heave_32 ?_
            refine mg_get (pc := 35) C 3 rfl rfl inX5 0 (by decide) wm_137 rfl rfl dX1_heave_35 ?_
            refine mg_imul (pc := 38) C dX1_heave_38 ?_
            refine mg_iload_n (pc := 39) C 3 dX1_heave_39 rfl rfl ?_
            refine mg_iadd (pc := 40) C dX1_heave_40 ?_
            refine mg_istore (pc := 41) C (lv' := [(4, .int ((x2 * v_t_site_columns) + x3)), (0, .ref a_t), (1, .ref a_p1), (2, .int x2), (3, .int x3)]) dX1_heave_41 (by decide) rfl ?_
            refine mg_iconst (pc := 43) C dX1_heave_43 (v := 4) (by decide) ?_
            refine mg_aload_n (pc := 44) C 1 dX1_heave_44 rfl rfl ?_
            refine mg_get (pc := 45) C 2 rfl rfl inX1 0 (by decide) wm_200 rfl rfl dX1_heave_45 ?_
            refine mg_get (pc := 48) C 3 rfl rfl inX5 8 (by decide) wm_166 rfl rfl dX1_heave_48 ?_
            refine mg_aload_n (pc := 51) C 2 dX1_heave_51 rfl rfl ?_
            refine mg_get (pc := 52) C 0 rfl rfl inX4 3 (by decide) wm_54 rfl rfl dX1_heave_52 ?_
            refine mg_iload (pc := 55) C 0 dX1_heave_55 rfl ?_
            refine mg_iald (pc := 57) C 1 rfl dX1_heave_57 hf (fun hf => ?_)
            obtain ⟨q1, h2, hf⟩ := mg_b hf
            refine mg_callV (pc := 58) C (w2 := w_X1_heave k a_t a_p1 a_p1_bottoms a_t_site a_t_trial a_t_chosen a_t_site_ballast a_t_site_lubricated a_t_site_pose a_t_site_ground a_t_site_boulders a_t_site_records a_t_site_ground_layers a_t_site_ground_layers_values v_p1_depth v_p1_tiltX v_p1_tiltY v_p1_bottoms v_t_excess v_t_momentX v_t_momentY v_t_nextTiltX v_t_nextTiltY v_t_site_columns v_t_site_rows v_t_site_weight v_t_site_stiffness v_t_site_water v_t_site_ground_layers_count v_t_site_ground_layers_values) (c_X2_strengthAt z.2.1 k a_t_site_ground a_t_site_ground_layers a_t_site_ground_layers_values v_t_site_ground_layers_count v_t_site_ground_layers_values fuel (v_p1_bottoms (Int32.toNatClampNeg ((x2 * v_t_site_columns) + x3))) q1 h2) Y_X2_strengthAt wm_609 (by decide) rfl 4 rfl rfl rfl [4, 5, 6] rfl (by decide) rfl [none, none, none, none, some 0, some 1, some 2] (by decide) rfl (Nat.le_of_ble_eq_true rfl) rfl dX1_heave_58 ?_
            refine mg_iconst (pc := 61) C dX1_heave_61 (v := 5) (by decide) ?_
            refine mg_idiv (pc := 62) C dX1_heave_62 (by decide) ?_
            refine mg_iadd (pc := 63) C dX1_heave_63 ?_
            refine mg_istore (pc := 64) C (lv' := [(5, .int (4 + (q1 / 5))), (4, .int ((x2 * v_t_site_columns) + x3)), (0, .ref a_t), (1, .ref a_p1), (2, .int x2), (3, .int x3)]) dX1_heave_64 (by decide) rfl ?_
            refine mg_aload_n (pc := 66) C 3 dX1_heave_66 rfl rfl ?_
            refine mg_get (pc := 67) C 0 rfl rfl inX4 3 (by decide) wm_54 rfl rfl dX1_heave_67 ?_
            refine mg_iload (pc := 70) C 1 dX1_heave_70 rfl ?_
            refine mg_iald (pc := 72) C 1 rfl dX1_heave_72 hf (fun hf => ?_)
            refine mg_aload_n (pc := 73) C 3 dX1_heave_73 rfl rfl ?_
            refine mg_get (pc := 74) C 0 rfl rfl inX4 0 (by decide) wm_44 rfl rfl dX1_heave_74 ?_
            refine mg_isub (pc := 77) C dX1_heave_77 ?_
            refine mg_iload (pc := 78) C 0 dX1_heave_78 rfl ?_
            refine mg_icmp_le (pc := 80) (tgt := 94) C dX1_heave_80 (by decide) hf (fun hf => ?_) (fun hf => ?_)
            · refine mg_iinc (pc := 94) C (c := 1) (lv' := [(3, .int (x3 + 1)), (5, .int (4 + (q1 / 5))), (4, .int ((x2 * v_t_site_columns) + x3)), (0, .ref a_t), (1, .ref a_p1), (2, .int x2)]) 5 dX1_heave_94 rfl (by decide) (by decide) rfl ?_
              refine mg_goto (pc := 97) (tgt := 17) C dX1_heave_97 (by decide) ?_
              refine mg_lv [3, 4, 5, 0] rfl ?_
              exact ih (x3 + 1) v_p1_bottoms _ hf X0
            · refine mg_aload_n (pc := 83) C 3 dX1_heave_83 rfl rfl ?_
              refine mg_get (pc := 84) C 0 rfl rfl inX4 3 (by decide) wm_54 rfl rfl dX1_heave_84 ?_
              refine mg_iload (pc := 87) C 1 dX1_heave_87 rfl ?_
              refine mg_aload_n (pc := 89) C 3 dX1_heave_89 rfl rfl ?_
              refine mg_get (pc := 90) C 0 rfl rfl inX4 0 (by decide) wm_44 rfl rfl dX1_heave_90 ?_
              refine mg_iast (pc := 93) C (w2 := w_X1_heave k a_t a_p1 a_p1_bottoms a_t_site a_t_trial a_t_chosen a_t_site_ballast a_t_site_lubricated a_t_site_pose a_t_site_ground a_t_site_boulders a_t_site_records a_t_site_ground_layers a_t_site_ground_layers_values v_p1_depth v_p1_tiltX v_p1_tiltY (upd v_p1_bottoms (Int32.toNatClampNeg ((x2 * v_t_site_columns) + x3)) v_p1_depth) v_t_excess v_t_momentX v_t_momentY v_t_nextTiltX v_t_nextTiltY v_t_site_columns v_t_site_rows v_t_site_weight v_t_site_stiffness v_t_site_water v_t_site_ground_layers_count v_t_site_ground_layers_values) 1 rfl dX1_heave_93 hf rfl (fun hf => ?_)
              refine mg_iinc (pc := 94) C (c := 1) (lv' := [(3, .int (x3 + 1)), (5, .int (4 + (q1 / 5))), (4, .int ((x2 * v_t_site_columns) + x3)), (0, .ref a_t), (1, .ref a_p1), (2, .int x2)]) 5 dX1_heave_94 rfl (by decide) (by decide) rfl ?_
              refine mg_goto (pc := 97) (tgt := 17) C dX1_heave_97 (by decide) ?_
              refine mg_lv [3, 4, 5, 0] rfl ?_
              exact ih (x3 + 1) (upd v_p1_bottoms (Int32.toNatClampNeg ((x2 * v_t_site_columns) + x3)) v_p1_depth) _ hf X0
      refine mg_iload_n (pc := 2) C 2 dX1_heave_2 rfl rfl ?_
      refine mg_aload_n (pc := 3) C 0 dX1_heave_3 rfl rfl ?_
      refine mg_get (pc := 4) C 2 rfl rfl inX1 0 (by decide) wm_200 rfl rfl dX1_heave_4 ?_
      refine mg_get (pc := 7) C 3 rfl rfl inX5 1 (by decide) wm_141 rfl rfl dX1_heave_7 ?_
      refine mg_iconst (pc := 10) C dX1_heave_10 (v := 1) (by decide) ?_
      refine mg_isub (pc := 11) C dX1_heave_11 ?_
      refine mg_icmp_ge (pc := 12) (tgt := 106) C dX1_heave_12 (by decide) hf (fun hf => ?_) (fun hf => ?_)
      · obtain rfl := Option.some.inj hf
        refine mg_lv [] rfl ?_
        exact X0
      · refine mg_iconst (pc := 15) C dX1_heave_15 (v := 1) (by decide) ?_
        refine mg_istore_n (pc := 16) C (lv' := [(3, .int 1), (0, .ref a_t), (1, .ref a_p1), (2, .int x2)]) dX1_heave_16 rfl (by decide) rfl ?_
        obtain ⟨q3, h4, hf⟩ := mg_b hf
        refine mg_lv [1, 2, 3, 0] rfl ?_
        refine L17 x2 fuel 1 v_p1_bottoms q3 h4 ?_
        refine mg_iinc (pc := 100) C (c := 1) (lv' := [(2, .int (x2 + 1)), (0, .ref a_t), (1, .ref a_p1)]) 2 dX1_heave_100 rfl (by decide) (by decide) rfl ?_
        refine mg_goto (pc := 103) (tgt := 2) C dX1_heave_103 (by decide) ?_
        refine mg_lv [1, 2, 0] rfl ?_
        exact ih (x2 + 1) q3.2 _ hf X0
  refine mg_iconst (pc := 0) C dX1_heave_0 (v := 1) (by decide) ?_
  refine mg_istore_n (pc := 1) C (lv' := [(2, .int 1), (0, .ref a_t), (1, .ref a_p1)]) dX1_heave_1 rfl (by decide) rfl ?_
  obtain ⟨q5, h6, hf⟩ := mg_b hf
  refine mg_lv [1, 2, 0] rfl ?_
  refine L2  fuel 1 v_p1_bottoms q5 h6 ?_
  obtain rfl := Option.some.inj hf
  exact E _ _ dX1_heave_106
abbrev w_X1_sink (k : mg_K) (a_t a_p1 a_p1_bottoms a_t_site a_t_trial a_t_chosen a_t_site_ballast a_t_site_lubricated a_t_site_pose a_t_site_ground a_t_site_boulders a_t_site_records a_t_site_boulders_list a_t_site_boulders_list_values a_t_site_ground_layers a_t_site_ground_layers_values : Nat) (v_p1_depth : Int32) (v_p1_tiltX : Int32) (v_p1_tiltY : Int32) (v_p1_bottoms : Nat → Int32) (v_t_excess : Int32) (v_t_momentX : Int32) (v_t_momentY : Int32) (v_t_nextTiltX : Int32) (v_t_nextTiltY : Int32) (v_t_site_columns : Int32) (v_t_site_rows : Int32) (v_t_site_weight : Int32) (v_t_site_stiffness : Int32) (v_t_site_water : Int32) (v_t_site_ballast : Nat → Int32) (v_t_site_boulders_list_count : Int32) (v_t_site_boulders_list_values : Nat → Int32) (v_t_site_ground_layers_count : Int32) (v_t_site_ground_layers_values : Nat → Int32) (v_t_site_lubricated : Nat → Int32) : va_W := [(a_p1, .inr (4, [.int v_p1_depth, .int v_p1_tiltX, .int v_p1_tiltY, .ref a_p1_bottoms])), (a_p1_bottoms, .inl (k.2.1, 49, .inl v_p1_bottoms)), (a_t, .inr (1, [.ref a_t_site, .ref a_t_trial, .ref a_t_chosen, .int v_t_excess, .int v_t_momentX, .int v_t_momentY, .int v_t_nextTiltX, .int v_t_nextTiltY])), (a_t_site, .inr (5, [.int v_t_site_columns, .int v_t_site_rows, .int v_t_site_weight, .int v_t_site_stiffness, .int v_t_site_water, .ref a_t_site_ballast, .ref a_t_site_lubricated, .ref a_t_site_pose, .ref a_t_site_ground, .ref a_t_site_boulders, .ref a_t_site_records])), (a_t_site_ballast, .inl (k.2.1, 49, .inl v_t_site_ballast)), (a_t_site_boulders, .inr (0, [.ref a_t_site_boulders_list])), (a_t_site_boulders_list, .inr (7, [.int 10, .ref a_t_site_boulders_list_values, .int v_t_site_boulders_list_count])), (a_t_site_boulders_list_values, .inl (k.2.1, 30, .inl v_t_site_boulders_list_values)), (a_t_site_ground, .inr (2, [.ref a_t_site_ground_layers])), (a_t_site_ground_layers, .inr (7, [.int 8, .ref a_t_site_ground_layers_values, .int v_t_site_ground_layers_count])), (a_t_site_ground_layers_values, .inl (k.2.1, 24, .inl v_t_site_ground_layers_values)), (a_t_site_lubricated, .inl (k.2.1, 4, .inl v_t_site_lubricated))]
def f_X1_sink_L15 (fuel : Nat) (v_p1_bottoms : Nat → Int32) (v_t_site_columns : Int32) (v_t_site_rows : Int32) (v_t_site_weight : Int32) (v_t_site_stiffness : Int32) (v_t_site_water : Int32) (v_t_site_ballast : Nat → Int32) (v_t_site_boulders_list_count : Int32) (v_t_site_boulders_list_values : Nat → Int32) (v_t_site_ground_layers_count : Int32) (v_t_site_ground_layers_values : Nat → Int32) (v_t_site_lubricated : Nat → Int32) (x2 : Int32) : Nat → Int32 → Int32 → Int32 → Int32 → Int32 → Int32 → Int32 → Int32 → Int32 → Int32 → Option (Int32 × Int32 × Int32 × Int32 × Int32 × Int32 × Int32 × Int32 × Int32 × Int32)
  | 0, _, _, _, _, _, _, _, _, _, _ => none
  | n_ + 1, x3, x4, v_p1_depth, v_p1_tiltX, v_p1_tiltY, v_t_excess, v_t_momentX, v_t_momentY, v_t_nextTiltX, v_t_nextTiltY => if x3 = 1 then (if x2 ≤ x4 then (some ((x3, x4, v_p1_depth, v_p1_tiltX, v_p1_tiltY, v_t_excess, v_t_momentX, v_t_momentY, v_t_nextTiltX, v_t_nextTiltY))) else ((f_X1_examine fuel (v_p1_depth + 1) v_t_nextTiltX v_t_nextTiltY v_p1_bottoms v_t_nextTiltX v_t_nextTiltY v_t_site_columns v_t_site_rows v_t_site_weight v_t_site_stiffness v_t_site_water v_t_site_ballast v_t_site_boulders_list_count v_t_site_boulders_list_values v_t_site_ground_layers_count v_t_site_ground_layers_values v_t_site_lubricated).bind (fun q3 => f_X1_sink_L15 fuel v_p1_bottoms v_t_site_columns v_t_site_rows v_t_site_weight v_t_site_stiffness v_t_site_water v_t_site_ballast v_t_site_boulders_list_count v_t_site_boulders_list_values v_t_site_ground_layers_count v_t_site_ground_layers_values v_t_site_lubricated x2 n_ q3.1 (x4 + 1) (v_p1_depth + 1) v_t_nextTiltX v_t_nextTiltY q3.2.1 q3.2.2.1 q3.2.2.2.1 q3.2.2.2.2.1 q3.2.2.2.2.2))) else (some ((x3, x4, v_p1_depth, v_p1_tiltX, v_p1_tiltY, v_t_excess, v_t_momentX, v_t_momentY, v_t_nextTiltX, v_t_nextTiltY)))
def f_X1_sink (fuel : Nat) (v_p1_depth : Int32) (v_p1_tiltX : Int32) (v_p1_tiltY : Int32) (v_p1_bottoms : Nat → Int32) (v_t_nextTiltX : Int32) (v_t_nextTiltY : Int32) (v_t_site_columns : Int32) (v_t_site_rows : Int32) (v_t_site_weight : Int32) (v_t_site_stiffness : Int32) (v_t_site_water : Int32) (v_t_site_ballast : Nat → Int32) (v_t_site_boulders_list_count : Int32) (v_t_site_boulders_list_values : Nat → Int32) (v_t_site_ground_layers_count : Int32) (v_t_site_ground_layers_values : Nat → Int32) (v_t_site_lubricated : Nat → Int32) (x2 : Int32) : Option (Int32 × Int32 × Int32 × Int32 × (Nat → Int32) × Int32 × Int32 × Int32 × Int32 × Int32) := (f_X1_examine fuel v_p1_depth v_p1_tiltX v_p1_tiltY v_p1_bottoms v_t_nextTiltX v_t_nextTiltY v_t_site_columns v_t_site_rows v_t_site_weight v_t_site_stiffness v_t_site_water v_t_site_ballast v_t_site_boulders_list_count v_t_site_boulders_list_values v_t_site_ground_layers_count v_t_site_ground_layers_values v_t_site_lubricated).bind (fun q1 => if q1.1 = 0 then (some (0, v_p1_depth, v_p1_tiltX, v_p1_tiltY, v_p1_bottoms, q1.2.1, q1.2.2.1, q1.2.2.2.1, q1.2.2.2.2.1, q1.2.2.2.2.2)) else ((f_X1_sink_L15 fuel v_p1_bottoms v_t_site_columns v_t_site_rows v_t_site_weight v_t_site_stiffness v_t_site_water v_t_site_ballast v_t_site_boulders_list_count v_t_site_boulders_list_values v_t_site_ground_layers_count v_t_site_ground_layers_values v_t_site_lubricated x2 fuel q1.1 0 v_p1_depth v_p1_tiltX v_p1_tiltY q1.2.1 q1.2.2.1 q1.2.2.2.1 q1.2.2.2.2.1 q1.2.2.2.2.2).bind (fun q5 => (f_X1_heave fuel q5.2.2.1 v_p1_bottoms v_t_site_columns v_t_site_rows v_t_site_ground_layers_count v_t_site_ground_layers_values).bind (fun q7 => some (q5.2.1, q5.2.2.1, q5.2.2.2.1, q5.2.2.2.2.1, q7, q5.2.2.2.2.2.1, q5.2.2.2.2.2.2.1, q5.2.2.2.2.2.2.2.1, q5.2.2.2.2.2.2.2.2.1, q5.2.2.2.2.2.2.2.2.2)))))
theorem Y_X1_sink : mg_Y yX1_sink cX1_sink 5 (some .int) 2 := ⟨wm_731, wm_732, wm_2, wm_733, ⟨by decide +kernel, by decide +kernel, by decide +kernel⟩, by decide⟩
set_option maxRecDepth 100000 in
set_option maxHeartbeats 4000000 in
theorem c_X1_sink (l : Launch) (k : mg_K) (a_t a_p1 a_p1_bottoms a_t_site a_t_trial a_t_chosen a_t_site_ballast a_t_site_lubricated a_t_site_pose a_t_site_ground a_t_site_boulders a_t_site_records a_t_site_boulders_list a_t_site_boulders_list_values a_t_site_ground_layers a_t_site_ground_layers_values : Nat) (v_p1_depth : Int32) (v_p1_tiltX : Int32) (v_p1_tiltY : Int32) (v_p1_bottoms : Nat → Int32) (v_t_excess : Int32) (v_t_momentX : Int32) (v_t_momentY : Int32) (v_t_nextTiltX : Int32) (v_t_nextTiltY : Int32) (v_t_site_columns : Int32) (v_t_site_rows : Int32) (v_t_site_weight : Int32) (v_t_site_stiffness : Int32) (v_t_site_water : Int32) (v_t_site_ballast : Nat → Int32) (v_t_site_boulders_list_count : Int32) (v_t_site_boulders_list_values : Nat → Int32) (v_t_site_ground_layers_count : Int32) (v_t_site_ground_layers_values : Nat → Int32) (v_t_site_lubricated : Nat → Int32) (fuel : Nat) (x2 : Int32) (q : Int32 × Int32 × Int32 × Int32 × (Nat → Int32) × Int32 × Int32 × Int32 × Int32 × Int32) (hf : f_X1_sink fuel v_p1_depth v_p1_tiltX v_p1_tiltY v_p1_bottoms v_t_nextTiltX v_t_nextTiltY v_t_site_columns v_t_site_rows v_t_site_weight v_t_site_stiffness v_t_site_water v_t_site_ballast v_t_site_boulders_list_count v_t_site_boulders_list_values v_t_site_ground_layers_count v_t_site_ground_layers_values v_t_site_lubricated x2 = some q) : mg_M l yX1_sink cX1_sink 5 (some .int) 5 k [.ref a_t, .ref a_p1, .int x2] (w_X1_sink k a_t a_p1 a_p1_bottoms a_t_site a_t_trial a_t_chosen a_t_site_ballast a_t_site_lubricated a_t_site_pose a_t_site_ground a_t_site_boulders a_t_site_records a_t_site_boulders_list a_t_site_boulders_list_values a_t_site_ground_layers a_t_site_ground_layers_values v_p1_depth v_p1_tiltX v_p1_tiltY v_p1_bottoms v_t_excess v_t_momentX v_t_momentY v_t_nextTiltX v_t_nextTiltY v_t_site_columns v_t_site_rows v_t_site_weight v_t_site_stiffness v_t_site_water v_t_site_ballast v_t_site_boulders_list_count v_t_site_boulders_list_values v_t_site_ground_layers_count v_t_site_ground_layers_values v_t_site_lubricated) (w_X1_sink k a_t a_p1 a_p1_bottoms a_t_site a_t_trial a_t_chosen a_t_site_ballast a_t_site_lubricated a_t_site_pose a_t_site_ground a_t_site_boulders a_t_site_records a_t_site_boulders_list a_t_site_boulders_list_values a_t_site_ground_layers a_t_site_ground_layers_values q.2.1 q.2.2.1 q.2.2.2.1 q.2.2.2.2.1 q.2.2.2.2.2.1 q.2.2.2.2.2.2.1 q.2.2.2.2.2.2.2.1 q.2.2.2.2.2.2.2.2.1 q.2.2.2.2.2.2.2.2.2 v_t_site_columns v_t_site_rows v_t_site_weight v_t_site_stiffness v_t_site_water v_t_site_ballast v_t_site_boulders_list_count v_t_site_boulders_list_values v_t_site_ground_layers_count v_t_site_ground_layers_values v_t_site_lubricated) (some (.int q.1)) := by
  refine mg_Mi RX1 [(0, .ref a_t), (1, .ref a_p1), (2, .int x2)] (by decide +kernel) rfl rfl (Nat.le_of_ble_eq_true rfl) ?_
  intro z A Q hl C E
  subst hl
  unfold f_X1_sink at hf
  have L15 : ∀ (x2 : Int32) (v_p1_bottoms : Nat → Int32) (n_ : Nat) (x3 : Int32) (x4 : Int32) (v_p1_depth : Int32) (v_p1_tiltX : Int32) (v_p1_tiltY : Int32) (v_t_excess : Int32) (v_t_momentX : Int32) (v_t_momentY : Int32) (v_t_nextTiltX : Int32) (v_t_nextTiltY : Int32) (q_ : Int32 × Int32 × Int32 × Int32 × Int32 × Int32 × Int32 × Int32 × Int32 × Int32), f_X1_sink_L15 fuel v_p1_bottoms v_t_site_columns v_t_site_rows v_t_site_weight v_t_site_stiffness v_t_site_water v_t_site_ballast v_t_site_boulders_list_count v_t_site_boulders_list_values v_t_site_ground_layers_count v_t_site_ground_layers_values v_t_site_lubricated x2 n_ x3 x4 v_p1_depth v_p1_tiltX v_p1_tiltY v_t_excess v_t_momentX v_t_momentY v_t_nextTiltX v_t_nextTiltY = some q_ → (mg z k A 5 0 0 Q (w_X1_sink k a_t a_p1 a_p1_bottoms a_t_site a_t_trial a_t_chosen a_t_site_ballast a_t_site_lubricated a_t_site_pose a_t_site_ground a_t_site_boulders a_t_site_records a_t_site_boulders_list a_t_site_boulders_list_values a_t_site_ground_layers a_t_site_ground_layers_values q_.2.2.1 q_.2.2.2.1 q_.2.2.2.2.1 v_p1_bottoms q_.2.2.2.2.2.1 q_.2.2.2.2.2.2.1 q_.2.2.2.2.2.2.2.1 q_.2.2.2.2.2.2.2.2.1 q_.2.2.2.2.2.2.2.2.2 v_t_site_columns v_t_site_rows v_t_site_weight v_t_site_stiffness v_t_site_water v_t_site_ballast v_t_site_boulders_list_count v_t_site_boulders_list_values v_t_site_ground_layers_count v_t_site_ground_layers_values v_t_site_lubricated) [(0, .ref a_t), (1, .ref a_p1), (4, .int q_.2.1)] 64 []) → mg z k A 5 0 0 Q (w_X1_sink k a_t a_p1 a_p1_bottoms a_t_site a_t_trial a_t_chosen a_t_site_ballast a_t_site_lubricated a_t_site_pose a_t_site_ground a_t_site_boulders a_t_site_records a_t_site_boulders_list a_t_site_boulders_list_values a_t_site_ground_layers a_t_site_ground_layers_values v_p1_depth v_p1_tiltX v_p1_tiltY v_p1_bottoms v_t_excess v_t_momentX v_t_momentY v_t_nextTiltX v_t_nextTiltY v_t_site_columns v_t_site_rows v_t_site_weight v_t_site_stiffness v_t_site_water v_t_site_ballast v_t_site_boulders_list_count v_t_site_boulders_list_values v_t_site_ground_layers_count v_t_site_ground_layers_values v_t_site_lubricated) [(0, .ref a_t), (1, .ref a_p1), (2, .int x2), (3, .int x3), (4, .int x4)] 15 [] := by
    intro x2 v_p1_bottoms n_
    induction n_ with
    | zero => intro x3 x4 v_p1_depth v_p1_tiltX v_p1_tiltY v_t_excess v_t_momentX v_t_momentY v_t_nextTiltX v_t_nextTiltY q_ hf; exact mg_no (show none = some q_ from hf)
    | succ n_ ih =>
      intro x3 x4 v_p1_depth v_p1_tiltX v_p1_tiltY v_t_excess v_t_momentX v_t_momentY v_t_nextTiltX v_t_nextTiltY q_ hf X0
      rw [f_X1_sink_L15] at hf
      refine mg_iload_n (pc := 15) C 3 dX1_sink_15 rfl rfl ?_
      refine mg_iconst (pc := 16) C dX1_sink_16 (v := 1) (by decide) ?_
      refine mg_icmp_ne (pc := 17) (tgt := 64) C dX1_sink_17 (by decide) hf (fun hf => ?_) (fun hf => ?_)
      · obtain rfl := Option.some.inj hf
        refine mg_lv [0, 1, 4] rfl ?_
        exact X0
      · refine mg_iload (pc := 20) C 4 dX1_sink_20 rfl ?_
        refine mg_iload_n (pc := 22) C 2 dX1_sink_22 rfl rfl ?_
        refine mg_icmp_ge (pc := 23) (tgt := 64) C dX1_sink_23 (by decide) hf (fun hf => ?_) (fun hf => ?_)
        · obtain rfl := Option.some.inj hf
          refine mg_lv [0, 1, 4] rfl ?_
          exact X0
        · refine mg_aload_n (pc := 26) C 1 dX1_sink_26 rfl rfl ?_
          refine mg_aload_n (pc := 27) C 0 dX1_sink_27 rfl rfl ?_
          refine mg_get (pc := 28) C 2 rfl rfl inX1 6 (by decide) wm_211 rfl rfl dX1_sink_28 ?_
          refine mg_puti (pc := 31) C (w2 := w_X1_sink k a_t a_p1 a_p1_bottoms a_t_site a_t_trial a_t_chosen a_t_site_ballast a_t_site_lubricated a_t_site_pose a_t_site_ground a_t_site_boulders a_t_site_records a_t_site_boulders_list a_t_site_boulders_list_values a_t_site_ground_layers a_t_site_ground_layers_values v_p1_depth v_t_nextTiltX v_p1_tiltY v_p1_bottoms v_t_excess v_t_momentX v_t_momentY v_t_nextTiltX v_t_nextTiltY v_t_site_columns v_t_site_rows v_t_site_weight v_t_site_stiffness v_t_site_water v_t_site_ballast v_t_site_boulders_list_count v_t_site_boulders_list_values v_t_site_ground_layers_count v_t_site_ground_layers_values v_t_site_lubricated) 0 rfl rfl inX4 1 (by decide) wm_47 rfl tyX4 tyX4_ok nmX4 rfl (by decide +kernel) (Nat.le_of_ble_eq_true rfl) rfl dX1_sink_31 ?_
          refine mg_aload_n (pc := 34) C 1 dX1_sink_34 rfl rfl ?_
          refine mg_aload_n (pc := 35) C 0 dX1_sink_35 rfl rfl ?_
          refine mg_get (pc := 36) C 2 rfl rfl inX1 7 (by decide) wm_212 rfl rfl dX1_sink_36 ?_
          refine mg_puti (pc := 39) C (w2 := w_X1_sink k a_t a_p1 a_p1_bottoms a_t_site a_t_trial a_t_chosen a_t_site_ballast a_t_site_lubricated a_t_site_pose a_t_site_ground a_t_site_boulders a_t_site_records a_t_site_boulders_list a_t_site_boulders_list_values a_t_site_ground_layers a_t_site_ground_layers_values v_p1_depth v_t_nextTiltX v_t_nextTiltY v_p1_bottoms v_t_excess v_t_momentX v_t_momentY v_t_nextTiltX v_t_nextTiltY v_t_site_columns v_t_site_rows v_t_site_weight v_t_site_stiffness v_t_site_water v_t_site_ballast v_t_site_boulders_list_count v_t_site_boulders_list_values v_t_site_ground_layers_count v_t_site_ground_layers_values v_t_site_lubricated) 0 rfl rfl inX4 2 (by decide) wm_51 rfl tyX4 tyX4_ok nmX4 rfl (by decide +kernel) (Nat.le_of_ble_eq_true rfl) rfl dX1_sink_39 ?_
          refine mg_aload_n (pc := 42) C 1 dX1_sink_42 rfl rfl ?_
          refine mg_dup (pc := 43) C dX1_sink_43 rfl ?_
          refine mg_get (pc := 44) C 0 rfl rfl inX4 0 (by decide) wm_44 rfl rfl dX1_sink_44 ?_
          refine mg_iconst (pc := 47) C dX1_sink_47 (v := 1) (by decide) ?_
          refine mg_iadd (pc := 48) C dX1_sink_48 ?_
          refine mg_puti (pc := 49) C (w2 := w_X1_sink k a_t a_p1 a_p1_bottoms a_t_site a_t_trial a_t_chosen a_t_site_ballast a_t_site_lubricated a_t_site_pose a_t_site_ground a_t_site_boulders a_t_site_records a_t_site_boulders_list a_t_site_boulders_list_values a_t_site_ground_layers a_t_site_ground_layers_values (v_p1_depth + 1) v_t_nextTiltX v_t_nextTiltY v_p1_bottoms v_t_excess v_t_momentX v_t_momentY v_t_nextTiltX v_t_nextTiltY v_t_site_columns v_t_site_rows v_t_site_weight v_t_site_stiffness v_t_site_water v_t_site_ballast v_t_site_boulders_list_count v_t_site_boulders_list_values v_t_site_ground_layers_count v_t_site_ground_layers_values v_t_site_lubricated) 0 rfl rfl inX4 0 (by decide) wm_44 rfl tyX4 tyX4_ok nmX4 rfl (by decide +kernel) (Nat.le_of_ble_eq_true rfl) rfl dX1_sink_49 ?_
          refine mg_iinc (pc := 52) C (c := 1) (lv' := [(4, .int (x4 + 1)), (0, .ref a_t), (1, .ref a_p1), (2, .int x2), (3, .int x3)]) 4 dX1_sink_52 rfl (by decide) (by decide) rfl ?_
          refine mg_aload_n (pc := 55) C 1 dX1_sink_55 rfl rfl ?_
          refine mg_aload_n (pc := 56) C 2 dX1_sink_56 rfl rfl ?_
          obtain ⟨q3, h4, hf⟩ := mg_b hf
          refine mg_callV (pc := 57) C (w2 := w_X1_sink k a_t a_p1 a_p1_bottoms a_t_site a_t_trial a_t_chosen a_t_site_ballast a_t_site_lubricated a_t_site_pose a_t_site_ground a_t_site_boulders a_t_site_records a_t_site_boulders_list a_t_site_boulders_list_values a_t_site_ground_layers a_t_site_ground_layers_values (v_p1_depth + 1) v_t_nextTiltX v_t_nextTiltY v_p1_bottoms q3.2.1 q3.2.2.1 q3.2.2.2.1 q3.2.2.2.2.1 q3.2.2.2.2.2 v_t_site_columns v_t_site_rows v_t_site_weight v_t_site_stiffness v_t_site_water v_t_site_ballast v_t_site_boulders_list_count v_t_site_boulders_list_values v_t_site_ground_layers_count v_t_site_ground_layers_values v_t_site_lubricated) (c_X1_examine z.2.1 k a_t a_p1 a_p1_bottoms a_t_site a_t_trial a_t_chosen a_t_site_ballast a_t_site_lubricated a_t_site_pose a_t_site_ground a_t_site_boulders a_t_site_records a_t_site_boulders_list a_t_site_boulders_list_values a_t_site_ground_layers a_t_site_ground_layers_values (v_p1_depth + 1) v_t_nextTiltX v_t_nextTiltY v_p1_bottoms v_t_excess v_t_momentX v_t_momentY v_t_nextTiltX v_t_nextTiltY v_t_site_columns v_t_site_rows v_t_site_weight v_t_site_stiffness v_t_site_water v_t_site_ballast v_t_site_boulders_list_count v_t_site_boulders_list_values v_t_site_ground_layers_count v_t_site_ground_layers_values v_t_site_lubricated fuel q3 h4) Y_X1_examine wm_734 (by decide) rfl 2 rfl rfl rfl [0, 1, 2, 3, 4, 5, 6, 7, 8, 9, 10, 11] rfl (by decide) rfl [some 0, some 1, some 2, some 3, some 4, some 5, some 6, some 7, some 8, some 9, some 10, some 11] (by decide) rfl (Nat.le_of_ble_eq_true rfl) rfl dX1_sink_57 ?_
          refine mg_istore_n (pc := 60) C (lv' := [(3, .int q3.1), (4, .int (x4 + 1)), (0, .ref a_t), (1, .ref a_p1), (2, .int x2)]) dX1_sink_60 rfl (by decide) rfl ?_
          refine mg_goto (pc := 61) (tgt := 15) C dX1_sink_61 (by decide) ?_
          refine mg_lv [2, 3, 4, 0, 1] rfl ?_
          exact ih q3.1 (x4 + 1) (v_p1_depth + 1) v_t_nextTiltX v_t_nextTiltY q3.2.1 q3.2.2.1 q3.2.2.2.1 q3.2.2.2.2.1 q3.2.2.2.2.2 _ hf X0
  refine mg_aload_n (pc := 0) C 0 dX1_sink_0 rfl rfl ?_
  refine mg_aload_n (pc := 1) C 1 dX1_sink_1 rfl rfl ?_
  obtain ⟨q1, h2, hf⟩ := mg_b hf
  refine mg_callV (pc := 2) C (w2 := w_X1_sink k a_t a_p1 a_p1_bottoms a_t_site a_t_trial a_t_chosen a_t_site_ballast a_t_site_lubricated a_t_site_pose a_t_site_ground a_t_site_boulders a_t_site_records a_t_site_boulders_list a_t_site_boulders_list_values a_t_site_ground_layers a_t_site_ground_layers_values v_p1_depth v_p1_tiltX v_p1_tiltY v_p1_bottoms q1.2.1 q1.2.2.1 q1.2.2.2.1 q1.2.2.2.2.1 q1.2.2.2.2.2 v_t_site_columns v_t_site_rows v_t_site_weight v_t_site_stiffness v_t_site_water v_t_site_ballast v_t_site_boulders_list_count v_t_site_boulders_list_values v_t_site_ground_layers_count v_t_site_ground_layers_values v_t_site_lubricated) (c_X1_examine z.2.1 k a_t a_p1 a_p1_bottoms a_t_site a_t_trial a_t_chosen a_t_site_ballast a_t_site_lubricated a_t_site_pose a_t_site_ground a_t_site_boulders a_t_site_records a_t_site_boulders_list a_t_site_boulders_list_values a_t_site_ground_layers a_t_site_ground_layers_values v_p1_depth v_p1_tiltX v_p1_tiltY v_p1_bottoms v_t_excess v_t_momentX v_t_momentY v_t_nextTiltX v_t_nextTiltY v_t_site_columns v_t_site_rows v_t_site_weight v_t_site_stiffness v_t_site_water v_t_site_ballast v_t_site_boulders_list_count v_t_site_boulders_list_values v_t_site_ground_layers_count v_t_site_ground_layers_values v_t_site_lubricated fuel q1 h2) Y_X1_examine wm_734 (by decide) rfl 2 rfl rfl rfl [0, 1, 2, 3, 4, 5, 6, 7, 8, 9, 10, 11] rfl (by decide) rfl [some 0, some 1, some 2, some 3, some 4, some 5, some 6, some 7, some 8, some 9, some 10, some 11] (by decide) rfl (Nat.le_of_ble_eq_true rfl) rfl dX1_sink_2 ?_
  refine mg_istore_n (pc := 5) C (lv' := [(3, .int q1.1), (0, .ref a_t), (1, .ref a_p1), (2, .int x2)]) dX1_sink_5 rfl (by decide) rfl ?_
  refine mg_iload_n (pc := 6) C 0 dX1_sink_6 rfl rfl ?_
  refine mg_if_ne (pc := 7) (tgt := 12) C dX1_sink_7 (by decide) hf (fun hf => ?_) (fun hf => ?_)
  · refine mg_iconst (pc := 12) C dX1_sink_12 (v := 0) (by decide) ?_
    refine mg_istore (pc := 13) C (lv' := [(4, .int 0), (3, .int q1.1), (0, .ref a_t), (1, .ref a_p1), (2, .int x2)]) dX1_sink_13 (by decide) rfl ?_
    obtain ⟨q5, h6, hf⟩ := mg_b hf
    refine mg_lv [2, 3, 4, 1, 0] rfl ?_
    refine L15 x2 v_p1_bottoms fuel q1.1 0 v_p1_depth v_p1_tiltX v_p1_tiltY q1.2.1 q1.2.2.1 q1.2.2.2.1 q1.2.2.2.2.1 q1.2.2.2.2.2 q5 h6 ?_
    refine mg_aload_n (pc := 64) C 0 dX1_sink_64 rfl rfl ?_
    refine mg_aload_n (pc := 65) C 1 dX1_sink_65 rfl rfl ?_
    obtain ⟨q7, h8, hf⟩ := mg_b hf
    refine mg_callV (pc := 66) C (w2 := w_X1_sink k a_t a_p1 a_p1_bottoms a_t_site a_t_trial a_t_chosen a_t_site_ballast a_t_site_lubricated a_t_site_pose a_t_site_ground a_t_site_boulders a_t_site_records a_t_site_boulders_list a_t_site_boulders_list_values a_t_site_ground_layers a_t_site_ground_layers_values q5.2.2.1 q5.2.2.2.1 q5.2.2.2.2.1 q7 q5.2.2.2.2.2.1 q5.2.2.2.2.2.2.1 q5.2.2.2.2.2.2.2.1 q5.2.2.2.2.2.2.2.2.1 q5.2.2.2.2.2.2.2.2.2 v_t_site_columns v_t_site_rows v_t_site_weight v_t_site_stiffness v_t_site_water v_t_site_ballast v_t_site_boulders_list_count v_t_site_boulders_list_values v_t_site_ground_layers_count v_t_site_ground_layers_values v_t_site_lubricated) (c_X1_heave z.2.1 k a_t a_p1 a_p1_bottoms a_t_site a_t_trial a_t_chosen a_t_site_ballast a_t_site_lubricated a_t_site_pose a_t_site_ground a_t_site_boulders a_t_site_records a_t_site_ground_layers a_t_site_ground_layers_values q5.2.2.1 q5.2.2.2.1 q5.2.2.2.2.1 v_p1_bottoms q5.2.2.2.2.2.1 q5.2.2.2.2.2.2.1 q5.2.2.2.2.2.2.2.1 q5.2.2.2.2.2.2.2.2.1 q5.2.2.2.2.2.2.2.2.2 v_t_site_columns v_t_site_rows v_t_site_weight v_t_site_stiffness v_t_site_water v_t_site_ground_layers_count v_t_site_ground_layers_values fuel q7 h8) Y_X1_heave wm_735 (by decide) rfl 2 rfl rfl rfl [0, 1, 2, 3, 8, 9, 10] rfl (by decide) rfl [some 0, some 1, some 2, some 3, none, none, none, none, some 4, some 5, some 6, none] (by decide) rfl (Nat.le_of_ble_eq_true rfl) rfl dX1_sink_66 ?_
    refine mg_iload (pc := 69) C 2 dX1_sink_69 rfl ?_
    obtain rfl := Option.some.inj hf
    exact E _ _ dX1_sink_71
  · refine mg_iconst (pc := 10) C dX1_sink_10 (v := 0) (by decide) ?_
    obtain rfl := Option.some.inj hf
    exact E _ _ dX1_sink_11
abbrev w_X1_isBetterThanChosen (k : mg_K) (a_t a_p1 a_p1_bottoms a_t_site a_t_trial a_t_chosen a_t_chosen_bottoms : Nat) (v_p1_depth : Int32) (v_p1_tiltX : Int32) (v_p1_tiltY : Int32) (v_t_excess : Int32) (v_t_momentX : Int32) (v_t_momentY : Int32) (v_t_nextTiltX : Int32) (v_t_nextTiltY : Int32) (v_t_chosen_depth : Int32) (v_t_chosen_tiltX : Int32) (v_t_chosen_tiltY : Int32) : va_W := [(a_p1, .inr (4, [.int v_p1_depth, .int v_p1_tiltX, .int v_p1_tiltY, .ref a_p1_bottoms])), (a_t, .inr (1, [.ref a_t_site, .ref a_t_trial, .ref a_t_chosen, .int v_t_excess, .int v_t_momentX, .int v_t_momentY, .int v_t_nextTiltX, .int v_t_nextTiltY])), (a_t_chosen, .inr (4, [.int v_t_chosen_depth, .int v_t_chosen_tiltX, .int v_t_chosen_tiltY, .ref a_t_chosen_bottoms]))]
def f_X1_isBetterThanChosen (v_p1_depth : Int32) (v_p1_tiltX : Int32) (v_p1_tiltY : Int32) (v_t_chosen_depth : Int32) (v_t_chosen_tiltX : Int32) (v_t_chosen_tiltY : Int32) : Option (Int32) := (f_X4_tiltSum v_p1_tiltX v_p1_tiltY).bind (fun q1 => (f_X4_tiltSum v_t_chosen_tiltX v_t_chosen_tiltY).bind (fun q3 => if (q1 - q3) < 0 then (some 1) else (if (q1 - q3) = 0 then (if v_p1_depth ≤ v_t_chosen_depth then (some 0) else (some 1)) else (some 0))))
theorem Y_X1_isBetterThanChosen : mg_Y yX1_isBetterThanChosen cX1_isBetterThanChosen 3 (some .boolean) 1 := ⟨wm_805, wp_18, wm_2, wm_806, ⟨by decide +kernel, by decide +kernel, by decide +kernel⟩, by decide⟩
set_option maxRecDepth 100000 in
set_option maxHeartbeats 4000000 in
theorem c_X1_isBetterThanChosen (l : Launch) (k : mg_K) (a_t a_p1 a_p1_bottoms a_t_site a_t_trial a_t_chosen a_t_chosen_bottoms : Nat) (v_p1_depth : Int32) (v_p1_tiltX : Int32) (v_p1_tiltY : Int32) (v_t_excess : Int32) (v_t_momentX : Int32) (v_t_momentY : Int32) (v_t_nextTiltX : Int32) (v_t_nextTiltY : Int32) (v_t_chosen_depth : Int32) (v_t_chosen_tiltX : Int32) (v_t_chosen_tiltY : Int32) (q : Int32) (hf : f_X1_isBetterThanChosen v_p1_depth v_p1_tiltX v_p1_tiltY v_t_chosen_depth v_t_chosen_tiltX v_t_chosen_tiltY = some q) : mg_M l yX1_isBetterThanChosen cX1_isBetterThanChosen 3 (some .boolean) 2 k [.ref a_t, .ref a_p1] (w_X1_isBetterThanChosen k a_t a_p1 a_p1_bottoms a_t_site a_t_trial a_t_chosen a_t_chosen_bottoms v_p1_depth v_p1_tiltX v_p1_tiltY v_t_excess v_t_momentX v_t_momentY v_t_nextTiltX v_t_nextTiltY v_t_chosen_depth v_t_chosen_tiltX v_t_chosen_tiltY) (w_X1_isBetterThanChosen k a_t a_p1 a_p1_bottoms a_t_site a_t_trial a_t_chosen a_t_chosen_bottoms v_p1_depth v_p1_tiltX v_p1_tiltY v_t_excess v_t_momentX v_t_momentY v_t_nextTiltX v_t_nextTiltY v_t_chosen_depth v_t_chosen_tiltX v_t_chosen_tiltY) (some (.int q)) := by
  refine mg_Mz RX1 [(0, .ref a_t), (1, .ref a_p1)] (by decide +kernel) rfl rfl (Nat.le_of_ble_eq_true rfl) ?_
  intro z A Q hl C E
  subst hl
  unfold f_X1_isBetterThanChosen at hf
  refine mg_aload_n (pc := 0) C 1 dX1_isBetterThanChosen_0 rfl rfl ?_
  obtain ⟨q1, h2, hf⟩ := mg_b hf
  refine mg_callV (pc := 1) C (w2 := w_X1_isBetterThanChosen k a_t a_p1 a_p1_bottoms a_t_site a_t_trial a_t_chosen a_t_chosen_bottoms v_p1_depth v_p1_tiltX v_p1_tiltY v_t_excess v_t_momentX v_t_momentY v_t_nextTiltX v_t_nextTiltY v_t_chosen_depth v_t_chosen_tiltX v_t_chosen_tiltY) (c_X4_tiltSum z.2.1 k a_p1 a_p1_bottoms v_p1_depth v_p1_tiltX v_p1_tiltY q1 h2) Y_X4_tiltSum wm_807 (by decide) rfl 0 rfl rfl rfl [0] rfl (by decide) rfl [some 0, none, none] (by decide) rfl (Nat.le_of_ble_eq_true rfl) rfl dX1_isBetterThanChosen_1 ?_
  refine mg_aload_n (pc := 4) C 0 dX1_isBetterThanChosen_4 rfl rfl ?_
  refine mg_get (pc := 5) C 1 rfl rfl inX1 2 (by decide) wm_203 rfl rfl dX1_isBetterThanChosen_5 ?_
  obtain ⟨q3, h4, hf⟩ := mg_b hf
  refine mg_callV (pc := 8) C (w2 := w_X1_isBetterThanChosen k a_t a_p1 a_p1_bottoms a_t_site a_t_trial a_t_chosen a_t_chosen_bottoms v_p1_depth v_p1_tiltX v_p1_tiltY v_t_excess v_t_momentX v_t_momentY v_t_nextTiltX v_t_nextTiltY v_t_chosen_depth v_t_chosen_tiltX v_t_chosen_tiltY) (c_X4_tiltSum z.2.1 k a_t_chosen a_t_chosen_bottoms v_t_chosen_depth v_t_chosen_tiltX v_t_chosen_tiltY q3 h4) Y_X4_tiltSum wm_807 (by decide) rfl 2 rfl rfl rfl [2] rfl (by decide) rfl [none, none, some 0] (by decide) rfl (Nat.le_of_ble_eq_true rfl) rfl dX1_isBetterThanChosen_8 ?_
  refine mg_isub (pc := 11) C dX1_isBetterThanChosen_11 ?_
  refine mg_istore_n (pc := 12) C (lv' := [(2, .int (q1 - q3)), (0, .ref a_t), (1, .ref a_p1)]) dX1_isBetterThanChosen_12 rfl (by decide) rfl ?_
  refine mg_iload_n (pc := 13) C 0 dX1_isBetterThanChosen_13 rfl rfl ?_
  refine mg_if_lt (pc := 14) (tgt := 35) C dX1_isBetterThanChosen_14 (by decide) hf (fun hf => ?_) (fun hf => ?_)
  · refine mg_iconst (pc := 35) C dX1_isBetterThanChosen_35 (v := 1) (by decide) ?_
    refine mg_goto (pc := 36) (tgt := 40) C dX1_isBetterThanChosen_36 (by decide) ?_
    obtain rfl := Option.some.inj hf
    exact E mg_n1 _ _ dX1_isBetterThanChosen_40
  · refine mg_iload_n (pc := 17) C 0 dX1_isBetterThanChosen_17 rfl rfl ?_
    refine mg_if_ne (pc := 18) (tgt := 39) C dX1_isBetterThanChosen_18 (by decide) hf (fun hf => ?_) (fun hf => ?_)
    · refine mg_iconst (pc := 39) C dX1_isBetterThanChosen_39 (v := 0) (by decide) ?_
      obtain rfl := Option.some.inj hf
      exact E mg_n0 _ _ dX1_isBetterThanChosen_40
    · refine mg_aload_n (pc := 21) C 2 dX1_isBetterThanChosen_21 rfl rfl ?_
      refine mg_get (pc := 22) C 0 rfl rfl inX4 0 (by decide) wm_44 rfl rfl dX1_isBetterThanChosen_22 ?_
      refine mg_aload_n (pc := 25) C 1 dX1_isBetterThanChosen_25 rfl rfl ?_
      refine mg_get (pc := 26) C 1 rfl rfl inX1 2 (by decide) wm_203 rfl rfl dX1_isBetterThanChosen_26 ?_
      refine mg_get (pc := 29) C 2 rfl rfl inX4 0 (by decide) wm_44 rfl rfl dX1_isBetterThanChosen_29 ?_
      refine mg_icmp_le (pc := 32) (tgt := 39) C dX1_isBetterThanChosen_32 (by decide) hf (fun hf => ?_) (fun hf => ?_)
      · refine mg_iconst (pc := 39) C dX1_isBetterThanChosen_39 (v := 0) (by decide) ?_
        obtain rfl := Option.some.inj hf
        exact E mg_n0 _ _ dX1_isBetterThanChosen_40
      · refine mg_iconst (pc := 35) C dX1_isBetterThanChosen_35 (v := 1) (by decide) ?_
        refine mg_goto (pc := 36) (tgt := 40) C dX1_isBetterThanChosen_36 (by decide) ?_
        obtain rfl := Option.some.inj hf
        exact E mg_n1 _ _ dX1_isBetterThanChosen_40
abbrev w_X1_chooseWell (k : mg_K) (a_t a_p1 a_p1_bottoms a_t_site a_t_trial a_t_chosen a_t_chosen_bottoms a_t_site_ballast a_t_site_lubricated a_t_site_pose a_t_site_ground a_t_site_boulders a_t_site_records a_t_site_boulders_list a_t_site_boulders_list_values a_t_site_ground_layers a_t_site_ground_layers_values a_t_trial_bottoms : Nat) (v_p1_depth : Int32) (v_p1_tiltX : Int32) (v_p1_tiltY : Int32) (v_p1_bottoms : Nat → Int32) (v_t_excess : Int32) (v_t_momentX : Int32) (v_t_momentY : Int32) (v_t_nextTiltX : Int32) (v_t_nextTiltY : Int32) (v_t_chosen_depth : Int32) (v_t_chosen_tiltX : Int32) (v_t_chosen_tiltY : Int32) (v_t_chosen_bottoms : Nat → Int32) (v_t_site_columns : Int32) (v_t_site_rows : Int32) (v_t_site_weight : Int32) (v_t_site_stiffness : Int32) (v_t_site_water : Int32) (v_t_site_ballast : Nat → Int32) (v_t_site_boulders_list_count : Int32) (v_t_site_boulders_list_values : Nat → Int32) (v_t_site_ground_layers_count : Int32) (v_t_site_ground_layers_values : Nat → Int32) (v_t_site_lubricated : Nat → Int32) (v_t_trial_depth : Int32) (v_t_trial_tiltX : Int32) (v_t_trial_tiltY : Int32) (v_t_trial_bottoms : Nat → Int32) : va_W := [(a_p1, .inr (4, [.int v_p1_depth, .int v_p1_tiltX, .int v_p1_tiltY, .ref a_p1_bottoms])), (a_p1_bottoms, .inl (k.2.1, 49, .inl v_p1_bottoms)), (a_t, .inr (1, [.ref a_t_site, .ref a_t_trial, .ref a_t_chosen, .int v_t_excess, .int v_t_momentX, .int v_t_momentY, .int v_t_nextTiltX, .int v_t_nextTiltY])), (a_t_chosen, .inr (4, [.int v_t_chosen_depth, .int v_t_chosen_tiltX, .int v_t_chosen_tiltY, .ref a_t_chosen_bottoms])), (a_t_chosen_bottoms, .inl (k.2.1, 49, .inl v_t_chosen_bottoms)), (a_t_site, .inr (5, [.int v_t_site_columns, .int v_t_site_rows, .int v_t_site_weight, .int v_t_site_stiffness, .int v_t_site_water, .ref a_t_site_ballast, .ref a_t_site_lubricated, .ref a_t_site_pose, .ref a_t_site_ground, .ref a_t_site_boulders, .ref a_t_site_records])), (a_t_site_ballast, .inl (k.2.1, 49, .inl v_t_site_ballast)), (a_t_site_boulders, .inr (0, [.ref a_t_site_boulders_list])), (a_t_site_boulders_list, .inr (7, [.int 10, .ref a_t_site_boulders_list_values, .int v_t_site_boulders_list_count])), (a_t_site_boulders_list_values, .inl (k.2.1, 30, .inl v_t_site_boulders_list_values)), (a_t_site_ground, .inr (2, [.ref a_t_site_ground_layers])), (a_t_site_ground_layers, .inr (7, [.int 8, .ref a_t_site_ground_layers_values, .int v_t_site_ground_layers_count])), (a_t_site_ground_layers_values, .inl (k.2.1, 24, .inl v_t_site_ground_layers_values)), (a_t_site_lubricated, .inl (k.2.1, 4, .inl v_t_site_lubricated)), (a_t_trial, .inr (4, [.int v_t_trial_depth, .int v_t_trial_tiltX, .int v_t_trial_tiltY, .ref a_t_trial_bottoms])), (a_t_trial_bottoms, .inl (k.2.1, 49, .inl v_t_trial_bottoms))]
def f_X1_chooseWell_L23 (fuel : Nat) (v_p1_depth : Int32) (v_p1_tiltX : Int32) (v_p1_tiltY : Int32) (v_p1_bottoms : Nat → Int32) (v_t_site_columns : Int32) (v_t_site_rows : Int32) (v_t_site_weight : Int32) (v_t_site_stiffness : Int32) (v_t_site_water : Int32) (v_t_site_ballast : Nat → Int32) (v_t_site_boulders_list_count : Int32) (v_t_site_boulders_list_values : Nat → Int32) (v_t_site_ground_layers_count : Int32) (v_t_site_ground_layers_values : Nat → Int32) (v_t_site_lubricated : Nat → Int32) (x2 : Int32) (x4 : Int32) : Nat → Int32 → Int32 → Int32 → Int32 → Int32 → Int32 → Int32 → Int32 → Int32 → Int32 → (Nat → Int32) → Int32 → Int32 → Int32 → (Nat → Int32) → Option (Int32 × Int32 × Int32 × Int32 × Int32 × Int32 × Int32 × Int32 × Int32 × Int32 × (Nat → Int32) × Int32 × Int32 × Int32 × (Nat → Int32))
  | 0, _, _, _, _, _, _, _, _, _, _, _, _, _, _, _ => none
  | n_ + 1, x3, x5, v_t_excess, v_t_momentX, v_t_momentY, v_t_nextTiltX, v_t_nextTiltY, v_t_chosen_depth, v_t_chosen_tiltX, v_t_chosen_tiltY, v_t_chosen_bottoms, v_t_trial_depth, v_t_trial_tiltX, v_t_trial_tiltY, v_t_trial_bottoms => if x4 ≤ x5 then (some ((x3, x5, v_t_excess, v_t_momentX, v_t_momentY, v_t_nextTiltX, v_t_nextTiltY, v_t_chosen_depth, v_t_chosen_tiltX, v_t_chosen_tiltY, v_t_chosen_bottoms, v_t_trial_depth, v_t_trial_tiltX, v_t_trial_tiltY, v_t_trial_bottoms))) else ((f_X5_isWell v_t_site_columns v_t_site_rows x5).bind (fun q1 => if q1 = 0 then (f_X1_chooseWell_L23 fuel v_p1_depth v_p1_tiltX v_p1_tiltY v_p1_bottoms v_t_site_columns v_t_site_rows v_t_site_weight v_t_site_stiffness v_t_site_water v_t_site_ballast v_t_site_boulders_list_count v_t_site_boulders_list_values v_t_site_ground_layers_count v_t_site_ground_layers_values v_t_site_lubricated x2 x4 n_ x3 (x5 + 1) v_t_excess v_t_momentX v_t_momentY v_t_nextTiltX v_t_nextTiltY v_t_chosen_depth v_t_chosen_tiltX v_t_chosen_tiltY v_t_chosen_bottoms v_t_trial_depth v_t_trial_tiltX v_t_trial_tiltY v_t_trial_bottoms) else ((f_X5_bottomAfterDigging fuel v_p1_depth v_p1_bottoms v_t_site_boulders_list_count v_t_site_boulders_list_values x5 x2).bind (fun q3 => if mg_ix x5 49 = true then (if (v_p1_bottoms (Int32.toNatClampNeg x5)) < q3 then ((f_X4_copyFrom v_p1_depth v_p1_tiltX v_p1_tiltY v_p1_bottoms v_t_trial_bottoms).bind (fun q5 => if mg_ix x5 49 = true then ((f_X1_sink fuel q5.1 q5.2.1 q5.2.2.1 (upd q5.2.2.2 (Int32.toNatClampNeg x5) q3) v_t_nextTiltX v_t_nextTiltY v_t_site_columns v_t_site_rows v_t_site_weight v_t_site_stiffness v_t_site_water v_t_site_ballast v_t_site_boulders_list_count v_t_site_boulders_list_values v_t_site_ground_layers_count v_t_site_ground_layers_values v_t_site_lubricated 20).bind (fun q7 => if x3 = (-1000009) then ((f_X4_copyFrom q7.2.1 q7.2.2.1 q7.2.2.2.1 q7.2.2.2.2.1 v_t_chosen_bottoms).bind (fun q9 => f_X1_chooseWell_L23 fuel v_p1_depth v_p1_tiltX v_p1_tiltY v_p1_bottoms v_t_site_columns v_t_site_rows v_t_site_weight v_t_site_stiffness v_t_site_water v_t_site_ballast v_t_site_boulders_list_count v_t_site_boulders_list_values v_t_site_ground_layers_count v_t_site_ground_layers_values v_t_site_lubricated x2 x4 n_ x5 (x5 + 1) q7.2.2.2.2.2.1 q7.2.2.2.2.2.2.1 q7.2.2.2.2.2.2.2.1 q7.2.2.2.2.2.2.2.2.1 q7.2.2.2.2.2.2.2.2.2 q9.1 q9.2.1 q9.2.2.1 q9.2.2.2 q7.2.1 q7.2.2.1 q7.2.2.2.1 q7.2.2.2.2.1)) else ((f_X1_isBetterThanChosen q7.2.1 q7.2.2.1 q7.2.2.2.1 v_t_chosen_depth v_t_chosen_tiltX v_t_chosen_tiltY).bind (fun q11 => if q11 = 0 then (f_X1_chooseWell_L23 fuel v_p1_depth v_p1_tiltX v_p1_tiltY v_p1_bottoms v_t_site_columns v_t_site_rows v_t_site_weight v_t_site_stiffness v_t_site_water v_t_site_ballast v_t_site_boulders_list_count v_t_site_boulders_list_values v_t_site_ground_layers_count v_t_site_ground_layers_values v_t_site_lubricated x2 x4 n_ x3 (x5 + 1) q7.2.2.2.2.2.1 q7.2.2.2.2.2.2.1 q7.2.2.2.2.2.2.2.1 q7.2.2.2.2.2.2.2.2.1 q7.2.2.2.2.2.2.2.2.2 v_t_chosen_depth v_t_chosen_tiltX v_t_chosen_tiltY v_t_chosen_bottoms q7.2.1 q7.2.2.1 q7.2.2.2.1 q7.2.2.2.2.1) else ((f_X4_copyFrom q7.2.1 q7.2.2.1 q7.2.2.2.1 q7.2.2.2.2.1 v_t_chosen_bottoms).bind (fun q13 => f_X1_chooseWell_L23 fuel v_p1_depth v_p1_tiltX v_p1_tiltY v_p1_bottoms v_t_site_columns v_t_site_rows v_t_site_weight v_t_site_stiffness v_t_site_water v_t_site_ballast v_t_site_boulders_list_count v_t_site_boulders_list_values v_t_site_ground_layers_count v_t_site_ground_layers_values v_t_site_lubricated x2 x4 n_ x5 (x5 + 1) q7.2.2.2.2.2.1 q7.2.2.2.2.2.2.1 q7.2.2.2.2.2.2.2.1 q7.2.2.2.2.2.2.2.2.1 q7.2.2.2.2.2.2.2.2.2 q13.1 q13.2.1 q13.2.2.1 q13.2.2.2 q7.2.1 q7.2.2.1 q7.2.2.2.1 q7.2.2.2.2.1)))))) else none)) else (f_X1_chooseWell_L23 fuel v_p1_depth v_p1_tiltX v_p1_tiltY v_p1_bottoms v_t_site_columns v_t_site_rows v_t_site_weight v_t_site_stiffness v_t_site_water v_t_site_ballast v_t_site_boulders_list_count v_t_site_boulders_list_values v_t_site_ground_layers_count v_t_site_ground_layers_values v_t_site_lubricated x2 x4 n_ x3 (x5 + 1) v_t_excess v_t_momentX v_t_momentY v_t_nextTiltX v_t_nextTiltY v_t_chosen_depth v_t_chosen_tiltX v_t_chosen_tiltY v_t_chosen_bottoms v_t_trial_depth v_t_trial_tiltX v_t_trial_tiltY v_t_trial_bottoms)) else none))))
def f_X1_chooseWell (fuel : Nat) (v_p1_depth : Int32) (v_p1_tiltX : Int32) (v_p1_tiltY : Int32) (v_p1_bottoms : Nat → Int32) (v_t_excess : Int32) (v_t_momentX : Int32) (v_t_momentY : Int32) (v_t_nextTiltX : Int32) (v_t_nextTiltY : Int32) (v_t_chosen_depth : Int32) (v_t_chosen_tiltX : Int32) (v_t_chosen_tiltY : Int32) (v_t_chosen_bottoms : Nat → Int32) (v_t_site_columns : Int32) (v_t_site_rows : Int32) (v_t_site_weight : Int32) (v_t_site_stiffness : Int32) (v_t_site_water : Int32) (v_t_site_ballast : Nat → Int32) (v_t_site_boulders_list_count : Int32) (v_t_site_boulders_list_values : Nat → Int32) (v_t_site_ground_layers_count : Int32) (v_t_site_ground_layers_values : Nat → Int32) (v_t_site_lubricated : Nat → Int32) (v_t_trial_depth : Int32) (v_t_trial_tiltX : Int32) (v_t_trial_tiltY : Int32) (v_t_trial_bottoms : Nat → Int32) (x2 : Int32) : Option (Int32 × Int32 × Int32 × Int32 × Int32 × Int32 × Int32 × Int32 × Int32 × (Nat → Int32) × Int32 × Int32 × Int32 × (Nat → Int32)) := (f_X1_chooseWell_L23 fuel v_p1_depth v_p1_tiltX v_p1_tiltY v_p1_bottoms v_t_site_columns v_t_site_rows v_t_site_weight v_t_site_stiffness v_t_site_water v_t_site_ballast v_t_site_boulders_list_count v_t_site_boulders_list_values v_t_site_ground_layers_count v_t_site_ground_layers_values v_t_site_lubricated x2 (v_t_site_columns * v_t_site_rows) fuel (-1000009) 0 v_t_excess v_t_momentX v_t_momentY v_t_nextTiltX v_t_nextTiltY v_t_chosen_depth v_t_chosen_tiltX v_t_chosen_tiltY v_t_chosen_bottoms v_t_trial_depth v_t_trial_tiltX v_t_trial_tiltY v_t_trial_bottoms).bind (fun q15 => some (q15.1, q15.2.2.1, q15.2.2.2.1, q15.2.2.2.2.1, q15.2.2.2.2.2.1, q15.2.2.2.2.2.2.1, q15.2.2.2.2.2.2.2.1, q15.2.2.2.2.2.2.2.2.1, q15.2.2.2.2.2.2.2.2.2.1, q15.2.2.2.2.2.2.2.2.2.2.1, q15.2.2.2.2.2.2.2.2.2.2.2.1, q15.2.2.2.2.2.2.2.2.2.2.2.2.1, q15.2.2.2.2.2.2.2.2.2.2.2.2.2.1, q15.2.2.2.2.2.2.2.2.2.2.2.2.2.2))
theorem Y_X1_chooseWell : mg_Y yX1_chooseWell cX1_chooseWell 7 (some .int) 2 := ⟨wm_795, wm_796, wm_2, wm_797, ⟨by decide +kernel, by decide +kernel, by decide +kernel⟩, by decide⟩
set_option maxRecDepth 100000 in
set_option maxHeartbeats 4000000 in
theorem c_X1_chooseWell (l : Launch) (k : mg_K) (a_t a_p1 a_p1_bottoms a_t_site a_t_trial a_t_chosen a_t_chosen_bottoms a_t_site_ballast a_t_site_lubricated a_t_site_pose a_t_site_ground a_t_site_boulders a_t_site_records a_t_site_boulders_list a_t_site_boulders_list_values a_t_site_ground_layers a_t_site_ground_layers_values a_t_trial_bottoms : Nat) (v_p1_depth : Int32) (v_p1_tiltX : Int32) (v_p1_tiltY : Int32) (v_p1_bottoms : Nat → Int32) (v_t_excess : Int32) (v_t_momentX : Int32) (v_t_momentY : Int32) (v_t_nextTiltX : Int32) (v_t_nextTiltY : Int32) (v_t_chosen_depth : Int32) (v_t_chosen_tiltX : Int32) (v_t_chosen_tiltY : Int32) (v_t_chosen_bottoms : Nat → Int32) (v_t_site_columns : Int32) (v_t_site_rows : Int32) (v_t_site_weight : Int32) (v_t_site_stiffness : Int32) (v_t_site_water : Int32) (v_t_site_ballast : Nat → Int32) (v_t_site_boulders_list_count : Int32) (v_t_site_boulders_list_values : Nat → Int32) (v_t_site_ground_layers_count : Int32) (v_t_site_ground_layers_values : Nat → Int32) (v_t_site_lubricated : Nat → Int32) (v_t_trial_depth : Int32) (v_t_trial_tiltX : Int32) (v_t_trial_tiltY : Int32) (v_t_trial_bottoms : Nat → Int32) (fuel : Nat) (x2 : Int32) (q : Int32 × Int32 × Int32 × Int32 × Int32 × Int32 × Int32 × Int32 × Int32 × (Nat → Int32) × Int32 × Int32 × Int32 × (Nat → Int32)) (hf : f_X1_chooseWell fuel v_p1_depth v_p1_tiltX v_p1_tiltY v_p1_bottoms v_t_excess v_t_momentX v_t_momentY v_t_nextTiltX v_t_nextTiltY v_t_chosen_depth v_t_chosen_tiltX v_t_chosen_tiltY v_t_chosen_bottoms v_t_site_columns v_t_site_rows v_t_site_weight v_t_site_stiffness v_t_site_water v_t_site_ballast v_t_site_boulders_list_count v_t_site_boulders_list_values v_t_site_ground_layers_count v_t_site_ground_layers_values v_t_site_lubricated v_t_trial_depth v_t_trial_tiltX v_t_trial_tiltY v_t_trial_bottoms x2 = some q) : mg_M l yX1_chooseWell cX1_chooseWell 7 (some .int) 6 k [.ref a_t, .ref a_p1, .int x2] (w_X1_chooseWell k a_t a_p1 a_p1_bottoms a_t_site a_t_trial a_t_chosen a_t_chosen_bottoms a_t_site_ballast a_t_site_lubricated a_t_site_pose a_t_site_ground a_t_site_boulders a_t_site_records a_t_site_boulders_list a_t_site_boulders_list_values a_t_site_ground_layers a_t_site_ground_layers_values a_t_trial_bottoms v_p1_depth v_p1_tiltX v_p1_tiltY v_p1_bottoms v_t_excess v_t_momentX v_t_momentY v_t_nextTiltX v_t_nextTiltY v_t_chosen_depth v_t_chosen_tiltX v_t_chosen_tiltY v_t_chosen_bottoms v_t_site_columns v_t_site_rows v_t_site_weight v_t_site_stiffness v_t_site_water v_t_site_ballast v_t_site_boulders_list_count v_t_site_boulders_list_values v_t_site_ground_layers_count v_t_site_ground_layers_values v_t_site_lubricated v_t_trial_depth v_t_trial_tiltX v_t_trial_tiltY v_t_trial_bottoms) (w_X1_chooseWell k a_t a_p1 a_p1_bottoms a_t_site a_t_trial a_t_chosen a_t_chosen_bottoms a_t_site_ballast a_t_site_lubricated a_t_site_pose a_t_site_ground a_t_site_boulders a_t_site_records a_t_site_boulders_list a_t_site_boulders_list_values a_t_site_ground_layers a_t_site_ground_layers_values a_t_trial_bottoms v_p1_depth v_p1_tiltX v_p1_tiltY v_p1_bottoms q.2.1 q.2.2.1 q.2.2.2.1 q.2.2.2.2.1 q.2.2.2.2.2.1 q.2.2.2.2.2.2.1 q.2.2.2.2.2.2.2.1 q.2.2.2.2.2.2.2.2.1 q.2.2.2.2.2.2.2.2.2.1 v_t_site_columns v_t_site_rows v_t_site_weight v_t_site_stiffness v_t_site_water v_t_site_ballast v_t_site_boulders_list_count v_t_site_boulders_list_values v_t_site_ground_layers_count v_t_site_ground_layers_values v_t_site_lubricated q.2.2.2.2.2.2.2.2.2.2.1 q.2.2.2.2.2.2.2.2.2.2.2.1 q.2.2.2.2.2.2.2.2.2.2.2.2.1 q.2.2.2.2.2.2.2.2.2.2.2.2.2) (some (.int q.1)) := by
  refine mg_Mi RX1 [(0, .ref a_t), (1, .ref a_p1), (2, .int x2)] (by decide +kernel) rfl rfl (Nat.le_of_ble_eq_true rfl) ?_
  intro z A Q hl C E
  subst hl
  unfold f_X1_chooseWell at hf
  have L23 : ∀ (x2 : Int32) (x4 : Int32) (n_ : Nat) (x3 : Int32) (x5 : Int32) (v_t_excess : Int32) (v_t_momentX : Int32) (v_t_momentY : Int32) (v_t_nextTiltX : Int32) (v_t_nextTiltY : Int32) (v_t_chosen_depth : Int32) (v_t_chosen_tiltX : Int32) (v_t_chosen_tiltY : Int32) (v_t_chosen_bottoms : Nat → Int32) (v_t_trial_depth : Int32) (v_t_trial_tiltX : Int32) (v_t_trial_tiltY : Int32) (v_t_trial_bottoms : Nat → Int32) (q_ : Int32 × Int32 × Int32 × Int32 × Int32 × Int32 × Int32 × Int32 × Int32 × Int32 × (Nat → Int32) × Int32 × Int32 × Int32 × (Nat → Int32)), f_X1_chooseWell_L23 fuel v_p1_depth v_p1_tiltX v_p1_tiltY v_p1_bottoms v_t_site_columns v_t_site_rows v_t_site_weight v_t_site_stiffness v_t_site_water v_t_site_ballast v_t_site_boulders_list_count v_t_site_boulders_list_values v_t_site_ground_layers_count v_t_site_ground_layers_values v_t_site_lubricated x2 x4 n_ x3 x5 v_t_excess v_t_momentX v_t_momentY v_t_nextTiltX v_t_nextTiltY v_t_chosen_depth v_t_chosen_tiltX v_t_chosen_tiltY v_t_chosen_bottoms v_t_trial_depth v_t_trial_tiltX v_t_trial_tiltY v_t_trial_bottoms = some q_ → (mg z k A 7 0 0 Q (w_X1_chooseWell k a_t a_p1 a_p1_bottoms a_t_site a_t_trial a_t_chosen a_t_chosen_bottoms a_t_site_ballast a_t_site_lubricated a_t_site_pose a_t_site_ground a_t_site_boulders a_t_site_records a_t_site_boulders_list a_t_site_boulders_list_values a_t_site_ground_layers a_t_site_ground_layers_values a_t_trial_bottoms v_p1_depth v_p1_tiltX v_p1_tiltY v_p1_bottoms q_.2.2.1 q_.2.2.2.1 q_.2.2.2.2.1 q_.2.2.2.2.2.1 q_.2.2.2.2.2.2.1 q_.2.2.2.2.2.2.2.1 q_.2.2.2.2.2.2.2.2.1 q_.2.2.2.2.2.2.2.2.2.1 q_.2.2.2.2.2.2.2.2.2.2.1 v_t_site_columns v_t_site_rows v_t_site_weight v_t_site_stiffness v_t_site_water v_t_site_ballast v_t_site_boulders_list_count v_t_site_boulders_list_values v_t_site_ground_layers_count v_t_site_ground_layers_values v_t_site_lubricated q_.2.2.2.2.2.2.2.2.2.2.2.1 q_.2.2.2.2.2.2.2.2.2.2.2.2.1 q_.2.2.2.2.2.2.2.2.2.2.2.2.2.1 q_.2.2.2.2.2.2.2.2.2.2.2.2.2.2) [(3, .int q_.1)] 141 []) → mg z k A 7 0 0 Q (w_X1_chooseWell k a_t a_p1 a_p1_bottoms a_t_site a_t_trial a_t_chosen a_t_chosen_bottoms a_t_site_ballast a_t_site_lubricated a_t_site_pose a_t_site_ground a_t_site_boulders a_t_site_records a_t_site_boulders_list a_t_site_boulders_list_values a_t_site_ground_layers a_t_site_ground_layers_values a_t_trial_bottoms v_p1_depth v_p1_tiltX v_p1_tiltY v_p1_bottoms v_t_excess v_t_momentX v_t_momentY v_t_nextTiltX v_t_nextTiltY v_t_chosen_depth v_t_chosen_tiltX v_t_chosen_tiltY v_t_chosen_bottoms v_t_site_columns v_t_site_rows v_t_site_weight v_t_site_stiffness v_t_site_water v_t_site_ballast v_t_site_boulders_list_count v_t_site_boulders_list_values v_t_site_ground_layers_count v_t_site_ground_layers_values v_t_site_lubricated v_t_trial_depth v_t_trial_tiltX v_t_trial_tiltY v_t_trial_bottoms) [(0, .ref a_t), (1, .ref a_p1), (2, .int x2), (3, .int x3), (4, .int x4), (5, .int x5)] 23 [] := by
    intro x2 x4 n_
    induction n_ with
    | zero => intro x3 x5 v_t_excess v_t_momentX v_t_momentY v_t_nextTiltX v_t_nextTiltY v_t_chosen_depth v_t_chosen_tiltX v_t_chosen_tiltY v_t_chosen_bottoms v_t_trial_depth v_t_trial_tiltX v_t_trial_tiltY v_t_trial_bottoms q_ hf; exact mg_no (show none = some q_ from hf)
    | succ n_ ih =>
      intro x3 x5 v_t_excess v_t_momentX v_t_momentY v_t_nextTiltX v_t_nextTiltY v_t_chosen_depth v_t_chosen_tiltX v_t_chosen_tiltY v_t_chosen_bottoms v_t_trial_depth v_t_trial_tiltX v_t_trial_tiltY v_t_trial_bottoms q_ hf X0
      rw [f_X1_chooseWell_L23] at hf
      refine mg_iload (pc := 23) C 5 dX1_chooseWell_23 rfl ?_
      refine mg_iload (pc := 25) C 4 dX1_chooseWell_25 rfl ?_
      refine mg_icmp_ge (pc := 27) (tgt := 141) C dX1_chooseWell_27 (by decide) hf (fun hf => ?_) (fun hf => ?_)
      · obtain rfl := Option.some.inj hf
        refine mg_lv [3] rfl ?_
        exact X0
      · refine mg_aload_n (pc := 30) C 0 dX1_chooseWell_30 rfl rfl ?_
        refine mg_get (pc := 31) C 2 rfl rfl inX1 0 (by decide) wm_200 rfl rfl dX1_chooseWell_31 ?_
        refine mg_iload (pc := 34) C 5 dX1_chooseWell_34 rfl ?_
        obtain ⟨q1, h2, hf⟩ := mg_b hf
        refine mg_callV (pc := 36) C (w2 := w_X1_chooseWell k a_t a_p1 a_p1_bottoms a_t_site a_t_trial a_t_chosen a_t_chosen_bottoms a_t_site_ballast a_t_site_lubricated a_t_site_pose a_t_site_ground a_t_site_boulders a_t_site_records a_t_site_boulders_list a_t_site_boulders_list_values a_t_site_ground_layers a_t_site_ground_layers_values a_t_trial_bottoms v_p1_depth v_p1_tiltX v_p1_tiltY v_p1_bottoms v_t_excess v_t_momentX v_t_momentY v_t_nextTiltX v_t_nextTiltY v_t_chosen_depth v_t_chosen_tiltX v_t_chosen_tiltY v_t_chosen_bottoms v_t_site_columns v_t_site_rows v_t_site_weight v_t_site_stiffness v_t_site_water v_t_site_ballast v_t_site_boulders_list_count v_t_site_boulders_list_values v_t_site_ground_layers_count v_t_site_ground_layers_values v_t_site_lubricated v_t_trial_depth v_t_trial_tiltX v_t_trial_tiltY v_t_trial_bottoms) (c_X5_isWell z.2.1 k a_t_site a_t_site_ballast a_t_site_lubricated a_t_site_pose a_t_site_ground a_t_site_boulders a_t_site_records v_t_site_columns v_t_site_rows v_t_site_weight v_t_site_stiffness v_t_site_water x5 q1 h2) Y_X5_isWell wm_799 (by decide) rfl 5 rfl rfl rfl [5] rfl (by decide) rfl [none, none, none, none, none, some 0, none, none, none, none, none, none, none, none, none, none] (by decide) rfl (Nat.le_of_ble_eq_true rfl) rfl dX1_chooseWell_36 ?_
        refine mg_if_ne (pc := 39) (tgt := 45) C dX1_chooseWell_39 (by decide) hf (fun hf => ?_) (fun hf => ?_)
        · refine mg_aload_n (pc := 45) C 0 dX1_chooseWell_45 rfl rfl ?_
          refine mg_get (pc := 46) C 2 rfl rfl inX1 0 (by decide) wm_200 rfl rfl dX1_chooseWell_46 ?_
          refine mg_aload_n (pc := 49) C 1 dX1_chooseWell_49 rfl rfl ?_
          refine mg_iload (pc := 50) C 5 dX1_chooseWell_50 rfl ?_
          refine mg_iload_n (pc := 52) C 2 dX1_chooseWell_52 rfl rfl ?_
          obtain ⟨q3, h4, hf⟩ := mg_b hf
          refine mg_callV (pc := 53) C (w2 := w_X1_chooseWell k a_t a_p1 a_p1_bottoms a_t_site a_t_trial a_t_chosen a_t_chosen_bottoms a_t_site_ballast a_t_site_lubricated a_t_site_pose a_t_site_ground a_t_site_boulders a_t_site_records a_t_site_boulders_list a_t_site_boulders_list_values a_t_site_ground_layers a_t_site_ground_layers_values a_t_trial_bottoms v_p1_depth v_p1_tiltX v_p1_tiltY v_p1_bottoms v_t_excess v_t_momentX v_t_momentY v_t_nextTiltX v_t_nextTiltY v_t_chosen_depth v_t_chosen_tiltX v_t_chosen_tiltY v_t_chosen_bottoms v_t_site_columns v_t_site_rows v_t_site_weight v_t_site_stiffness v_t_site_water v_t_site_ballast v_t_site_boulders_list_count v_t_site_boulders_list_values v_t_site_ground_layers_count v_t_site_ground_layers_values v_t_site_lubricated v_t_trial_depth v_t_trial_tiltX v_t_trial_tiltY v_t_trial_bottoms) (c_X5_bottomAfterDigging z.2.1 k a_t_site a_p1 a_p1_bottoms a_t_site_ballast a_t_site_lubricated a_t_site_pose a_t_site_ground a_t_site_boulders a_t_site_records a_t_site_boulders_list a_t_site_boulders_list_values v_p1_depth v_p1_tiltX v_p1_tiltY v_p1_bottoms v_t_site_columns v_t_site_rows v_t_site_weight v_t_site_stiffness v_t_site_water v_t_site_boulders_list_count v_t_site_boulders_list_values fuel x5 x2 q3 h4) Y_X5_bottomAfterDigging wm_800 (by decide) rfl 5 rfl rfl rfl [0, 1, 5, 7, 8, 9] rfl (by decide) rfl [some 0, some 1, none, none, none, some 2, none, some 3, some 4, some 5, none, none, none, none, none, none] (by decide) rfl (Nat.le_of_ble_eq_true rfl) rfl dX1_chooseWell_53 ?_
          refine mg_istore (pc := 56) C (lv' := [(6, .int q3), (0, .ref a_t), (1, .ref a_p1), (2, .int x2), (3, .int x3), (4, .int x4), (5, .int x5)]) dX1_chooseWell_56 (by decide) rfl ?_
          refine mg_iload (pc := 58) C 0 dX1_chooseWell_58 rfl ?_
          refine mg_aload_n (pc := 60) C 2 dX1_chooseWell_60 rfl rfl ?_
          refine mg_get (pc := 61) C 0 rfl rfl inX4 3 (by decide) wm_54 rfl rfl dX1_chooseWell_61 ?_
          refine mg_iload (pc := 64) C 6 dX1_chooseWell_64 rfl ?_
          refine mg_iald (pc := 66) C 1 rfl dX1_chooseWell_66 hf (fun hf => ?_)
          refine mg_icmp_gt (pc := 67) (tgt := 73) C dX1_chooseWell_67 (by decide) hf (fun hf => ?_) (fun hf => ?_)
          · refine mg_aload_n (pc := 73) C 1 dX1_chooseWell_73 rfl rfl ?_
            refine mg_get (pc := 74) C 2 rfl rfl inX1 1 (by decide) wm_202 rfl rfl dX1_chooseWell_74 ?_
            refine mg_aload_n (pc := 77) C 2 dX1_chooseWell_77 rfl rfl ?_
            obtain ⟨q5, h6, hf⟩ := mg_b hf
            refine mg_callV (pc := 78) C (w2 := w_X1_chooseWell k a_t a_p1 a_p1_bottoms a_t_site a_t_trial a_t_chosen a_t_chosen_bottoms a_t_site_ballast a_t_site_lubricated a_t_site_pose a_t_site_ground a_t_site_boulders a_t_site_records a_t_site_boulders_list a_t_site_boulders_list_values a_t_site_ground_layers a_t_site_ground_layers_values a_t_trial_bottoms v_p1_depth v_p1_tiltX v_p1_tiltY v_p1_bottoms v_t_excess v_t_momentX v_t_momentY v_t_nextTiltX v_t_nextTiltY v_t_chosen_depth v_t_chosen_tiltX v_t_chosen_tiltY v_t_chosen_bottoms v_t_site_columns v_t_site_rows v_t_site_weight v_t_site_stiffness v_t_site_water v_t_site_ballast v_t_site_boulders_list_count v_t_site_boulders_list_values v_t_site_ground_layers_count v_t_site_ground_layers_values v_t_site_lubricated q5.1 q5.2.1 q5.2.2.1 q5.2.2.2) (c_X4_copyFrom z.2.1 k a_t_trial a_p1 a_p1_bottoms a_t_trial_bottoms v_p1_depth v_p1_tiltX v_p1_tiltY v_p1_bottoms v_t_trial_depth v_t_trial_tiltX v_t_trial_tiltY v_t_trial_bottoms q5 h6) Y_X4_copyFrom wm_801 (by decide) rfl 14 rfl rfl rfl [0, 1, 14, 15] rfl (by decide) rfl [some 0, some 1, none, none, none, none, none, none, none, none, none, none, none, none, some 2, some 3] (by decide) rfl (Nat.le_of_ble_eq_true rfl) rfl dX1_chooseWell_78 ?_
            refine mg_aload_n (pc := 81) C 1 dX1_chooseWell_81 rfl rfl ?_
            refine mg_get (pc := 82) C 2 rfl rfl inX1 1 (by decide) wm_202 rfl rfl dX1_chooseWell_82 ?_
            refine mg_get (pc := 85) C 14 rfl rfl inX4 3 (by decide) wm_54 rfl rfl dX1_chooseWell_85 ?_
            refine mg_iload (pc := 88) C 6 dX1_chooseWell_88 rfl ?_
            refine mg_iload (pc := 90) C 0 dX1_chooseWell_90 rfl ?_
            refine mg_iast (pc := 92) C (w2 := w_X1_chooseWell k a_t a_p1 a_p1_bottoms a_t_site a_t_trial a_t_chosen a_t_chosen_bottoms a_t_site_ballast a_t_site_lubricated a_t_site_pose a_t_site_ground a_t_site_boulders a_t_site_records a_t_site_boulders_list a_t_site_boulders_list_values a_t_site_ground_layers a_t_site_ground_layers_values a_t_trial_bottoms v_p1_depth v_p1_tiltX v_p1_tiltY v_p1_bottoms v_t_excess v_t_momentX v_t_momentY v_t_nextTiltX v_t_nextTiltY v_t_chosen_depth v_t_chosen_tiltX v_t_chosen_tiltY v_t_chosen_bottoms v_t_site_columns v_t_site_rows v_t_site_weight v_t_site_stiffness v_t_site_water v_t_site_ballast v_t_site_boulders_list_count v_t_site_boulders_list_values v_t_site_ground_layers_count v_t_site_ground_layers_values v_t_site_lubricated q5.1 q5.2.1 q5.2.2.1 (upd q5.2.2.2 (Int32.toNatClampNeg x5) q3)) 15 rfl dX1_chooseWell_92 hf rfl (fun hf => ?_)
            refine mg_aload_n (pc := 93) C 1 dX1_chooseWell_93 rfl rfl ?_
            refine mg_aload_n (pc := 94) C 1 dX1_chooseWell_94 rfl rfl ?_
            refine mg_get (pc := 95) C 2 rfl rfl inX1 1 (by decide) wm_202 rfl rfl dX1_chooseWell_95 ?_
            refine mg_bipush (pc := 98) C dX1_chooseWell_98 (v := 20) (by decide) ?_
            obtain ⟨q7, h8, hf⟩ := mg_b hf
            refine mg_callV (pc := 100) C (w2 := w_X1_chooseWell k a_t a_p1 a_p1_bottoms a_t_site a_t_trial a_t_chosen a_t_chosen_bottoms a_t_site_ballast a_t_site_lubricated a_t_site_pose a_t_site_ground a_t_site_boulders a_t_site_records a_t_site_boulders_list a_t_site_boulders_list_values a_t_site_ground_layers a_t_site_ground_layers_values a_t_trial_bottoms v_p1_depth v_p1_tiltX v_p1_tiltY v_p1_bottoms q7.2.2.2.2.2.1 q7.2.2.2.2.2.2.1 q7.2.2.2.2.2.2.2.1 q7.2.2.2.2.2.2.2.2.1 q7.2.2.2.2.2.2.2.2.2 v_t_chosen_depth v_t_chosen_tiltX v_t_chosen_tiltY v_t_chosen_bottoms v_t_site_columns v_t_site_rows v_t_site_weight v_t_site_stiffness v_t_site_water v_t_site_ballast v_t_site_boulders_list_count v_t_site_boulders_list_values v_t_site_ground_layers_count v_t_site_ground_layers_values v_t_site_lubricated q7.2.1 q7.2.2.1 q7.2.2.2.1 q7.2.2.2.2.1) (c_X1_sink z.2.1 k a_t a_t_trial a_t_trial_bottoms a_t_site a_t_trial a_t_chosen a_t_site_ballast a_t_site_lubricated a_t_site_pose a_t_site_ground a_t_site_boulders a_t_site_records a_t_site_boulders_list a_t_site_boulders_list_values a_t_site_ground_layers a_t_site_ground_layers_values q5.1 q5.2.1 q5.2.2.1 (upd q5.2.2.2 (Int32.toNatClampNeg x5) q3) v_t_excess v_t_momentX v_t_momentY v_t_nextTiltX v_t_nextTiltY v_t_site_columns v_t_site_rows v_t_site_weight v_t_site_stiffness v_t_site_water v_t_site_ballast v_t_site_boulders_list_count v_t_site_boulders_list_values v_t_site_ground_layers_count v_t_site_ground_layers_values v_t_site_lubricated fuel 20 q7 h8) Y_X1_sink wm_802 (by decide) rfl 2 rfl rfl rfl [14, 15, 2, 5, 6, 7, 8, 9, 10, 11, 12, 13] rfl (by decide) rfl [none, none, some 2, none, none, some 3, some 4, some 5, some 6, some 7, some 8, some 9, some 10, some 11, some 0, some 1] (by decide) rfl (Nat.le_of_ble_eq_true rfl) rfl dX1_chooseWell_100 ?_
            refine mg_pop (pc := 103) C dX1_chooseWell_103 rfl ?_
            refine mg_iload_n (pc := 104) C 4 dX1_chooseWell_104 rfl rfl ?_
            refine mg_ldc (pc := 105) C wm_798 dX1_chooseWell_105 ?_
            refine mg_icmp_eq (pc := 107) (tgt := 121) C dX1_chooseWell_107 (by decide) hf (fun hf => ?_) (fun hf => ?_)
            · refine mg_iload (pc := 121) C 6 dX1_chooseWell_121 rfl ?_
              refine mg_istore_n (pc := 123) C (lv' := [(3, .int x5), (6, .int q3), (0, .ref a_t), (1, .ref a_p1), (2, .int x2), (4, .int x4), (5, .int x5)]) dX1_chooseWell_123 rfl (by decide) rfl ?_
              refine mg_aload_n (pc := 124) C 2 dX1_chooseWell_124 rfl rfl ?_
              refine mg_get (pc := 125) C 2 rfl rfl inX1 2 (by decide) wm_203 rfl rfl dX1_chooseWell_125 ?_
              refine mg_aload_n (pc := 128) C 2 dX1_chooseWell_128 rfl rfl ?_
              refine mg_get (pc := 129) C 2 rfl rfl inX1 1 (by decide) wm_202 rfl rfl dX1_chooseWell_129 ?_
              obtain ⟨q9, h10, hf⟩ := mg_b hf
              refine mg_callV (pc := 132) C (w2 := w_X1_chooseWell k a_t a_p1 a_p1_bottoms a_t_site a_t_trial a_t_chosen a_t_chosen_bottoms a_t_site_ballast a_t_site_lubricated a_t_site_pose a_t_site_ground a_t_site_boulders a_t_site_records a_t_site_boulders_list a_t_site_boulders_list_values a_t_site_ground_layers a_t_site_ground_layers_values a_t_trial_bottoms v_p1_depth v_p1_tiltX v_p1_tiltY v_p1_bottoms q7.2.2.2.2.2.1 q7.2.2.2.2.2.2.1 q7.2.2.2.2.2.2.2.1 q7.2.2.2.2.2.2.2.2.1 q7.2.2.2.2.2.2.2.2.2 q9.1 q9.2.1 q9.2.2.1 q9.2.2.2 v_t_site_columns v_t_site_rows v_t_site_weight v_t_site_stiffness v_t_site_water v_t_site_ballast v_t_site_boulders_list_count v_t_site_boulders_list_values v_t_site_ground_layers_count v_t_site_ground_layers_values v_t_site_lubricated q7.2.1 q7.2.2.1 q7.2.2.2.1 q7.2.2.2.2.1) (c_X4_copyFrom z.2.1 k a_t_chosen a_t_trial a_t_trial_bottoms a_t_chosen_bottoms q7.2.1 q7.2.2.1 q7.2.2.2.1 q7.2.2.2.2.1 v_t_chosen_depth v_t_chosen_tiltX v_t_chosen_tiltY v_t_chosen_bottoms q9 h10) Y_X4_copyFrom wm_801 (by decide) rfl 3 rfl rfl rfl [14, 15, 3, 4] rfl (by decide) rfl [none, none, none, some 2, some 3, none, none, none, none, none, none, none, none, none, some 0, some 1] (by decide) rfl (Nat.le_of_ble_eq_true rfl) rfl dX1_chooseWell_132 ?_
              refine mg_iinc (pc := 135) C (c := 1) (lv' := [(5, .int (x5 + 1)), (3, .int x5), (6, .int q3), (0, .ref a_t), (1, .ref a_p1), (2, .int x2), (4, .int x4)]) 6 dX1_chooseWell_135 rfl (by decide) (by decide) rfl ?_
              refine mg_goto (pc := 138) (tgt := 23) C dX1_chooseWell_138 (by decide) ?_
              refine mg_lv [3, 4, 5, 1, 6, 0] rfl ?_
              exact ih x5 (x5 + 1) q7.2.2.2.2.2.1 q7.2.2.2.2.2.2.1 q7.2.2.2.2.2.2.2.1 q7.2.2.2.2.2.2.2.2.1 q7.2.2.2.2.2.2.2.2.2 q9.1 q9.2.1 q9.2.2.1 q9.2.2.2 q7.2.1 q7.2.2.1 q7.2.2.2.1 q7.2.2.2.2.1 _ hf X0
            · refine mg_aload_n (pc := 110) C 1 dX1_chooseWell_110 rfl rfl ?_
              refine mg_aload_n (pc := 111) C 1 dX1_chooseWell_111 rfl rfl ?_
              refine mg_get (pc := 112) C 2 rfl rfl inX1 1 (by decide) wm_202 rfl rfl dX1_chooseWell_112 ?_
              obtain ⟨q11, h12, hf⟩ := mg_b hf
              refine mg_callV (pc := 115) C (w2 := w_X1_chooseWell k a_t a_p1 a_p1_bottoms a_t_site a_t_trial a_t_chosen a_t_chosen_bottoms a_t_site_ballast a_t_site_lubricated a_t_site_pose a_t_site_ground a_t_site_boulders a_t_site_records a_t_site_boulders_list a_t_site_boulders_list_values a_t_site_ground_layers a_t_site_ground_layers_values a_t_trial_bottoms v_p1_depth v_p1_tiltX v_p1_tiltY v_p1_bottoms q7.2.2.2.2.2.1 q7.2.2.2.2.2.2.1 q7.2.2.2.2.2.2.2.1 q7.2.2.2.2.2.2.2.2.1 q7.2.2.2.2.2.2.2.2.2 v_t_chosen_depth v_t_chosen_tiltX v_t_chosen_tiltY v_t_chosen_bottoms v_t_site_columns v_t_site_rows v_t_site_weight v_t_site_stiffness v_t_site_water v_t_site_ballast v_t_site_boulders_list_count v_t_site_boulders_list_values v_t_site_ground_layers_count v_t_site_ground_layers_values v_t_site_lubricated q7.2.1 q7.2.2.1 q7.2.2.2.1 q7.2.2.2.2.1) (c_X1_isBetterThanChosen z.2.1 k a_t a_t_trial a_t_trial_bottoms a_t_site a_t_trial a_t_chosen a_t_chosen_bottoms q7.2.1 q7.2.2.1 q7.2.2.2.1 q7.2.2.2.2.2.1 q7.2.2.2.2.2.2.1 q7.2.2.2.2.2.2.2.1 q7.2.2.2.2.2.2.2.2.1 q7.2.2.2.2.2.2.2.2.2 v_t_chosen_depth v_t_chosen_tiltX v_t_chosen_tiltY q11 h12) Y_X1_isBetterThanChosen wm_803 (by decide) rfl 2 rfl rfl rfl [14, 2, 3] rfl (by decide) rfl [none, none, some 1, some 2, none, none, none, none, none, none, none, none, none, none, some 0, none] (by decide) rfl (Nat.le_of_ble_eq_true rfl) rfl dX1_chooseWell_115 ?_
              refine mg_if_eq (pc := 118) (tgt := 135) C dX1_chooseWell_118 (by decide) hf (fun hf => ?_) (fun hf => ?_)
              · refine mg_iinc (pc := 135) C (c := 1) (lv' := [(5, .int (x5 + 1)), (6, .int q3), (0, .ref a_t), (1, .ref a_p1), (2, .int x2), (3, .int x3), (4, .int x4)]) 6 dX1_chooseWell_135 rfl (by decide) (by decide) rfl ?_
                refine mg_goto (pc := 138) (tgt := 23) C dX1_chooseWell_138 (by decide) ?_
                refine mg_lv [2, 3, 4, 5, 6, 0] rfl ?_
                exact ih x3 (x5 + 1) q7.2.2.2.2.2.1 q7.2.2.2.2.2.2.1 q7.2.2.2.2.2.2.2.1 q7.2.2.2.2.2.2.2.2.1 q7.2.2.2.2.2.2.2.2.2 v_t_chosen_depth v_t_chosen_tiltX v_t_chosen_tiltY v_t_chosen_bottoms q7.2.1 q7.2.2.1 q7.2.2.2.1 q7.2.2.2.2.1 _ hf X0
              · refine mg_iload (pc := 121) C 6 dX1_chooseWell_121 rfl ?_
                refine mg_istore_n (pc := 123) C (lv' := [(3, .int x5), (6, .int q3), (0, .ref a_t), (1, .ref a_p1), (2, .int x2), (4, .int x4), (5, .int x5)]) dX1_chooseWell_123 rfl (by decide) rfl ?_
                refine mg_aload_n (pc := 124) C 2 dX1_chooseWell_124 rfl rfl ?_
                refine mg_get (pc := 125) C 2 rfl rfl inX1 2 (by decide) wm_203 rfl rfl dX1_chooseWell_125 ?_
                refine mg_aload_n (pc := 128) C 2 dX1_chooseWell_128 rfl rfl ?_
                refine mg_get (pc := 129) C 2 rfl rfl inX1 1 (by decide) wm_202 rfl rfl dX1_chooseWell_129 ?_
                obtain ⟨q13, h14, hf⟩ := mg_b hf
                refine mg_callV (pc := 132) C (w2 := w_X1_chooseWell k a_t a_p1 a_p1_bottoms a_t_site a_t_trial a_t_chosen a_t_chosen_bottoms a_t_site_ballast a_t_site_lubricated a_t_site_pose a_t_site_ground a_t_site_boulders a_t_site_records a_t_site_boulders_list a_t_site_boulders_list_values a_t_site_ground_layers a_t_site_ground_layers_values a_t_trial_bottoms v_p1_depth v_p1_tiltX v_p1_tiltY v_p1_bottoms q7.2.2.2.2.2.1 q7.2.2.2.2.2.2.1 q7.2.2.2.2.2.2.2.1 q7.2.2.2.2.2.2.2.2.1 q7.2.2.2.2.2.2.2.2.2 q13.1 q13.2.1 q13.2.2.1 q13.2.2.2 v_t_site_columns v_t_site_rows v_t_site_weight v_t_site_stiffness v_t_site_water v_t_site_ballast v_t_site_boulders_list_count v_t_site_boulders_list_values v_t_site_ground_layers_count v_t_site_ground_layers_values v_t_site_lubricated q7.2.1 q7.2.2.1 q7.2.2.2.1 q7.2.2.2.2.1) (c_X4_copyFrom z.2.1 k a_t_chosen a_t_trial a_t_trial_bottoms a_t_chosen_bottoms q7.2.1 q7.2.2.1 q7.2.2.2.1 q7.2.2.2.2.1 v_t_chosen_depth v_t_chosen_tiltX v_t_chosen_tiltY v_t_chosen_bottoms q13 h14) Y_X4_copyFrom wm_801 (by decide) rfl 3 rfl rfl rfl [14, 15, 3, 4] rfl (by decide) rfl [none, none, none, some 2, some 3, none, none, none, none, none, none, none, none, none, some 0, some 1] (by decide) rfl (Nat.le_of_ble_eq_true rfl) rfl dX1_chooseWell_132 ?_
                refine mg_iinc (pc := 135) C (c := 1) (lv' := [(5, .int (x5 + 1)), (3, .int x5), (6, .int q3), (0, .ref a_t), (1, .ref a_p1), (2, .int x2), (4, .int x4)]) 6 dX1_chooseWell_135 rfl (by decide) (by decide) rfl ?_
                refine mg_goto (pc := 138) (tgt := 23) C dX1_chooseWell_138 (by decide) ?_
                refine mg_lv [3, 4, 5, 1, 6, 0] rfl ?_
                exact ih x5 (x5 + 1) q7.2.2.2.2.2.1 q7.2.2.2.2.2.2.1 q7.2.2.2.2.2.2.2.1 q7.2.2.2.2.2.2.2.2.1 q7.2.2.2.2.2.2.2.2.2 q13.1 q13.2.1 q13.2.2.1 q13.2.2.2 q7.2.1 q7.2.2.1 q7.2.2.2.1 q7.2.2.2.2.1 _ hf X0
          · refine mg_goto (pc := 70) (tgt := 135) C dX1_chooseWell_70 (by decide) ?_
            refine mg_iinc (pc := 135) C (c := 1) (lv' := [(5, .int (x5 + 1)), (6, .int q3), (0, .ref a_t), (1, .ref a_p1), (2, .int x2), (3, .int x3), (4, .int x4)]) 6 dX1_chooseWell_135 rfl (by decide) (by decide) rfl ?_
            refine mg_goto (pc := 138) (tgt := 23) C dX1_chooseWell_138 (by decide) ?_
            refine mg_lv [2, 3, 4, 5, 6, 0] rfl ?_
            exact ih x3 (x5 + 1) v_t_excess v_t_momentX v_t_momentY v_t_nextTiltX v_t_nextTiltY v_t_chosen_depth v_t_chosen_tiltX v_t_chosen_tiltY v_t_chosen_bottoms v_t_trial_depth v_t_trial_tiltX v_t_trial_tiltY v_t_trial_bottoms _ hf X0
        · refine mg_goto (pc := 42) (tgt := 135) C dX1_chooseWell_42 (by decide) ?_
          refine mg_iinc (pc := 135) C (c := 1) (lv' := [(5, .int (x5 + 1)), (0, .ref a_t), (1, .ref a_p1), (2, .int x2), (3, .int x3), (4, .int x4)]) 5 dX1_chooseWell_135 rfl (by decide) (by decide) rfl ?_
          refine mg_goto (pc := 138) (tgt := 23) C dX1_chooseWell_138 (by decide) ?_
          refine mg_lv [1, 2, 3, 4, 5, 0] rfl ?_
          exact ih x3 (x5 + 1) v_t_excess v_t_momentX v_t_momentY v_t_nextTiltX v_t_nextTiltY v_t_chosen_depth v_t_chosen_tiltX v_t_chosen_tiltY v_t_chosen_bottoms v_t_trial_depth v_t_trial_tiltX v_t_trial_tiltY v_t_trial_bottoms _ hf X0
  refine mg_ldc (pc := 0) C wm_798 dX1_chooseWell_0 ?_
  refine mg_istore_n (pc := 2) C (lv' := [(3, .int (-1000009)), (0, .ref a_t), (1, .ref a_p1), (2, .int x2)]) dX1_chooseWell_2 rfl (by decide) rfl ?_
  refine mg_aload_n (pc := 3) C 1 dX1_chooseWell_3 rfl rfl ?_
  refine mg_get (pc := 4) C 2 rfl rfl inX1 0 (by decide) wm_200 rfl rfl dX1_chooseWell_4 ?_
  refine mg_get (pc := 7) C 5 rfl rfl inX5 0 (by decide) wm_137 rfl rfl dX1_chooseWell_7 ?_
  refine mg_aload_n (pc := 10) C 1 dX1_chooseWell_10 rfl rfl ?_
  refine mg_get (pc := 11) C 2 rfl rfl inX1 0 (by decide) wm_200 rfl rfl dX1_chooseWell_11 ?_
  refine mg_get (pc := 14) C 5 rfl rfl inX5 1 (by decide) wm_141 rfl rfl dX1_chooseWell_14 ?_
  refine mg_imul (pc := 17) C dX1_chooseWell_17 ?_
  refine mg_istore (pc := 18) C (lv' := [(4, .int (v_t_site_columns * v_t_site_rows)), (3, .int (-1000009)), (0, .ref a_t), (1, .ref a_p1), (2, .int x2)]) dX1_chooseWell_18 (by decide) rfl ?_
  refine mg_iconst (pc := 20) C dX1_chooseWell_20 (v := 0) (by decide) ?_
  refine mg_istore (pc := 21) C (lv' := [(5, .int 0), (4, .int (v_t_site_columns * v_t_site_rows)), (3, .int (-1000009)), (0, .ref a_t), (1, .ref a_p1), (2, .int x2)]) dX1_chooseWell_21 (by decide) rfl ?_
  obtain ⟨q15, h16, hf⟩ := mg_b hf
  refine mg_lv [3, 4, 5, 2, 1, 0] rfl ?_
  refine L23 x2 (v_t_site_columns * v_t_site_rows) fuel (-1000009) 0 v_t_excess v_t_momentX v_t_momentY v_t_nextTiltX v_t_nextTiltY v_t_chosen_depth v_t_chosen_tiltX v_t_chosen_tiltY v_t_chosen_bottoms v_t_trial_depth v_t_trial_tiltX v_t_trial_tiltY v_t_trial_bottoms q15 h16 ?_
  refine mg_iload_n (pc := 141) C 0 dX1_chooseWell_141 rfl rfl ?_
  obtain rfl := Option.some.inj hf
  exact E _ _ dX1_chooseWell_142
abbrev w_X1_resistanceOfSide (k : mg_K) (a_t a_t_site a_t_trial a_t_chosen a_t_site_ballast a_t_site_lubricated a_t_site_pose a_t_site_ground a_t_site_boulders a_t_site_records a_t_site_boulders_list a_t_site_boulders_list_values a_t_site_ground_layers a_t_site_ground_layers_values a_t_site_pose_bottoms : Nat) (v_t_excess : Int32) (v_t_momentX : Int32) (v_t_momentY : Int32) (v_t_nextTiltX : Int32) (v_t_nextTiltY : Int32) (v_t_site_columns : Int32) (v_t_site_rows : Int32) (v_t_site_weight : Int32) (v_t_site_stiffness : Int32) (v_t_site_water : Int32) (v_t_site_boulders_list_count : Int32) (v_t_site_boulders_list_values : Nat → Int32) (v_t_site_ground_layers_count : Int32) (v_t_site_ground_layers_values : Nat → Int32) (v_t_site_lubricated : Nat → Int32) (v_t_site_pose_depth : Int32) (v_t_site_pose_tiltX : Int32) (v_t_site_pose_tiltY : Int32) (v_t_site_pose_bottoms : Nat → Int32) : va_W := [(a_t, .inr (1, [.ref a_t_site, .ref a_t_trial, .ref a_t_chosen, .int v_t_excess, .int v_t_momentX, .int v_t_momentY, .int v_t_nextTiltX, .int v_t_nextTiltY])), (a_t_site, .inr (5, [.int v_t_site_columns, .int v_t_site_rows, .int v_t_site_weight, .int v_t_site_stiffness, .int v_t_site_water, .ref a_t_site_ballast, .ref a_t_site_lubricated, .ref a_t_site_pose, .ref a_t_site_ground, .ref a_t_site_boulders, .ref a_t_site_records])), (a_t_site_boulders, .inr (0, [.ref a_t_site_boulders_list])), (a_t_site_boulders_list, .inr (7, [.int 10, .ref a_t_site_boulders_list_values, .int v_t_site_boulders_list_count])), (a_t_site_boulders_list_values, .inl (k.2.1, 30, .inl v_t_site_boulders_list_values)), (a_t_site_ground, .inr (2, [.ref a_t_site_ground_layers])), (a_t_site_ground_layers, .inr (7, [.int 8, .ref a_t_site_ground_layers_values, .int v_t_site_ground_layers_count])), (a_t_site_ground_layers_values, .inl (k.2.1, 24, .inl v_t_site_ground_layers_values)), (a_t_site_lubricated, .inl (k.2.1, 4, .inl v_t_site_lubricated)), (a_t_site_pose, .inr (4, [.int v_t_site_pose_depth, .int v_t_site_pose_tiltX, .int v_t_site_pose_tiltY, .ref a_t_site_pose_bottoms])), (a_t_site_pose_bottoms, .inl (k.2.1, 49, .inl v_t_site_pose_bottoms))]
def f_X1_resistanceOfSide_L18 (fuel : Nat) (v_t_site_columns : Int32) (v_t_site_rows : Int32) (v_t_site_water : Int32) (v_t_site_boulders_list_count : Int32) (v_t_site_boulders_list_values : Nat → Int32) (v_t_site_ground_layers_count : Int32) (v_t_site_ground_layers_values : Nat → Int32) (v_t_site_lubricated : Nat → Int32) (v_t_site_pose_depth : Int32) (v_t_site_pose_tiltX : Int32) (v_t_site_pose_tiltY : Int32) (v_t_site_pose_bottoms : Nat → Int32) (x1 : Int32) (x3 : Int32) : Nat → Int32 → Int32 → Option (Int32 × Int32)
  | 0, _, _ => none
  | n_ + 1, x2, x4 => if v_t_site_columns ≤ x4 then (some ((x2, x4))) else ((f_X5_isOnSide v_t_site_columns v_t_site_rows x1 x4 x3).bind (fun q1 => if q1 = 0 then (f_X1_resistanceOfSide_L18 fuel v_t_site_columns v_t_site_rows v_t_site_water v_t_site_boulders_list_count v_t_site_boulders_list_values v_t_site_ground_layers_count v_t_site_ground_layers_values v_t_site_lubricated v_t_site_pose_depth v_t_site_pose_tiltX v_t_site_pose_tiltY v_t_site_pose_bottoms x1 x3 n_ x2 (x4 + 1)) else ((f_X1_resistance fuel v_t_site_pose_depth v_t_site_pose_tiltX v_t_site_pose_tiltY v_t_site_pose_bottoms v_t_site_columns v_t_site_rows v_t_site_water v_t_site_boulders_list_count v_t_site_boulders_list_values v_t_site_ground_layers_count v_t_site_ground_layers_values v_t_site_lubricated x4 x3).bind (fun q3 => f_X1_resistanceOfSide_L18 fuel v_t_site_columns v_t_site_rows v_t_site_water v_t_site_boulders_list_count v_t_site_boulders_list_values v_t_site_ground_layers_count v_t_site_ground_layers_values v_t_site_lubricated v_t_site_pose_depth v_t_site_pose_tiltX v_t_site_pose_tiltY v_t_site_pose_bottoms x1 x3 n_ (x2 + q3) (x4 + 1)))))
def f_X1_resistanceOfSide_L4 (fuel : Nat) (v_t_site_columns : Int32) (v_t_site_rows : Int32) (v_t_site_water : Int32) (v_t_site_boulders_list_count : Int32) (v_t_site_boulders_list_values : Nat → Int32) (v_t_site_ground_layers_count : Int32) (v_t_site_ground_layers_values : Nat → Int32) (v_t_site_lubricated : Nat → Int32) (v_t_site_pose_depth : Int32) (v_t_site_pose_tiltX : Int32) (v_t_site_pose_tiltY : Int32) (v_t_site_pose_bottoms : Nat → Int32) (x1 : Int32) : Nat → Int32 → Int32 → Option (Int32 × Int32)
  | 0, _, _ => none
  | n_ + 1, x2, x3 => if v_t_site_rows ≤ x3 then (some ((x2, x3))) else ((f_X1_resistanceOfSide_L18 fuel v_t_site_columns v_t_site_rows v_t_site_water v_t_site_boulders_list_count v_t_site_boulders_list_values v_t_site_ground_layers_count v_t_site_ground_layers_values v_t_site_lubricated v_t_site_pose_depth v_t_site_pose_tiltX v_t_site_pose_tiltY v_t_site_pose_bottoms x1 x3 fuel x2 0).bind (fun q5 => f_X1_resistanceOfSide_L4 fuel v_t_site_columns v_t_site_rows v_t_site_water v_t_site_boulders_list_count v_t_site_boulders_list_values v_t_site_ground_layers_count v_t_site_ground_layers_values v_t_site_lubricated v_t_site_pose_depth v_t_site_pose_tiltX v_t_site_pose_tiltY v_t_site_pose_bottoms x1 n_ q5.1 (x3 + 1)))
def f_X1_resistanceOfSide (fuel : Nat) (v_t_site_columns : Int32) (v_t_site_rows : Int32) (v_t_site_water : Int32) (v_t_site_boulders_list_count : Int32) (v_t_site_boulders_list_values : Nat → Int32) (v_t_site_ground_layers_count : Int32) (v_t_site_ground_layers_values : Nat → Int32) (v_t_site_lubricated : Nat → Int32) (v_t_site_pose_depth : Int32) (v_t_site_pose_tiltX : Int32) (v_t_site_pose_tiltY : Int32) (v_t_site_pose_bottoms : Nat → Int32) (x1 : Int32) : Option (Int32) := (f_X1_resistanceOfSide_L4 fuel v_t_site_columns v_t_site_rows v_t_site_water v_t_site_boulders_list_count v_t_site_boulders_list_values v_t_site_ground_layers_count v_t_site_ground_layers_values v_t_site_lubricated v_t_site_pose_depth v_t_site_pose_tiltX v_t_site_pose_tiltY v_t_site_pose_bottoms x1 fuel 0 0).bind (fun q7 => some q7.1)
theorem Y_X1_resistanceOfSide : mg_Y yX1_resistanceOfSide cX1_resistanceOfSide 5 (some .int) 1 := ⟨wm_676, wm_677, wm_2, wm_678, ⟨by decide +kernel, by decide +kernel, by decide +kernel⟩, by decide⟩
set_option maxRecDepth 100000 in
set_option maxHeartbeats 4000000 in
theorem c_X1_resistanceOfSide (l : Launch) (k : mg_K) (a_t a_t_site a_t_trial a_t_chosen a_t_site_ballast a_t_site_lubricated a_t_site_pose a_t_site_ground a_t_site_boulders a_t_site_records a_t_site_boulders_list a_t_site_boulders_list_values a_t_site_ground_layers a_t_site_ground_layers_values a_t_site_pose_bottoms : Nat) (v_t_excess : Int32) (v_t_momentX : Int32) (v_t_momentY : Int32) (v_t_nextTiltX : Int32) (v_t_nextTiltY : Int32) (v_t_site_columns : Int32) (v_t_site_rows : Int32) (v_t_site_weight : Int32) (v_t_site_stiffness : Int32) (v_t_site_water : Int32) (v_t_site_boulders_list_count : Int32) (v_t_site_boulders_list_values : Nat → Int32) (v_t_site_ground_layers_count : Int32) (v_t_site_ground_layers_values : Nat → Int32) (v_t_site_lubricated : Nat → Int32) (v_t_site_pose_depth : Int32) (v_t_site_pose_tiltX : Int32) (v_t_site_pose_tiltY : Int32) (v_t_site_pose_bottoms : Nat → Int32) (fuel : Nat) (x1 : Int32) (q : Int32) (hf : f_X1_resistanceOfSide fuel v_t_site_columns v_t_site_rows v_t_site_water v_t_site_boulders_list_count v_t_site_boulders_list_values v_t_site_ground_layers_count v_t_site_ground_layers_values v_t_site_lubricated v_t_site_pose_depth v_t_site_pose_tiltX v_t_site_pose_tiltY v_t_site_pose_bottoms x1 = some q) : mg_M l yX1_resistanceOfSide cX1_resistanceOfSide 5 (some .int) 4 k [.ref a_t, .int x1] (w_X1_resistanceOfSide k a_t a_t_site a_t_trial a_t_chosen a_t_site_ballast a_t_site_lubricated a_t_site_pose a_t_site_ground a_t_site_boulders a_t_site_records a_t_site_boulders_list a_t_site_boulders_list_values a_t_site_ground_layers a_t_site_ground_layers_values a_t_site_pose_bottoms v_t_excess v_t_momentX v_t_momentY v_t_nextTiltX v_t_nextTiltY v_t_site_columns v_t_site_rows v_t_site_weight v_t_site_stiffness v_t_site_water v_t_site_boulders_list_count v_t_site_boulders_list_values v_t_site_ground_layers_count v_t_site_ground_layers_values v_t_site_lubricated v_t_site_pose_depth v_t_site_pose_tiltX v_t_site_pose_tiltY v_t_site_pose_bottoms) (w_X1_resistanceOfSide k a_t a_t_site a_t_trial a_t_chosen a_t_site_ballast a_t_site_lubricated a_t_site_pose a_t_site_ground a_t_site_boulders a_t_site_records a_t_site_boulders_list a_t_site_boulders_list_values a_t_site_ground_layers a_t_site_ground_layers_values a_t_site_pose_bottoms v_t_excess v_t_momentX v_t_momentY v_t_nextTiltX v_t_nextTiltY v_t_site_columns v_t_site_rows v_t_site_weight v_t_site_stiffness v_t_site_water v_t_site_boulders_list_count v_t_site_boulders_list_values v_t_site_ground_layers_count v_t_site_ground_layers_values v_t_site_lubricated v_t_site_pose_depth v_t_site_pose_tiltX v_t_site_pose_tiltY v_t_site_pose_bottoms) (some (.int q)) := by
  refine mg_Mi RX1 [(0, .ref a_t), (1, .int x1)] (by decide +kernel) rfl rfl (Nat.le_of_ble_eq_true rfl) ?_
  intro z A Q hl C E
  subst hl
  unfold f_X1_resistanceOfSide at hf
  have L4 : ∀ (x1 : Int32) (n_ : Nat) (x2 : Int32) (x3 : Int32) (q_ : Int32 × Int32), f_X1_resistanceOfSide_L4 fuel v_t_site_columns v_t_site_rows v_t_site_water v_t_site_boulders_list_count v_t_site_boulders_list_values v_t_site_ground_layers_count v_t_site_ground_layers_values v_t_site_lubricated v_t_site_pose_depth v_t_site_pose_tiltX v_t_site_pose_tiltY v_t_site_pose_bottoms x1 n_ x2 x3 = some q_ → (mg z k A 5 0 0 Q (w_X1_resistanceOfSide k a_t a_t_site a_t_trial a_t_chosen a_t_site_ballast a_t_site_lubricated a_t_site_pose a_t_site_ground a_t_site_boulders a_t_site_records a_t_site_boulders_list a_t_site_boulders_list_values a_t_site_ground_layers a_t_site_ground_layers_values a_t_site_pose_bottoms v_t_excess v_t_momentX v_t_momentY v_t_nextTiltX v_t_nextTiltY v_t_site_columns v_t_site_rows v_t_site_weight v_t_site_stiffness v_t_site_water v_t_site_boulders_list_count v_t_site_boulders_list_values v_t_site_ground_layers_count v_t_site_ground_layers_values v_t_site_lubricated v_t_site_pose_depth v_t_site_pose_tiltX v_t_site_pose_tiltY v_t_site_pose_bottoms) [(2, .int q_.1)] 73 []) → mg z k A 5 0 0 Q (w_X1_resistanceOfSide k a_t a_t_site a_t_trial a_t_chosen a_t_site_ballast a_t_site_lubricated a_t_site_pose a_t_site_ground a_t_site_boulders a_t_site_records a_t_site_boulders_list a_t_site_boulders_list_values a_t_site_ground_layers a_t_site_ground_layers_values a_t_site_pose_bottoms v_t_excess v_t_momentX v_t_momentY v_t_nextTiltX v_t_nextTiltY v_t_site_columns v_t_site_rows v_t_site_weight v_t_site_stiffness v_t_site_water v_t_site_boulders_list_count v_t_site_boulders_list_values v_t_site_ground_layers_count v_t_site_ground_layers_values v_t_site_lubricated v_t_site_pose_depth v_t_site_pose_tiltX v_t_site_pose_tiltY v_t_site_pose_bottoms) [(0, .ref a_t), (1, .int x1), (2, .int x2), (3, .int x3)] 4 [] := by
    intro x1 n_
    induction n_ with
    | zero => intro x2 x3 q_ hf; exact mg_no (show none = some q_ from hf)
    | succ n_ ih =>
      intro x2 x3 q_ hf X0
      rw [f_X1_resistanceOfSide_L4] at hf
      have L18 : ∀ (x3 : Int32) (n_ : Nat) (x2 : Int32) (x4 : Int32) (q_ : Int32 × Int32), f_X1_resistanceOfSide_L18 fuel v_t_site_columns v_t_site_rows v_t_site_water v_t_site_boulders_list_count v_t_site_boulders_list_values v_t_site_ground_layers_count v_t_site_ground_layers_values v_t_site_lubricated v_t_site_pose_depth v_t_site_pose_tiltX v_t_site_pose_tiltY v_t_site_pose_bottoms x1 x3 n_ x2 x4 = some q_ → (mg z k A 5 0 0 Q (w_X1_resistanceOfSide k a_t a_t_site a_t_trial a_t_chosen a_t_site_ballast a_t_site_lubricated a_t_site_pose a_t_site_ground a_t_site_boulders a_t_site_records a_t_site_boulders_list a_t_site_boulders_list_values a_t_site_ground_layers a_t_site_ground_layers_values a_t_site_pose_bottoms v_t_excess v_t_momentX v_t_momentY v_t_nextTiltX v_t_nextTiltY v_t_site_columns v_t_site_rows v_t_site_weight v_t_site_stiffness v_t_site_water v_t_site_boulders_list_count v_t_site_boulders_list_values v_t_site_ground_layers_count v_t_site_ground_layers_values v_t_site_lubricated v_t_site_pose_depth v_t_site_pose_tiltX v_t_site_pose_tiltY v_t_site_pose_bottoms) [(0, .ref a_t), (1, .int x1), (2, .int q_.1), (3, .int x3)] 67 []) → mg z k A 5 0 0 Q (w_X1_resistanceOfSide k a_t a_t_site a_t_trial a_t_chosen a_t_site_ballast a_t_site_lubricated a_t_site_pose a_t_site_ground a_t_site_boulders a_t_site_records a_t_site_boulders_list a_t_site_boulders_list_values a_t_site_ground_layers a_t_site_ground_layers_values a_t_site_pose_bottoms v_t_excess v_t_momentX v_t_momentY v_t_nextTiltX v_t_nextTiltY v_t_site_columns v_t_site_rows v_t_site_weight v_t_site_stiffness v_t_site_water v_t_site_boulders_list_count v_t_site_boulders_list_values v_t_site_ground_layers_count v_t_site_ground_layers_values v_t_site_lubricated v_t_site_pose_depth v_t_site_pose_tiltX v_t_site_pose_tiltY v_t_site_pose_bottoms) [(0, .ref a_t), (1, .int x1), (2, .int x2), (3, .int x3), (4, .int x4)] 18 [] := by
        intro x3 n_
        induction n_ with
        | zero => intro x2 x4 q_ hf; exact mg_no (show none = some q_ from hf)
        | succ n_ ih =>
          intro x2 x4 q_ hf X0
          rw [f_X1_resistanceOfSide_L18] at hf
          refine mg_iload (pc := 18) C 4 dX1_resistanceOfSide_18 rfl ?_
          refine mg_aload_n (pc := 20) C 0 dX1_resistanceOfSide_20 rfl rfl ?_
          refine mg_get (pc := 21) C 0 rfl rfl inX1 0 (by decide) wm_200 rfl rfl dX1_resistanceOfSide_21 ?_
          refine mg_get (pc := 24) C 1 rfl rfl inX5 0 (by decide) wm_137 rfl rfl dX1_resistanceOfSide_24 ?_
          refine mg_icmp_ge (pc := 27) (tgt := 67) C dX1_resistanceOfSide_27 (by decide) hf (fun hf => ?_) (fun hf => ?_)
          · obtain rfl := Option.some.inj hf
            refine mg_lv [0, 1, 2, 3] rfl ?_
            exact X0
          · refine mg_aload_n (pc := 30) C 0 dX1_resistanceOfSide_30 rfl rfl ?_
            refine mg_get (pc := 31) C 0 rfl rfl inX1 0 (by decide) wm_200 rfl rfl dX1_resistanceOfSide_31 ?_
            refine mg_iload_n (pc := 34) C 1 dX1_resistanceOfSide_34 rfl rfl ?_
            refine mg_iload (pc := 35) C 4 dX1_resistanceOfSide_35 rfl ?_
            refine mg_iload_n (pc := 37) C 3 dX1_resistanceOfSide_37 rfl rfl ?_
            obtain ⟨q1, h2, hf⟩ := mg_b hf
            refine mg_callV (pc := 38) C (w2 := w_X1_resistanceOfSide k a_t a_t_site a_t_trial a_t_chosen a_t_site_ballast a_t_site_lubricated a_t_site_pose a_t_site_ground a_t_site_boulders a_t_site_records a_t_site_boulders_list a_t_site_boulders_list_values a_t_site_ground_layers a_t_site_ground_layers_values a_t_site_pose_bottoms v_t_excess v_t_momentX v_t_momentY v_t_nextTiltX v_t_nextTiltY v_t_site_columns v_t_site_rows v_t_site_weight v_t_site_stiffness v_t_site_water v_t_site_boulders_list_count v_t_site_boulders_list_values v_t_site_ground_layers_count v_t_site_ground_layers_values v_t_site_lubricated v_t_site_pose_depth v_t_site_pose_tiltX v_t_site_pose_tiltY v_t_site_pose_bottoms) (c_X5_isOnSide z.2.1 k a_t_site a_t_site_ballast a_t_site_lubricated a_t_site_pose a_t_site_ground a_t_site_boulders a_t_site_records v_t_site_columns v_t_site_rows v_t_site_weight v_t_site_stiffness v_t_site_water x1 x4 x3 q1 h2) Y_X5_isOnSide wm_679 (by decide) rfl 1 rfl rfl rfl [1] rfl (by decide) rfl [none, some 0, none, none, none, none, none, none, none, none, none] (by decide) rfl (Nat.le_of_ble_eq_true rfl) rfl dX1_resistanceOfSide_38 ?_
            refine mg_if_eq (pc := 41) (tgt := 61) C dX1_resistanceOfSide_41 (by decide) hf (fun hf => ?_) (fun hf => ?_)
            · refine mg_iinc (pc := 61) C (c := 1) (lv' := [(4, .int (x4 + 1)), (0, .ref a_t), (1, .int x1), (2, .int x2), (3, .int x3)]) 4 dX1_resistanceOfSide_61 rfl (by decide) (by decide) rfl ?_
              refine mg_goto (pc := 64) (tgt := 18) C dX1_resistanceOfSide_64 (by decide) ?_
              refine mg_lv [1, 2, 3, 4, 0] rfl ?_
              exact ih x2 (x4 + 1) _ hf X0
            · refine mg_iload_n (pc := 44) C 2 dX1_resistanceOfSide_44 rfl rfl ?_
              refine mg_aload_n (pc := 45) C 0 dX1_resistanceOfSide_45 rfl rfl ?_
              refine mg_aload_n (pc := 46) C 0 dX1_resistanceOfSide_46 rfl rfl ?_
              refine mg_get (pc := 47) C 0 rfl rfl inX1 0 (by decide) wm_200 rfl rfl dX1_resistanceOfSide_47 ?_
              refine mg_get (pc := 50) C 1 rfl rfl inX5 7 (by decide) wm_164 rfl rfl dX1_resistanceOfSide_50 ?_
              refine mg_iload (pc := 53) C 4 dX1_resistanceOfSide_53 rfl ?_
              refine mg_iload_n (pc := 55) C 3 dX1_resistanceOfSide_55 rfl rfl ?_
              obtain ⟨q3, h4, hf⟩ := mg_b hf
              refine mg_callV (pc := 56) C (w2 := w_X1_resistanceOfSide k a_t a_t_site a_t_trial a_t_chosen a_t_site_ballast a_t_site_lubricated a_t_site_pose a_t_site_ground a_t_site_boulders a_t_site_records a_t_site_boulders_list a_t_site_boulders_list_values a_t_site_ground_layers a_t_site_ground_layers_values a_t_site_pose_bottoms v_t_excess v_t_momentX v_t_momentY v_t_nextTiltX v_t_nextTiltY v_t_site_columns v_t_site_rows v_t_site_weight v_t_site_stiffness v_t_site_water v_t_site_boulders_list_count v_t_site_boulders_list_values v_t_site_ground_layers_count v_t_site_ground_layers_values v_t_site_lubricated v_t_site_pose_depth v_t_site_pose_tiltX v_t_site_pose_tiltY v_t_site_pose_bottoms) (c_X1_resistance z.2.1 k a_t a_t_site_pose a_t_site_pose_bottoms a_t_site a_t_trial a_t_chosen a_t_site_ballast a_t_site_lubricated a_t_site_pose a_t_site_ground a_t_site_boulders a_t_site_records a_t_site_boulders_list a_t_site_boulders_list_values a_t_site_ground_layers a_t_site_ground_layers_values v_t_site_pose_depth v_t_site_pose_tiltX v_t_site_pose_tiltY v_t_site_pose_bottoms v_t_excess v_t_momentX v_t_momentY v_t_nextTiltX v_t_nextTiltY v_t_site_columns v_t_site_rows v_t_site_weight v_t_site_stiffness v_t_site_water v_t_site_boulders_list_count v_t_site_boulders_list_values v_t_site_ground_layers_count v_t_site_ground_layers_values v_t_site_lubricated fuel x4 x3 q3 h4) Y_X1_resistance wm_648 (by decide) rfl 0 rfl rfl rfl [9, 10, 0, 1, 2, 3, 4, 5, 6, 7, 8] rfl (by decide) rfl [some 2, some 3, some 4, some 5, some 6, some 7, some 8, some 9, some 10, some 0, some 1] (by decide) rfl (Nat.le_of_ble_eq_true rfl) rfl dX1_resistanceOfSide_56 ?_
              refine mg_iadd (pc := 59) C dX1_resistanceOfSide_59 ?_
              refine mg_istore_n (pc := 60) C (lv' := [(2, .int (x2 + q3)), (0, .ref a_t), (1, .int x1), (3, .int x3), (4, .int x4)]) dX1_resistanceOfSide_60 rfl (by decide) rfl ?_
              refine mg_iinc (pc := 61) C (c := 1) (lv' := [(4, .int (x4 + 1)), (2, .int (x2 + q3)), (0, .ref a_t), (1, .int x1), (3, .int x3)]) 4 dX1_resistanceOfSide_61 rfl (by decide) (by decide) rfl ?_
              refine mg_goto (pc := 64) (tgt := 18) C dX1_resistanceOfSide_64 (by decide) ?_
              refine mg_lv [2, 3, 1, 4, 0] rfl ?_
              exact ih (x2 + q3) (x4 + 1) _ hf X0
      refine mg_iload_n (pc := 4) C 3 dX1_resistanceOfSide_4 rfl rfl ?_
      refine mg_aload_n (pc := 5) C 0 dX1_resistanceOfSide_5 rfl rfl ?_
      refine mg_get (pc := 6) C 0 rfl rfl inX1 0 (by decide) wm_200 rfl rfl dX1_resistanceOfSide_6 ?_
      refine mg_get (pc := 9) C 1 rfl rfl inX5 1 (by decide) wm_141 rfl rfl dX1_resistanceOfSide_9 ?_
      refine mg_icmp_ge (pc := 12) (tgt := 73) C dX1_resistanceOfSide_12 (by decide) hf (fun hf => ?_) (fun hf => ?_)
      · obtain rfl := Option.some.inj hf
        refine mg_lv [2] rfl ?_
        exact X0
      · refine mg_iconst (pc := 15) C dX1_resistanceOfSide_15 (v := 0) (by decide) ?_
        refine mg_istore (pc := 16) C (lv' := [(4, .int 0), (0, .ref a_t), (1, .int x1), (2, .int x2), (3, .int x3)]) dX1_resistanceOfSide_16 (by decide) rfl ?_
        obtain ⟨q5, h6, hf⟩ := mg_b hf
        refine mg_lv [1, 2, 3, 4, 0] rfl ?_
        refine L18 x3 fuel x2 0 q5 h6 ?_
        refine mg_iinc (pc := 67) C (c := 1) (lv' := [(3, .int (x3 + 1)), (0, .ref a_t), (1, .int x1), (2, .int q5.1)]) 3 dX1_resistanceOfSide_67 rfl (by decide) (by decide) rfl ?_
        refine mg_goto (pc := 70) (tgt := 4) C dX1_resistanceOfSide_70 (by decide) ?_
        refine mg_lv [1, 2, 3, 0] rfl ?_
        exact ih q5.1 (x3 + 1) _ hf X0
  refine mg_iconst (pc := 0) C dX1_resistanceOfSide_0 (v := 0) (by decide) ?_
  refine mg_istore_n (pc := 1) C (lv' := [(2, .int 0), (0, .ref a_t), (1, .int x1)]) dX1_resistanceOfSide_1 rfl (by decide) rfl ?_
  refine mg_iconst (pc := 2) C dX1_resistanceOfSide_2 (v := 0) (by decide) ?_
  refine mg_istore_n (pc := 3) C (lv' := [(3, .int 0), (2, .int 0), (0, .ref a_t), (1, .int x1)]) dX1_resistanceOfSide_3 rfl (by decide) rfl ?_
  obtain ⟨q7, h8, hf⟩ := mg_b hf
  refine mg_lv [2, 3, 1, 0] rfl ?_
  refine L4 x1 fuel 0 0 q7 h8 ?_
  refine mg_iload_n (pc := 73) C 0 dX1_resistanceOfSide_73 rfl rfl ?_
  obtain rfl := Option.some.inj hf
  exact E _ _ dX1_resistanceOfSide_74
abbrev w_X1_depthsOfSide (k : mg_K) (a_t a_t_site a_t_trial a_t_chosen a_t_site_ballast a_t_site_lubricated a_t_site_pose a_t_site_ground a_t_site_boulders a_t_site_records a_t_site_pose_bottoms : Nat) (v_t_excess : Int32) (v_t_momentX : Int32) (v_t_momentY : Int32) (v_t_nextTiltX : Int32) (v_t_nextTiltY : Int32) (v_t_site_columns : Int32) (v_t_site_rows : Int32) (v_t_site_weight : Int32) (v_t_site_stiffness : Int32) (v_t_site_water : Int32) (v_t_site_pose_depth : Int32) (v_t_site_pose_tiltX : Int32) (v_t_site_pose_tiltY : Int32) : va_W := [(a_t, .inr (1, [.ref a_t_site, .ref a_t_trial, .ref a_t_chosen, .int v_t_excess, .int v_t_momentX, .int v_t_momentY, .int v_t_nextTiltX, .int v_t_nextTiltY])), (a_t_site, .inr (5, [.int v_t_site_columns, .int v_t_site_rows, .int v_t_site_weight, .int v_t_site_stiffness, .int v_t_site_water, .ref a_t_site_ballast, .ref a_t_site_lubricated, .ref a_t_site_pose, .ref a_t_site_ground, .ref a_t_site_boulders, .ref a_t_site_records])), (a_t_site_pose, .inr (4, [.int v_t_site_pose_depth, .int v_t_site_pose_tiltX, .int v_t_site_pose_tiltY, .ref a_t_site_pose_bottoms]))]
def f_X1_depthsOfSide_L18 (v_t_site_columns : Int32) (v_t_site_rows : Int32) (v_t_site_pose_depth : Int32) (v_t_site_pose_tiltX : Int32) (v_t_site_pose_tiltY : Int32) (x1 : Int32) (x3 : Int32) : Nat → Int32 → Int32 → Option (Int32 × Int32)
  | 0, _, _ => none
  | n_ + 1, x2, x4 => if v_t_site_columns ≤ x4 then (some ((x2, x4))) else ((f_X5_isOnSide v_t_site_columns v_t_site_rows x1 x4 x3).bind (fun q1 => if q1 = 0 then (f_X1_depthsOfSide_L18 v_t_site_columns v_t_site_rows v_t_site_pose_depth v_t_site_pose_tiltX v_t_site_pose_tiltY x1 x3 n_ x2 (x4 + 1)) else ((f_X1_edgeDepth v_t_site_pose_depth v_t_site_pose_tiltX v_t_site_pose_tiltY v_t_site_columns v_t_site_rows x4 x3).bind (fun q3 => f_X1_depthsOfSide_L18 v_t_site_columns v_t_site_rows v_t_site_pose_depth v_t_site_pose_tiltX v_t_site_pose_tiltY x1 x3 n_ (x2 + q3) (x4 + 1)))))
def f_X1_depthsOfSide_L4 (fuel : Nat) (v_t_site_columns : Int32) (v_t_site_rows : Int32) (v_t_site_pose_depth : Int32) (v_t_site_pose_tiltX : Int32) (v_t_site_pose_tiltY : Int32) (x1 : Int32) : Nat → Int32 → Int32 → Option (Int32 × Int32)
  | 0, _, _ => none
  | n_ + 1, x2, x3 => if v_t_site_rows ≤ x3 then (some ((x2, x3))) else ((f_X1_depthsOfSide_L18 v_t_site_columns v_t_site_rows v_t_site_pose_depth v_t_site_pose_tiltX v_t_site_pose_tiltY x1 x3 fuel x2 0).bind (fun q5 => f_X1_depthsOfSide_L4 fuel v_t_site_columns v_t_site_rows v_t_site_pose_depth v_t_site_pose_tiltX v_t_site_pose_tiltY x1 n_ q5.1 (x3 + 1)))
def f_X1_depthsOfSide (fuel : Nat) (v_t_site_columns : Int32) (v_t_site_rows : Int32) (v_t_site_pose_depth : Int32) (v_t_site_pose_tiltX : Int32) (v_t_site_pose_tiltY : Int32) (x1 : Int32) : Option (Int32) := (f_X1_depthsOfSide_L4 fuel v_t_site_columns v_t_site_rows v_t_site_pose_depth v_t_site_pose_tiltX v_t_site_pose_tiltY x1 fuel 0 0).bind (fun q7 => some q7.1)
theorem Y_X1_depthsOfSide : mg_Y yX1_depthsOfSide cX1_depthsOfSide 5 (some .int) 1 := ⟨wm_831, wm_832, wm_2, wm_833, ⟨by decide +kernel, by decide +kernel, by decide +kernel⟩, by decide⟩
set_option maxRecDepth 100000 in
set_option maxHeartbeats 4000000 in
theorem c_X1_depthsOfSide (l : Launch) (k : mg_K) (a_t a_t_site a_t_trial a_t_chosen a_t_site_ballast a_t_site_lubricated a_t_site_pose a_t_site_ground a_t_site_boulders a_t_site_records a_t_site_pose_bottoms : Nat) (v_t_excess : Int32) (v_t_momentX : Int32) (v_t_momentY : Int32) (v_t_nextTiltX : Int32) (v_t_nextTiltY : Int32) (v_t_site_columns : Int32) (v_t_site_rows : Int32) (v_t_site_weight : Int32) (v_t_site_stiffness : Int32) (v_t_site_water : Int32) (v_t_site_pose_depth : Int32) (v_t_site_pose_tiltX : Int32) (v_t_site_pose_tiltY : Int32) (fuel : Nat) (x1 : Int32) (q : Int32) (hf : f_X1_depthsOfSide fuel v_t_site_columns v_t_site_rows v_t_site_pose_depth v_t_site_pose_tiltX v_t_site_pose_tiltY x1 = some q) : mg_M l yX1_depthsOfSide cX1_depthsOfSide 5 (some .int) 2 k [.ref a_t, .int x1] (w_X1_depthsOfSide k a_t a_t_site a_t_trial a_t_chosen a_t_site_ballast a_t_site_lubricated a_t_site_pose a_t_site_ground a_t_site_boulders a_t_site_records a_t_site_pose_bottoms v_t_excess v_t_momentX v_t_momentY v_t_nextTiltX v_t_nextTiltY v_t_site_columns v_t_site_rows v_t_site_weight v_t_site_stiffness v_t_site_water v_t_site_pose_depth v_t_site_pose_tiltX v_t_site_pose_tiltY) (w_X1_depthsOfSide k a_t a_t_site a_t_trial a_t_chosen a_t_site_ballast a_t_site_lubricated a_t_site_pose a_t_site_ground a_t_site_boulders a_t_site_records a_t_site_pose_bottoms v_t_excess v_t_momentX v_t_momentY v_t_nextTiltX v_t_nextTiltY v_t_site_columns v_t_site_rows v_t_site_weight v_t_site_stiffness v_t_site_water v_t_site_pose_depth v_t_site_pose_tiltX v_t_site_pose_tiltY) (some (.int q)) := by
  refine mg_Mi RX1 [(0, .ref a_t), (1, .int x1)] (by decide +kernel) rfl rfl (Nat.le_of_ble_eq_true rfl) ?_
  intro z A Q hl C E
  subst hl
  unfold f_X1_depthsOfSide at hf
  have L4 : ∀ (x1 : Int32) (n_ : Nat) (x2 : Int32) (x3 : Int32) (q_ : Int32 × Int32), f_X1_depthsOfSide_L4 fuel v_t_site_columns v_t_site_rows v_t_site_pose_depth v_t_site_pose_tiltX v_t_site_pose_tiltY x1 n_ x2 x3 = some q_ → (mg z k A 5 0 0 Q (w_X1_depthsOfSide k a_t a_t_site a_t_trial a_t_chosen a_t_site_ballast a_t_site_lubricated a_t_site_pose a_t_site_ground a_t_site_boulders a_t_site_records a_t_site_pose_bottoms v_t_excess v_t_momentX v_t_momentY v_t_nextTiltX v_t_nextTiltY v_t_site_columns v_t_site_rows v_t_site_weight v_t_site_stiffness v_t_site_water v_t_site_pose_depth v_t_site_pose_tiltX v_t_site_pose_tiltY) [(2, .int q_.1)] 73 []) → mg z k A 5 0 0 Q (w_X1_depthsOfSide k a_t a_t_site a_t_trial a_t_chosen a_t_site_ballast a_t_site_lubricated a_t_site_pose a_t_site_ground a_t_site_boulders a_t_site_records a_t_site_pose_bottoms v_t_excess v_t_momentX v_t_momentY v_t_nextTiltX v_t_nextTiltY v_t_site_columns v_t_site_rows v_t_site_weight v_t_site_stiffness v_t_site_water v_t_site_pose_depth v_t_site_pose_tiltX v_t_site_pose_tiltY) [(0, .ref a_t), (1, .int x1), (2, .int x2), (3, .int x3)] 4 [] := by
    intro x1 n_
    induction n_ with
    | zero => intro x2 x3 q_ hf; exact mg_no (show none = some q_ from hf)
    | succ n_ ih =>
      intro x2 x3 q_ hf X0
      rw [f_X1_depthsOfSide_L4] at hf
      have L18 : ∀ (x3 : Int32) (n_ : Nat) (x2 : Int32) (x4 : Int32) (q_ : Int32 × Int32), f_X1_depthsOfSide_L18 v_t_site_columns v_t_site_rows v_t_site_pose_depth v_t_site_pose_tiltX v_t_site_pose_tiltY x1 x3 n_ x2 x4 = some q_ → (mg z k A 5 0 0 Q (w_X1_depthsOfSide k a_t a_t_site a_t_trial a_t_chosen a_t_site_ballast a_t_site_lubricated a_t_site_pose a_t_site_ground a_t_site_boulders a_t_site_records a_t_site_pose_bottoms v_t_excess v_t_momentX v_t_momentY v_t_nextTiltX v_t_nextTiltY v_t_site_columns v_t_site_rows v_t_site_weight v_t_site_stiffness v_t_site_water v_t_site_pose_depth v_t_site_pose_tiltX v_t_site_pose_tiltY) [(0, .ref a_t), (1, .int x1), (2, .int q_.1), (3, .int x3)] 67 []) → mg z k A 5 0 0 Q (w_X1_depthsOfSide k a_t a_t_site a_t_trial a_t_chosen a_t_site_ballast a_t_site_lubricated a_t_site_pose a_t_site_ground a_t_site_boulders a_t_site_records a_t_site_pose_bottoms v_t_excess v_t_momentX v_t_momentY v_t_nextTiltX v_t_nextTiltY v_t_site_columns v_t_site_rows v_t_site_weight v_t_site_stiffness v_t_site_water v_t_site_pose_depth v_t_site_pose_tiltX v_t_site_pose_tiltY) [(0, .ref a_t), (1, .int x1), (2, .int x2), (3, .int x3), (4, .int x4)] 18 [] := by
        intro x3 n_
        induction n_ with
        | zero => intro x2 x4 q_ hf; exact mg_no (show none = some q_ from hf)
        | succ n_ ih =>
          intro x2 x4 q_ hf X0
          rw [f_X1_depthsOfSide_L18] at hf
          refine mg_iload (pc := 18) C 4 dX1_depthsOfSide_18 rfl ?_
          refine mg_aload_n (pc := 20) C 0 dX1_depthsOfSide_20 rfl rfl ?_
          refine mg_get (pc := 21) C 0 rfl rfl inX1 0 (by decide) wm_200 rfl rfl dX1_depthsOfSide_21 ?_
          refine mg_get (pc := 24) C 1 rfl rfl inX5 0 (by decide) wm_137 rfl rfl dX1_depthsOfSide_24 ?_
          refine mg_icmp_ge (pc := 27) (tgt := 67) C dX1_depthsOfSide_27 (by decide) hf (fun hf => ?_) (fun hf => ?_)
          · obtain rfl := Option.some.inj hf
            refine mg_lv [0, 1, 2, 3] rfl ?_
            exact X0
          · refine mg_aload_n (pc := 30) C 0 dX1_depthsOfSide_30 rfl rfl ?_
            refine mg_get (pc := 31) C 0 rfl rfl inX1 0 (by decide) wm_200 rfl rfl dX1_depthsOfSide_31 ?_
            refine mg_iload_n (pc := 34) C 1 dX1_depthsOfSide_34 rfl rfl ?_
            refine mg_iload (pc := 35) C 4 dX1_depthsOfSide_35 rfl ?_
            refine mg_iload_n (pc := 37) C 3 dX1_depthsOfSide_37 rfl rfl ?_
            obtain ⟨q1, h2, hf⟩ := mg_b hf
            refine mg_callV (pc := 38) C (w2 := w_X1_depthsOfSide k a_t a_t_site a_t_trial a_t_chosen a_t_site_ballast a_t_site_lubricated a_t_site_pose a_t_site_ground a_t_site_boulders a_t_site_records a_t_site_pose_bottoms v_t_excess v_t_momentX v_t_momentY v_t_nextTiltX v_t_nextTiltY v_t_site_columns v_t_site_rows v_t_site_weight v_t_site_stiffness v_t_site_water v_t_site_pose_depth v_t_site_pose_tiltX v_t_site_pose_tiltY) (c_X5_isOnSide z.2.1 k a_t_site a_t_site_ballast a_t_site_lubricated a_t_site_pose a_t_site_ground a_t_site_boulders a_t_site_records v_t_site_columns v_t_site_rows v_t_site_weight v_t_site_stiffness v_t_site_water x1 x4 x3 q1 h2) Y_X5_isOnSide wm_679 (by decide) rfl 1 rfl rfl rfl [1] rfl (by decide) rfl [none, some 0, none] (by decide) rfl (Nat.le_of_ble_eq_true rfl) rfl dX1_depthsOfSide_38 ?_
            refine mg_if_eq (pc := 41) (tgt := 61) C dX1_depthsOfSide_41 (by decide) hf (fun hf => ?_) (fun hf => ?_)
            · refine mg_iinc (pc := 61) C (c := 1) (lv' := [(4, .int (x4 + 1)), (0, .ref a_t), (1, .int x1), (2, .int x2), (3, .int x3)]) 4 dX1_depthsOfSide_61 rfl (by decide) (by decide) rfl ?_
              refine mg_goto (pc := 64) (tgt := 18) C dX1_depthsOfSide_64 (by decide) ?_
              refine mg_lv [1, 2, 3, 4, 0] rfl ?_
              exact ih x2 (x4 + 1) _ hf X0
            · refine mg_iload_n (pc := 44) C 2 dX1_depthsOfSide_44 rfl rfl ?_
              refine mg_aload_n (pc := 45) C 0 dX1_depthsOfSide_45 rfl rfl ?_
              refine mg_aload_n (pc := 46) C 0 dX1_depthsOfSide_46 rfl rfl ?_
              refine mg_get (pc := 47) C 0 rfl rfl inX1 0 (by decide) wm_200 rfl rfl dX1_depthsOfSide_47 ?_
              refine mg_get (pc := 50) C 1 rfl rfl inX5 7 (by decide) wm_164 rfl rfl dX1_depthsOfSide_50 ?_
              refine mg_iload (pc := 53) C 4 dX1_depthsOfSide_53 rfl ?_
              refine mg_iload_n (pc := 55) C 3 dX1_depthsOfSide_55 rfl rfl ?_
              obtain ⟨q3, h4, hf⟩ := mg_b hf
              refine mg_callV (pc := 56) C (w2 := w_X1_depthsOfSide k a_t a_t_site a_t_trial a_t_chosen a_t_site_ballast a_t_site_lubricated a_t_site_pose a_t_site_ground a_t_site_boulders a_t_site_records a_t_site_pose_bottoms v_t_excess v_t_momentX v_t_momentY v_t_nextTiltX v_t_nextTiltY v_t_site_columns v_t_site_rows v_t_site_weight v_t_site_stiffness v_t_site_water v_t_site_pose_depth v_t_site_pose_tiltX v_t_site_pose_tiltY) (c_X1_edgeDepth z.2.1 k a_t a_t_site_pose a_t_site_pose_bottoms a_t_site a_t_trial a_t_chosen a_t_site_ballast a_t_site_lubricated a_t_site_pose a_t_site_ground a_t_site_boulders a_t_site_records v_t_site_pose_depth v_t_site_pose_tiltX v_t_site_pose_tiltY v_t_excess v_t_momentX v_t_momentY v_t_nextTiltX v_t_nextTiltY v_t_site_columns v_t_site_rows v_t_site_weight v_t_site_stiffness v_t_site_water x4 x3 q3 h4) Y_X1_edgeDepth wm_652 (by decide) rfl 0 rfl rfl rfl [2, 0, 1] rfl (by decide) rfl [some 1, some 2, some 0] (by decide) rfl (Nat.le_of_ble_eq_true rfl) rfl dX1_depthsOfSide_56 ?_
              refine mg_iadd (pc := 59) C dX1_depthsOfSide_59 ?_
              refine mg_istore_n (pc := 60) C (lv' := [(2, .int (x2 + q3)), (0, .ref a_t), (1, .int x1), (3, .int x3), (4, .int x4)]) dX1_depthsOfSide_60 rfl (by decide) rfl ?_
              refine mg_iinc (pc := 61) C (c := 1) (lv' := [(4, .int (x4 + 1)), (2, .int (x2 + q3)), (0, .ref a_t), (1, .int x1), (3, .int x3)]) 4 dX1_depthsOfSide_61 rfl (by decide) (by decide) rfl ?_
              refine mg_goto (pc := 64) (tgt := 18) C dX1_depthsOfSide_64 (by decide) ?_
              refine mg_lv [2, 3, 1, 4, 0] rfl ?_
              exact ih (x2 + q3) (x4 + 1) _ hf X0
      refine mg_iload_n (pc := 4) C 3 dX1_depthsOfSide_4 rfl rfl ?_
      refine mg_aload_n (pc := 5) C 0 dX1_depthsOfSide_5 rfl rfl ?_
      refine mg_get (pc := 6) C 0 rfl rfl inX1 0 (by decide) wm_200 rfl rfl dX1_depthsOfSide_6 ?_
      refine mg_get (pc := 9) C 1 rfl rfl inX5 1 (by decide) wm_141 rfl rfl dX1_depthsOfSide_9 ?_
      refine mg_icmp_ge (pc := 12) (tgt := 73) C dX1_depthsOfSide_12 (by decide) hf (fun hf => ?_) (fun hf => ?_)
      · obtain rfl := Option.some.inj hf
        refine mg_lv [2] rfl ?_
        exact X0
      · refine mg_iconst (pc := 15) C dX1_depthsOfSide_15 (v := 0) (by decide) ?_
        refine mg_istore (pc := 16) C (lv' := [(4, .int 0), (0, .ref a_t), (1, .int x1), (2, .int x2), (3, .int x3)]) dX1_depthsOfSide_16 (by decide) rfl ?_
        obtain ⟨q5, h6, hf⟩ := mg_b hf
        refine mg_lv [1, 2, 3, 4, 0] rfl ?_
        refine L18 x3 fuel x2 0 q5 h6 ?_
        refine mg_iinc (pc := 67) C (c := 1) (lv' := [(3, .int (x3 + 1)), (0, .ref a_t), (1, .int x1), (2, .int q5.1)]) 3 dX1_depthsOfSide_67 rfl (by decide) (by decide) rfl ?_
        refine mg_goto (pc := 70) (tgt := 4) C dX1_depthsOfSide_70 (by decide) ?_
        refine mg_lv [1, 2, 3, 0] rfl ?_
        exact ih q5.1 (x3 + 1) _ hf X0
  refine mg_iconst (pc := 0) C dX1_depthsOfSide_0 (v := 0) (by decide) ?_
  refine mg_istore_n (pc := 1) C (lv' := [(2, .int 0), (0, .ref a_t), (1, .int x1)]) dX1_depthsOfSide_1 rfl (by decide) rfl ?_
  refine mg_iconst (pc := 2) C dX1_depthsOfSide_2 (v := 0) (by decide) ?_
  refine mg_istore_n (pc := 3) C (lv' := [(3, .int 0), (2, .int 0), (0, .ref a_t), (1, .int x1)]) dX1_depthsOfSide_3 rfl (by decide) rfl ?_
  obtain ⟨q7, h8, hf⟩ := mg_b hf
  refine mg_lv [2, 3, 1, 0] rfl ?_
  refine L4 x1 fuel 0 0 q7 h8 ?_
  refine mg_iload_n (pc := 73) C 0 dX1_depthsOfSide_73 rfl rfl ?_
  obtain rfl := Option.some.inj hf
  exact E _ _ dX1_depthsOfSide_74
abbrev w_X1_sumOfSkinFactors (k : mg_K) (a_t a_t_site a_t_trial a_t_chosen a_t_site_ballast a_t_site_lubricated a_t_site_pose a_t_site_ground a_t_site_boulders a_t_site_records : Nat) (v_t_excess : Int32) (v_t_momentX : Int32) (v_t_momentY : Int32) (v_t_nextTiltX : Int32) (v_t_nextTiltY : Int32) (v_t_site_columns : Int32) (v_t_site_rows : Int32) (v_t_site_weight : Int32) (v_t_site_stiffness : Int32) (v_t_site_water : Int32) (v_t_site_lubricated : Nat → Int32) : va_W := [(a_t, .inr (1, [.ref a_t_site, .ref a_t_trial, .ref a_t_chosen, .int v_t_excess, .int v_t_momentX, .int v_t_momentY, .int v_t_nextTiltX, .int v_t_nextTiltY])), (a_t_site, .inr (5, [.int v_t_site_columns, .int v_t_site_rows, .int v_t_site_weight, .int v_t_site_stiffness, .int v_t_site_water, .ref a_t_site_ballast, .ref a_t_site_lubricated, .ref a_t_site_pose, .ref a_t_site_ground, .ref a_t_site_boulders, .ref a_t_site_records])), (a_t_site_lubricated, .inl (k.2.1, 4, .inl v_t_site_lubricated))]
def f_X1_sumOfSkinFactors_L17 (v_t_site_columns : Int32) (v_t_site_rows : Int32) (v_t_site_lubricated : Nat → Int32) (x2 : Int32) : Nat → Int32 → Int32 → Option (Int32 × Int32)
  | 0, _, _ => none
  | n_ + 1, x1, x3 => if v_t_site_columns ≤ x3 then (some ((x1, x3))) else ((f_X5_isEdgeAt v_t_site_columns v_t_site_rows x3 x2).bind (fun q1 => if q1 = 0 then (f_X1_sumOfSkinFactors_L17 v_t_site_columns v_t_site_rows v_t_site_lubricated x2 n_ x1 (x3 + 1)) else ((f_X5_skinFactor v_t_site_columns v_t_site_rows v_t_site_lubricated x3 x2).bind (fun q3 => f_X1_sumOfSkinFactors_L17 v_t_site_columns v_t_site_rows v_t_site_lubricated x2 n_ (x1 + q3) (x3 + 1)))))
def f_X1_sumOfSkinFactors_L4 (fuel : Nat) (v_t_site_columns : Int32) (v_t_site_rows : Int32) (v_t_site_lubricated : Nat → Int32) : Nat → Int32 → Int32 → Option (Int32 × Int32)
  | 0, _, _ => none
  | n_ + 1, x1, x2 => if v_t_site_rows ≤ x2 then (some ((x1, x2))) else ((f_X1_sumOfSkinFactors_L17 v_t_site_columns v_t_site_rows v_t_site_lubricated x2 fuel x1 0).bind (fun q5 => f_X1_sumOfSkinFactors_L4 fuel v_t_site_columns v_t_site_rows v_t_site_lubricated n_ q5.1 (x2 + 1)))
def f_X1_sumOfSkinFactors (fuel : Nat) (v_t_site_columns : Int32) (v_t_site_rows : Int32) (v_t_site_lubricated : Nat → Int32) : Option (Int32) := (f_X1_sumOfSkinFactors_L4 fuel v_t_site_columns v_t_site_rows v_t_site_lubricated fuel 0 0).bind (fun q7 => some q7.1)
theorem Y_X1_sumOfSkinFactors : mg_Y yX1_sumOfSkinFactors cX1_sumOfSkinFactors 4 (some .int) 0 := ⟨wm_688, wm_689, wm_2, wm_690, ⟨by decide +kernel, by decide +kernel, by decide +kernel⟩, by decide⟩
set_option maxRecDepth 100000 in
set_option maxHeartbeats 4000000 in
theorem c_X1_sumOfSkinFactors (l : Launch) (k : mg_K) (a_t a_t_site a_t_trial a_t_chosen a_t_site_ballast a_t_site_lubricated a_t_site_pose a_t_site_ground a_t_site_boulders a_t_site_records : Nat) (v_t_excess : Int32) (v_t_momentX : Int32) (v_t_momentY : Int32) (v_t_nextTiltX : Int32) (v_t_nextTiltY : Int32) (v_t_site_columns : Int32) (v_t_site_rows : Int32) (v_t_site_weight : Int32) (v_t_site_stiffness : Int32) (v_t_site_water : Int32) (v_t_site_lubricated : Nat → Int32) (fuel : Nat) (q : Int32) (hf : f_X1_sumOfSkinFactors fuel v_t_site_columns v_t_site_rows v_t_site_lubricated = some q) : mg_M l yX1_sumOfSkinFactors cX1_sumOfSkinFactors 4 (some .int) 1 k [.ref a_t] (w_X1_sumOfSkinFactors k a_t a_t_site a_t_trial a_t_chosen a_t_site_ballast a_t_site_lubricated a_t_site_pose a_t_site_ground a_t_site_boulders a_t_site_records v_t_excess v_t_momentX v_t_momentY v_t_nextTiltX v_t_nextTiltY v_t_site_columns v_t_site_rows v_t_site_weight v_t_site_stiffness v_t_site_water v_t_site_lubricated) (w_X1_sumOfSkinFactors k a_t a_t_site a_t_trial a_t_chosen a_t_site_ballast a_t_site_lubricated a_t_site_pose a_t_site_ground a_t_site_boulders a_t_site_records v_t_excess v_t_momentX v_t_momentY v_t_nextTiltX v_t_nextTiltY v_t_site_columns v_t_site_rows v_t_site_weight v_t_site_stiffness v_t_site_water v_t_site_lubricated) (some (.int q)) := by
  refine mg_Mi RX1 [(0, .ref a_t)] (by decide +kernel) rfl rfl (Nat.le_of_ble_eq_true rfl) ?_
  intro z A Q hl C E
  subst hl
  unfold f_X1_sumOfSkinFactors at hf
  have L4 : ∀ (n_ : Nat) (x1 : Int32) (x2 : Int32) (q_ : Int32 × Int32), f_X1_sumOfSkinFactors_L4 fuel v_t_site_columns v_t_site_rows v_t_site_lubricated n_ x1 x2 = some q_ → (mg z k A 4 0 0 Q (w_X1_sumOfSkinFactors k a_t a_t_site a_t_trial a_t_chosen a_t_site_ballast a_t_site_lubricated a_t_site_pose a_t_site_ground a_t_site_boulders a_t_site_records v_t_excess v_t_momentX v_t_momentY v_t_nextTiltX v_t_nextTiltY v_t_site_columns v_t_site_rows v_t_site_weight v_t_site_stiffness v_t_site_water v_t_site_lubricated) [(1, .int q_.1)] 64 []) → mg z k A 4 0 0 Q (w_X1_sumOfSkinFactors k a_t a_t_site a_t_trial a_t_chosen a_t_site_ballast a_t_site_lubricated a_t_site_pose a_t_site_ground a_t_site_boulders a_t_site_records v_t_excess v_t_momentX v_t_momentY v_t_nextTiltX v_t_nextTiltY v_t_site_columns v_t_site_rows v_t_site_weight v_t_site_stiffness v_t_site_water v_t_site_lubricated) [(0, .ref a_t), (1, .int x1), (2, .int x2)] 4 [] := by
    intro n_
    induction n_ with
    | zero => intro x1 x2 q_ hf; exact mg_no (show none = some q_ from hf)
    | succ n_ ih =>
      intro x1 x2 q_ hf X0
      rw [f_X1_sumOfSkinFactors_L4] at hf
      have L17 : ∀ (x2 : Int32) (n_ : Nat) (x1 : Int32) (x3 : Int32) (q_ : Int32 × Int32), f_X1_sumOfSkinFactors_L17 v_t_site_columns v_t_site_rows v_t_site_lubricated x2 n_ x1 x3 = some q_ → (mg z k A 4 0 0 Q (w_X1_sumOfSkinFactors k a_t a_t_site a_t_trial a_t_chosen a_t_site_ballast a_t_site_lubricated a_t_site_pose a_t_site_ground a_t_site_boulders a_t_site_records v_t_excess v_t_momentX v_t_momentY v_t_nextTiltX v_t_nextTiltY v_t_site_columns v_t_site_rows v_t_site_weight v_t_site_stiffness v_t_site_water v_t_site_lubricated) [(0, .ref a_t), (1, .int q_.1), (2, .int x2)] 58 []) → mg z k A 4 0 0 Q (w_X1_sumOfSkinFactors k a_t a_t_site a_t_trial a_t_chosen a_t_site_ballast a_t_site_lubricated a_t_site_pose a_t_site_ground a_t_site_boulders a_t_site_records v_t_excess v_t_momentX v_t_momentY v_t_nextTiltX v_t_nextTiltY v_t_site_columns v_t_site_rows v_t_site_weight v_t_site_stiffness v_t_site_water v_t_site_lubricated) [(0, .ref a_t), (1, .int x1), (2, .int x2), (3, .int x3)] 17 [] := by
        intro x2 n_
        induction n_ with
        | zero => intro x1 x3 q_ hf; exact mg_no (show none = some q_ from hf)
        | succ n_ ih =>
          intro x1 x3 q_ hf X0
          rw [f_X1_sumOfSkinFactors_L17] at hf
          refine mg_iload_n (pc := 17) C 3 dX1_sumOfSkinFactors_17 rfl rfl ?_
          refine mg_aload_n (pc := 18) C 0 dX1_sumOfSkinFactors_18 rfl rfl ?_
          refine mg_get (pc := 19) C 0 rfl rfl inX1 0 (by decide) wm_200 rfl rfl dX1_sumOfSkinFactors_19 ?_
          refine mg_get (pc := 22) C 1 rfl rfl inX5 0 (by decide) wm_137 rfl rfl dX1_sumOfSkinFactors_22 ?_
          refine mg_icmp_ge (pc := 25) (tgt := 58) C dX1_sumOfSkinFactors_25 (by decide) hf (fun hf => ?_) (fun hf => ?_)
          · obtain rfl := Option.some.inj hf
            refine mg_lv [0, 1, 2] rfl ?_
            exact X0
          · refine mg_aload_n (pc := 28) C 0 dX1_sumOfSkinFactors_28 rfl rfl ?_
            refine mg_get (pc := 29) C 0 rfl rfl inX1 0 (by decide) wm_200 rfl rfl dX1_sumOfSkinFactors_29 ?_
            refine mg_iload_n (pc := 32) C 3 dX1_sumOfSkinFactors_32 rfl rfl ?_
            refine mg_iload_n (pc := 33) C 2 dX1_sumOfSkinFactors_33 rfl rfl ?_
            obtain ⟨q1, h2, hf⟩ := mg_b hf
            refine mg_callV (pc := 34) C (w2 := w_X1_sumOfSkinFactors k a_t a_t_site a_t_trial a_t_chosen a_t_site_ballast a_t_site_lubricated a_t_site_pose a_t_site_ground a_t_site_boulders a_t_site_records v_t_excess v_t_momentX v_t_momentY v_t_nextTiltX v_t_nextTiltY v_t_site_columns v_t_site_rows v_t_site_weight v_t_site_stiffness v_t_site_water v_t_site_lubricated) (c_X5_isEdgeAt z.2.1 k a_t_site a_t_site_ballast a_t_site_lubricated a_t_site_pose a_t_site_ground a_t_site_boulders a_t_site_records v_t_site_columns v_t_site_rows v_t_site_weight v_t_site_stiffness v_t_site_water x3 x2 q1 h2) Y_X5_isEdgeAt wm_647 (by decide) rfl 1 rfl rfl rfl [1] rfl (by decide) rfl [none, some 0, none] (by decide) rfl (Nat.le_of_ble_eq_true rfl) rfl dX1_sumOfSkinFactors_34 ?_
            refine mg_if_eq (pc := 37) (tgt := 52) C dX1_sumOfSkinFactors_37 (by decide) hf (fun hf => ?_) (fun hf => ?_)
            · refine mg_iinc (pc := 52) C (c := 1) (lv' := [(3, .int (x3 + 1)), (0, .ref a_t), (1, .int x1), (2, .int x2)]) 3 dX1_sumOfSkinFactors_52 rfl (by decide) (by decide) rfl ?_
              refine mg_goto (pc := 55) (tgt := 17) C dX1_sumOfSkinFactors_55 (by decide) ?_
              refine mg_lv [1, 2, 3, 0] rfl ?_
              exact ih x1 (x3 + 1) _ hf X0
            · refine mg_iload_n (pc := 40) C 1 dX1_sumOfSkinFactors_40 rfl rfl ?_
              refine mg_aload_n (pc := 41) C 0 dX1_sumOfSkinFactors_41 rfl rfl ?_
              refine mg_get (pc := 42) C 0 rfl rfl inX1 0 (by decide) wm_200 rfl rfl dX1_sumOfSkinFactors_42 ?_
              refine mg_iload_n (pc := 45) C 3 dX1_sumOfSkinFactors_45 rfl rfl ?_
              refine mg_iload_n (pc := 46) C 2 dX1_sumOfSkinFactors_46 rfl rfl ?_
              obtain ⟨q3, h4, hf⟩ := mg_b hf
              refine mg_callV (pc := 47) C (w2 := w_X1_sumOfSkinFactors k a_t a_t_site a_t_trial a_t_chosen a_t_site_ballast a_t_site_lubricated a_t_site_pose a_t_site_ground a_t_site_boulders a_t_site_records v_t_excess v_t_momentX v_t_momentY v_t_nextTiltX v_t_nextTiltY v_t_site_columns v_t_site_rows v_t_site_weight v_t_site_stiffness v_t_site_water v_t_site_lubricated) (c_X5_skinFactor z.2.1 k a_t_site a_t_site_ballast a_t_site_lubricated a_t_site_pose a_t_site_ground a_t_site_boulders a_t_site_records v_t_site_columns v_t_site_rows v_t_site_weight v_t_site_stiffness v_t_site_water v_t_site_lubricated x3 x2 q3 h4) Y_X5_skinFactor wm_618 (by decide) rfl 1 rfl rfl rfl [1, 2] rfl (by decide) rfl [none, some 0, some 1] (by decide) rfl (Nat.le_of_ble_eq_true rfl) rfl dX1_sumOfSkinFactors_47 ?_
              refine mg_iadd (pc := 50) C dX1_sumOfSkinFactors_50 ?_
              refine mg_istore_n (pc := 51) C (lv' := [(1, .int (x1 + q3)), (0, .ref a_t), (2, .int x2), (3, .int x3)]) dX1_sumOfSkinFactors_51 rfl (by decide) rfl ?_
              refine mg_iinc (pc := 52) C (c := 1) (lv' := [(3, .int (x3 + 1)), (1, .int (x1 + q3)), (0, .ref a_t), (2, .int x2)]) 3 dX1_sumOfSkinFactors_52 rfl (by decide) (by decide) rfl ?_
              refine mg_goto (pc := 55) (tgt := 17) C dX1_sumOfSkinFactors_55 (by decide) ?_
              refine mg_lv [2, 1, 3, 0] rfl ?_
              exact ih (x1 + q3) (x3 + 1) _ hf X0
      refine mg_iload_n (pc := 4) C 2 dX1_sumOfSkinFactors_4 rfl rfl ?_
      refine mg_aload_n (pc := 5) C 0 dX1_sumOfSkinFactors_5 rfl rfl ?_
      refine mg_get (pc := 6) C 0 rfl rfl inX1 0 (by decide) wm_200 rfl rfl dX1_sumOfSkinFactors_6 ?_
      refine mg_get (pc := 9) C 1 rfl rfl inX5 1 (by decide) wm_141 rfl rfl dX1_sumOfSkinFactors_9 ?_
      refine mg_icmp_ge (pc := 12) (tgt := 64) C dX1_sumOfSkinFactors_12 (by decide) hf (fun hf => ?_) (fun hf => ?_)
      · obtain rfl := Option.some.inj hf
        refine mg_lv [1] rfl ?_
        exact X0
      · refine mg_iconst (pc := 15) C dX1_sumOfSkinFactors_15 (v := 0) (by decide) ?_
        refine mg_istore_n (pc := 16) C (lv' := [(3, .int 0), (0, .ref a_t), (1, .int x1), (2, .int x2)]) dX1_sumOfSkinFactors_16 rfl (by decide) rfl ?_
        obtain ⟨q5, h6, hf⟩ := mg_b hf
        refine mg_lv [1, 2, 3, 0] rfl ?_
        refine L17 x2 fuel x1 0 q5 h6 ?_
        refine mg_iinc (pc := 58) C (c := 1) (lv' := [(2, .int (x2 + 1)), (0, .ref a_t), (1, .int q5.1)]) 2 dX1_sumOfSkinFactors_58 rfl (by decide) (by decide) rfl ?_
        refine mg_goto (pc := 61) (tgt := 4) C dX1_sumOfSkinFactors_61 (by decide) ?_
        refine mg_lv [1, 2, 0] rfl ?_
        exact ih q5.1 (x2 + 1) _ hf X0
  refine mg_iconst (pc := 0) C dX1_sumOfSkinFactors_0 (v := 0) (by decide) ?_
  refine mg_istore_n (pc := 1) C (lv' := [(1, .int 0), (0, .ref a_t)]) dX1_sumOfSkinFactors_1 rfl (by decide) rfl ?_
  refine mg_iconst (pc := 2) C dX1_sumOfSkinFactors_2 (v := 0) (by decide) ?_
  refine mg_istore_n (pc := 3) C (lv' := [(2, .int 0), (1, .int 0), (0, .ref a_t)]) dX1_sumOfSkinFactors_3 rfl (by decide) rfl ?_
  obtain ⟨q7, h8, hf⟩ := mg_b hf
  refine mg_lv [2, 1, 0] rfl ?_
  refine L4  fuel 0 0 q7 h8 ?_
  refine mg_iload_n (pc := 64) C 0 dX1_sumOfSkinFactors_64 rfl rfl ?_
  obtain rfl := Option.some.inj hf
  exact E _ _ dX1_sumOfSkinFactors_65
