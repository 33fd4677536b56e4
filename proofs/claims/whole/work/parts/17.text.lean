abbrev w_X6_append (k : mg_K) (a_t a_t_characters a_t_values : Nat) (v_t_length : Int32) (v_t_position : Int32) (v_t_token : Int32) (v_t_tokenStart : Int32) (v_t_number : Int32) (v_t_characters : Nat → Int32) : va_W := [(a_t, .inr (6, [.ref a_t_characters, .int v_t_length, .int v_t_position, .int v_t_token, .int v_t_tokenStart, .int v_t_number, .ref a_t_values])), (a_t_characters, .inl (k.2.2.1, 200, .inl v_t_characters))]
def f_X6_append (v_t_length : Int32) (v_t_characters : Nat → Int32) (x1 : Int32) : Option (Int32 × (Nat → Int32)) := if 200 ≤ v_t_length then (some (v_t_length, v_t_characters)) else (if mg_ix v_t_length 200 = true then (some (v_t_length + 1, upd v_t_characters (Int32.toNatClampNeg v_t_length) (vp_nar .char x1))) else none)
theorem Y_X6_append : mg_Y yX6_append cX6_append 2 none 1 := ⟨wm_316, wm_317, wm_10, wm_318, ⟨by decide +kernel, by decide +kernel, by decide +kernel⟩, by decide⟩
set_option maxRecDepth 100000 in
set_option maxHeartbeats 4000000 in
theorem c_X6_append (l : Launch) (k : mg_K) (a_t a_t_characters a_t_values : Nat) (v_t_length : Int32) (v_t_position : Int32) (v_t_token : Int32) (v_t_tokenStart : Int32) (v_t_number : Int32) (v_t_characters : Nat → Int32) (x1 : Int32) (q : Int32 × (Nat → Int32)) (hf : f_X6_append v_t_length v_t_characters x1 = some q) : mg_M l yX6_append cX6_append 2 none 0 k [.ref a_t, .int x1] (w_X6_append k a_t a_t_characters a_t_values v_t_length v_t_position v_t_token v_t_tokenStart v_t_number v_t_characters) (w_X6_append k a_t a_t_characters a_t_values q.1 v_t_position v_t_token v_t_tokenStart v_t_number q.2) none := by
  refine mg_Mv RX6 [(0, .ref a_t), (1, .int x1)] (by decide +kernel) rfl rfl (Nat.le_of_ble_eq_true rfl) ?_
  intro z A Q hl C E
  subst hl
  unfold f_X6_append at hf
  refine mg_aload_n (pc := 0) C 0 dX6_append_0 rfl rfl ?_
  refine mg_get (pc := 1) C 0 rfl rfl inX6 1 (by decide) wm_254 rfl rfl dX6_append_1 ?_
  refine mg_sipush (pc := 4) C dX6_append_4 (v := 200) (by decide) ?_
  refine mg_icmp_ge (pc := 7) (tgt := 30) C dX6_append_7 (by decide) hf (fun hf => ?_) (fun hf => ?_)
  · obtain rfl := Option.some.inj hf
    exact E _ _ dX6_append_30
  · refine mg_aload_n (pc := 10) C 0 dX6_append_10 rfl rfl ?_
    refine mg_get (pc := 11) C 0 rfl rfl inX6 0 (by decide) wm_253 rfl rfl dX6_append_11 ?_
    refine mg_aload_n (pc := 14) C 0 dX6_append_14 rfl rfl ?_
    refine mg_get (pc := 15) C 0 rfl rfl inX6 1 (by decide) wm_254 rfl rfl dX6_append_15 ?_
    refine mg_iload_n (pc := 18) C 1 dX6_append_18 rfl rfl ?_
    refine mg_cast (pc := 19) C (w2 := w_X6_append k a_t a_t_characters a_t_values v_t_length v_t_position v_t_token v_t_tokenStart v_t_number (upd v_t_characters (Int32.toNatClampNeg v_t_length) (vp_nar .char x1))) 1 rfl dX6_append_19 hf rfl (fun hf => ?_)
    refine mg_aload_n (pc := 20) C 0 dX6_append_20 rfl rfl ?_
    refine mg_dup (pc := 21) C dX6_append_21 rfl ?_
    refine mg_get (pc := 22) C 0 rfl rfl inX6 1 (by decide) wm_254 rfl rfl dX6_append_22 ?_
    refine mg_iconst (pc := 25) C dX6_append_25 (v := 1) (by decide) ?_
    refine mg_iadd (pc := 26) C dX6_append_26 ?_
    refine mg_puti (pc := 27) C (w2 := w_X6_append k a_t a_t_characters a_t_values (v_t_length + 1) v_t_position v_t_token v_t_tokenStart v_t_number (upd v_t_characters (Int32.toNatClampNeg v_t_length) (vp_nar .char x1))) 0 rfl rfl inX6 1 (by decide) wm_254 rfl tyX6 tyX6_ok nmX6 rfl (by decide +kernel) (Nat.le_of_ble_eq_true rfl) rfl dX6_append_27 ?_
    obtain rfl := Option.some.inj hf
    exact E _ _ dX6_append_30
abbrev w_X6_cellInValues (k : mg_K) (a_t a_p1 a_p1_ballast a_p1_lubricated a_p1_pose a_p1_ground a_p1_boulders a_p1_records a_t_characters a_t_values : Nat) (v_p1_columns : Int32) (v_p1_rows : Int32) (v_p1_weight : Int32) (v_p1_stiffness : Int32) (v_p1_water : Int32) (v_t_length : Int32) (v_t_position : Int32) (v_t_token : Int32) (v_t_tokenStart : Int32) (v_t_number : Int32) (v_t_values : Nat → Int32) : va_W := [(a_p1, .inr (5, [.int v_p1_columns, .int v_p1_rows, .int v_p1_weight, .int v_p1_stiffness, .int v_p1_water, .ref a_p1_ballast, .ref a_p1_lubricated, .ref a_p1_pose, .ref a_p1_ground, .ref a_p1_boulders, .ref a_p1_records])), (a_t, .inr (6, [.ref a_t_characters, .int v_t_length, .int v_t_position, .int v_t_token, .int v_t_tokenStart, .int v_t_number, .ref a_t_values])), (a_t_values, .inl (k.2.1, 4, .inl v_t_values))]
def f_X6_cellInValues (v_p1_columns : Int32) (v_t_values : Nat → Int32) : Option (Int32) := some (((v_t_values 1) * v_p1_columns) + (v_t_values 0))
theorem Y_X6_cellInValues : mg_Y yX6_cellInValues cX6_cellInValues 2 (some .int) 1 := ⟨wm_435, wp_9, wm_10, wm_436, ⟨by decide +kernel, by decide +kernel, by decide +kernel⟩, by decide⟩
set_option maxRecDepth 100000 in
set_option maxHeartbeats 4000000 in
theorem c_X6_cellInValues (l : Launch) (k : mg_K) (a_t a_p1 a_p1_ballast a_p1_lubricated a_p1_pose a_p1_ground a_p1_boulders a_p1_records a_t_characters a_t_values : Nat) (v_p1_columns : Int32) (v_p1_rows : Int32) (v_p1_weight : Int32) (v_p1_stiffness : Int32) (v_p1_water : Int32) (v_t_length : Int32) (v_t_position : Int32) (v_t_token : Int32) (v_t_tokenStart : Int32) (v_t_number : Int32) (v_t_values : Nat → Int32) (q : Int32) (hf : f_X6_cellInValues v_p1_columns v_t_values = some q) : mg_M l yX6_cellInValues cX6_cellInValues 2 (some .int) 0 k [.ref a_t, .ref a_p1] (w_X6_cellInValues k a_t a_p1 a_p1_ballast a_p1_lubricated a_p1_pose a_p1_ground a_p1_boulders a_p1_records a_t_characters a_t_values v_p1_columns v_p1_rows v_p1_weight v_p1_stiffness v_p1_water v_t_length v_t_position v_t_token v_t_tokenStart v_t_number v_t_values) (w_X6_cellInValues k a_t a_p1 a_p1_ballast a_p1_lubricated a_p1_pose a_p1_ground a_p1_boulders a_p1_records a_t_characters a_t_values v_p1_columns v_p1_rows v_p1_weight v_p1_stiffness v_p1_water v_t_length v_t_position v_t_token v_t_tokenStart v_t_number v_t_values) (some (.int q)) := by
  refine mg_Mi RX6 [(0, .ref a_t), (1, .ref a_p1)] (by decide +kernel) rfl rfl (Nat.le_of_ble_eq_true rfl) ?_
  intro z A Q hl C E
  subst hl
  unfold f_X6_cellInValues at hf
  refine mg_aload_n (pc := 0) C 0 dX6_cellInValues_0 rfl rfl ?_
  refine mg_get (pc := 1) C 1 rfl rfl inX6 6 (by decide) wm_260 rfl rfl dX6_cellInValues_1 ?_
  refine mg_iconst (pc := 4) C dX6_cellInValues_4 (v := 1) (by decide) ?_
  refine mg_ialdK (pc := 5) C 2 1 rfl dX6_cellInValues_5 (by decide) (by decide) ?_
  refine mg_aload_n (pc := 6) C 1 dX6_cellInValues_6 rfl rfl ?_
  refine mg_get (pc := 7) C 0 rfl rfl inX5 0 (by decide) wm_136 rfl rfl dX6_cellInValues_7 ?_
  refine mg_imul (pc := 10) C dX6_cellInValues_10 ?_
  refine mg_aload_n (pc := 11) C 0 dX6_cellInValues_11 rfl rfl ?_
  refine mg_get (pc := 12) C 1 rfl rfl inX6 6 (by decide) wm_260 rfl rfl dX6_cellInValues_12 ?_
  refine mg_iconst (pc := 15) C dX6_cellInValues_15 (v := 0) (by decide) ?_
  refine mg_ialdK (pc := 16) C 2 0 rfl dX6_cellInValues_16 (by decide) (by decide) ?_
  refine mg_iadd (pc := 17) C dX6_cellInValues_17 ?_
  obtain rfl := Option.some.inj hf
  exact E _ _ dX6_cellInValues_18
abbrev w_X6_enter (k : mg_K) (a_t a_t_characters a_t_values : Nat) (b_p2 : Nat → Nat) (v_p2 : sv_T) (v_t_length : Int32) (v_t_position : Int32) (v_t_token : Int32) (v_t_tokenStart : Int32) (v_t_number : Int32) (v_t_values : Nat → Int32) : va_W := [((b_p2 0), .inr (5, [.int v_p2.1, .int v_p2.2.1, .int v_p2.2.2.1, .int v_p2.2.2.2.1, .int v_p2.2.2.2.2.1, .ref (b_p2 1), .ref (b_p2 8), .ref (b_p2 9), .ref (b_p2 5), .ref (b_p2 2), .ref (b_p2 11)])), ((b_p2 1), .inl (k.2.1, 49, .inl v_p2.2.2.2.2.2.1)), ((b_p2 2), .inr (0, [.ref (b_p2 3)])), ((b_p2 3), .inr (7, [.int 10, .ref (b_p2 4), .int v_p2.2.2.2.2.2.2.1])), ((b_p2 4), .inl (k.2.1, 30, .inl v_p2.2.2.2.2.2.2.2.1)), ((b_p2 5), .inr (2, [.ref (b_p2 6)])), ((b_p2 6), .inr (7, [.int 8, .ref (b_p2 7), .int v_p2.2.2.2.2.2.2.2.2.1])), ((b_p2 7), .inl (k.2.1, 24, .inl v_p2.2.2.2.2.2.2.2.2.2.1)), ((b_p2 8), .inl (k.2.1, 4, .inl v_p2.2.2.2.2.2.2.2.2.2.2.1)), ((b_p2 9), .inr (4, [.int v_p2.2.2.2.2.2.2.2.2.2.2.2.1, .int v_p2.2.2.2.2.2.2.2.2.2.2.2.2.1, .int v_p2.2.2.2.2.2.2.2.2.2.2.2.2.2.1, .ref (b_p2 10)])), ((b_p2 10), .inl (k.2.1, 49, .inl v_p2.2.2.2.2.2.2.2.2.2.2.2.2.2.2.1)), (a_t, .inr (6, [.ref a_t_characters, .int v_t_length, .int v_t_position, .int v_t_token, .int v_t_tokenStart, .int v_t_number, .ref a_t_values])), (a_t_values, .inl (k.2.1, 4, .inl v_t_values))]
def f_X6_enter (fuel : Nat) (v_p2 : sv_T) (v_t_values : Nat → Int32) (x1 : Int32) : Option (sv_T) := if x1 = 0 then ((f_X5_replaceCaisson fuel v_p2.2.2.2.2.2.1 v_p2.2.2.2.2.2.2.2.2.2.2.1 v_p2.2.2.2.2.2.2.2.2.2.2.2.2.2.2.1 (v_t_values 0) (v_t_values 1)).bind (fun q2 => some (q2.1, q2.2.1, v_p2.2.2.1, v_p2.2.2.2.1, v_p2.2.2.2.2.1, q2.2.2.1, q2.2.2.2.1, v_p2.2.2.2.2.2.2.2.1, v_p2.2.2.2.2.2.2.2.2.1, v_p2.2.2.2.2.2.2.2.2.2.1, q2.2.2.2.2.1, q2.2.2.2.2.2.1, q2.2.2.2.2.2.2.1, q2.2.2.2.2.2.2.2.1, q2.2.2.2.2.2.2.2.2, v_p2.2.2.2.2.2.2.2.2.2.2.2.2.2.2.2.1, v_p2.2.2.2.2.2.2.2.2.2.2.2.2.2.2.2.2))) else if x1 = 1 then (some (v_p2.1, v_p2.2.1, v_t_values 0, v_p2.2.2.2.1, v_p2.2.2.2.2.1, v_p2.2.2.2.2.2.1, v_p2.2.2.2.2.2.2.1, v_p2.2.2.2.2.2.2.2.1, v_p2.2.2.2.2.2.2.2.2.1, v_p2.2.2.2.2.2.2.2.2.2.1, v_p2.2.2.2.2.2.2.2.2.2.2.1, v_p2.2.2.2.2.2.2.2.2.2.2.2.1, v_p2.2.2.2.2.2.2.2.2.2.2.2.2.1, v_p2.2.2.2.2.2.2.2.2.2.2.2.2.2.1, v_p2.2.2.2.2.2.2.2.2.2.2.2.2.2.2.1, v_p2.2.2.2.2.2.2.2.2.2.2.2.2.2.2.2.1, v_p2.2.2.2.2.2.2.2.2.2.2.2.2.2.2.2.2)) else if x1 = 2 then (some (v_p2.1, v_p2.2.1, v_p2.2.2.1, v_p2.2.2.2.1, v_t_values 0, v_p2.2.2.2.2.2.1, v_p2.2.2.2.2.2.2.1, v_p2.2.2.2.2.2.2.2.1, v_p2.2.2.2.2.2.2.2.2.1, v_p2.2.2.2.2.2.2.2.2.2.1, v_p2.2.2.2.2.2.2.2.2.2.2.1, v_p2.2.2.2.2.2.2.2.2.2.2.2.1, v_p2.2.2.2.2.2.2.2.2.2.2.2.2.1, v_p2.2.2.2.2.2.2.2.2.2.2.2.2.2.1, v_p2.2.2.2.2.2.2.2.2.2.2.2.2.2.2.1, v_p2.2.2.2.2.2.2.2.2.2.2.2.2.2.2.2.1, v_p2.2.2.2.2.2.2.2.2.2.2.2.2.2.2.2.2)) else if x1 = 3 then (some (v_p2.1, v_p2.2.1, v_p2.2.2.1, v_t_values 0, v_p2.2.2.2.2.1, v_p2.2.2.2.2.2.1, v_p2.2.2.2.2.2.2.1, v_p2.2.2.2.2.2.2.2.1, v_p2.2.2.2.2.2.2.2.2.1, v_p2.2.2.2.2.2.2.2.2.2.1, v_p2.2.2.2.2.2.2.2.2.2.2.1, v_p2.2.2.2.2.2.2.2.2.2.2.2.1, v_p2.2.2.2.2.2.2.2.2.2.2.2.2.1, v_p2.2.2.2.2.2.2.2.2.2.2.2.2.2.1, v_p2.2.2.2.2.2.2.2.2.2.2.2.2.2.2.1, v_p2.2.2.2.2.2.2.2.2.2.2.2.2.2.2.2.1, v_p2.2.2.2.2.2.2.2.2.2.2.2.2.2.2.2.2)) else if x1 = 4 then ((f_X2_addBelow v_p2.2.2.2.2.2.2.2.2.1 v_p2.2.2.2.2.2.2.2.2.2.1 (v_t_values 0) (v_t_values 1) (v_t_values 2)).bind (fun q8 => some (v_p2.1, v_p2.2.1, v_p2.2.2.1, v_p2.2.2.2.1, v_p2.2.2.2.2.1, v_p2.2.2.2.2.2.1, v_p2.2.2.2.2.2.2.1, v_p2.2.2.2.2.2.2.2.1, q8.1, q8.2, v_p2.2.2.2.2.2.2.2.2.2.2.1, v_p2.2.2.2.2.2.2.2.2.2.2.2.1, v_p2.2.2.2.2.2.2.2.2.2.2.2.2.1, v_p2.2.2.2.2.2.2.2.2.2.2.2.2.2.1, v_p2.2.2.2.2.2.2.2.2.2.2.2.2.2.2.1, v_p2.2.2.2.2.2.2.2.2.2.2.2.2.2.2.2.1, v_p2.2.2.2.2.2.2.2.2.2.2.2.2.2.2.2.2))) else ((f_X6_cellInValues v_p2.1 v_t_values).bind (fun q10 => (f_X0_place fuel v_p2.2.2.2.2.2.2.1 v_p2.2.2.2.2.2.2.2.1 q10 (v_t_values 2) (v_t_values 3)).bind (fun q12 => some (v_p2.1, v_p2.2.1, v_p2.2.2.1, v_p2.2.2.2.1, v_p2.2.2.2.2.1, v_p2.2.2.2.2.2.1, q12.2.1, q12.2.2, v_p2.2.2.2.2.2.2.2.2.1, v_p2.2.2.2.2.2.2.2.2.2.1, v_p2.2.2.2.2.2.2.2.2.2.2.1, v_p2.2.2.2.2.2.2.2.2.2.2.2.1, v_p2.2.2.2.2.2.2.2.2.2.2.2.2.1, v_p2.2.2.2.2.2.2.2.2.2.2.2.2.2.1, v_p2.2.2.2.2.2.2.2.2.2.2.2.2.2.2.1, v_p2.2.2.2.2.2.2.2.2.2.2.2.2.2.2.2.1, v_p2.2.2.2.2.2.2.2.2.2.2.2.2.2.2.2.2))))
theorem Y_X6_enter : mg_Y yX6_enter cX6_enter 3 none 2 := ⟨wm_452, wp_11, wm_10, wm_453, ⟨by decide +kernel, by decide +kernel, by decide +kernel⟩, by decide⟩
set_option maxRecDepth 100000 in
set_option maxHeartbeats 4000000 in
theorem c_X6_enter (l : Launch) (k : mg_K) (a_t a_t_characters a_t_values : Nat) (b_p2 : Nat → Nat) (v_p2 : sv_T) (v_t_length : Int32) (v_t_position : Int32) (v_t_token : Int32) (v_t_tokenStart : Int32) (v_t_number : Int32) (v_t_values : Nat → Int32) (fuel : Nat) (x1 : Int32) (q : sv_T) (hf : f_X6_enter fuel v_p2 v_t_values x1 = some q) : mg_M l yX6_enter cX6_enter 3 none 3 k [.ref a_t, .int x1, .ref (b_p2 0)] (w_X6_enter k a_t a_t_characters a_t_values b_p2 v_p2 v_t_length v_t_position v_t_token v_t_tokenStart v_t_number v_t_values) (w_X6_enter k a_t a_t_characters a_t_values b_p2 (q.1, q.2.1, q.2.2.1, q.2.2.2.1, q.2.2.2.2.1, q.2.2.2.2.2.1, q.2.2.2.2.2.2.1, q.2.2.2.2.2.2.2.1, q.2.2.2.2.2.2.2.2.1, q.2.2.2.2.2.2.2.2.2.1, q.2.2.2.2.2.2.2.2.2.2.1, q.2.2.2.2.2.2.2.2.2.2.2.1, q.2.2.2.2.2.2.2.2.2.2.2.2.1, q.2.2.2.2.2.2.2.2.2.2.2.2.2.1, q.2.2.2.2.2.2.2.2.2.2.2.2.2.2.1, v_p2.2.2.2.2.2.2.2.2.2.2.2.2.2.2.2.1, v_p2.2.2.2.2.2.2.2.2.2.2.2.2.2.2.2.2) v_t_length v_t_position v_t_token v_t_tokenStart v_t_number v_t_values) none := by
  refine mg_Mv RX6 [(0, .ref a_t), (1, .int x1), (2, .ref (b_p2 0))] (by decide +kernel) rfl rfl (Nat.le_of_ble_eq_true rfl) ?_
  intro z A Q hl C E
  subst hl
  unfold f_X6_enter at hf
  refine mg_iload_n (pc := 0) C 1 dX6_enter_0 rfl rfl ?_
  refine mg_cs hf (fun e1 hf => ?_) (fun e1 hf => ?_)
  · refine mg_tableIn (pc := 1) (off := 35) (tgt := 36) C 0 e1 dX6_enter_1 (by decide) (by decide) (by decide) (by decide) ?_
    refine mg_aload_n (pc := 36) C 2 dX6_enter_36 rfl rfl ?_
    refine mg_aload_n (pc := 37) C 0 dX6_enter_37 rfl rfl ?_
    refine mg_get (pc := 38) C 11 rfl rfl inX6 6 (by decide) wm_260 rfl rfl dX6_enter_38 ?_
    refine mg_iconst (pc := 41) C dX6_enter_41 (v := 0) (by decide) ?_
    refine mg_ialdK (pc := 42) C 12 0 rfl dX6_enter_42 (by decide) (by decide) ?_
    refine mg_aload_n (pc := 43) C 0 dX6_enter_43 rfl rfl ?_
    refine mg_get (pc := 44) C 11 rfl rfl inX6 6 (by decide) wm_260 rfl rfl dX6_enter_44 ?_
    refine mg_iconst (pc := 47) C dX6_enter_47 (v := 1) (by decide) ?_
    refine mg_ialdK (pc := 48) C 12 1 rfl dX6_enter_48 (by decide) (by decide) ?_
    obtain ⟨q2, h3, hf⟩ := mg_b hf
    refine mg_callV (pc := 49) C (w2 := w_X6_enter k a_t a_t_characters a_t_values b_p2 (q2.1, q2.2.1, v_p2.2.2.1, v_p2.2.2.2.1, v_p2.2.2.2.2.1, q2.2.2.1, q2.2.2.2.1, v_p2.2.2.2.2.2.2.2.1, v_p2.2.2.2.2.2.2.2.2.1, v_p2.2.2.2.2.2.2.2.2.2.1, q2.2.2.2.2.1, q2.2.2.2.2.2.1, q2.2.2.2.2.2.2.1, q2.2.2.2.2.2.2.2.1, q2.2.2.2.2.2.2.2.2, v_p2.2.2.2.2.2.2.2.2.2.2.2.2.2.2.2.1, v_p2.2.2.2.2.2.2.2.2.2.2.2.2.2.2.2.2) v_t_length v_t_position v_t_token v_t_tokenStart v_t_number v_t_values) (c_X5_replaceCaisson z.2.1 k (b_p2 0) (b_p2 1) (b_p2 8) (b_p2 9) (b_p2 5) (b_p2 2) (b_p2 11) (b_p2 3) (b_p2 4) (b_p2 10) v_p2.1 v_p2.2.1 v_p2.2.2.1 v_p2.2.2.2.1 v_p2.2.2.2.2.1 v_p2.2.2.2.2.2.1 v_p2.2.2.2.2.2.2.1 v_p2.2.2.2.2.2.2.2.2.2.2.1 v_p2.2.2.2.2.2.2.2.2.2.2.2.1 v_p2.2.2.2.2.2.2.2.2.2.2.2.2.1 v_p2.2.2.2.2.2.2.2.2.2.2.2.2.2.1 v_p2.2.2.2.2.2.2.2.2.2.2.2.2.2.2.1 fuel (v_t_values 0) (v_t_values 1) q2 h3) Y_X5_replaceCaisson wm_454 (by decide) rfl 0 rfl rfl rfl [0, 1, 2, 3, 8, 9, 10] rfl (by decide) rfl [some 0, some 1, some 2, some 3, none, none, none, none, some 4, some 5, some 6, none, none] (by decide) rfl (Nat.le_of_ble_eq_true rfl) rfl dX6_enter_49 ?_
    refine mg_goto (pc := 52) (tgt := 147) C dX6_enter_52 (by decide) ?_
    obtain rfl := Option.some.inj hf
    exact E _ _ dX6_enter_147
  refine mg_cs hf (fun e4 hf => ?_) (fun e4 hf => ?_)
  · refine mg_tableIn (pc := 1) (off := 54) (tgt := 55) C 1 e4 dX6_enter_1 (by decide) (by decide) (by decide) (by decide) ?_
    refine mg_aload_n (pc := 55) C 2 dX6_enter_55 rfl rfl ?_
    refine mg_aload_n (pc := 56) C 0 dX6_enter_56 rfl rfl ?_
    refine mg_get (pc := 57) C 11 rfl rfl inX6 6 (by decide) wm_260 rfl rfl dX6_enter_57 ?_
    refine mg_iconst (pc := 60) C dX6_enter_60 (v := 0) (by decide) ?_
    refine mg_ialdK (pc := 61) C 12 0 rfl dX6_enter_61 (by decide) (by decide) ?_
    refine mg_puti (pc := 62) C (w2 := w_X6_enter k a_t a_t_characters a_t_values b_p2 (v_p2.1, v_p2.2.1, v_t_values 0, v_p2.2.2.2.1, v_p2.2.2.2.2.1, v_p2.2.2.2.2.2.1, v_p2.2.2.2.2.2.2.1, v_p2.2.2.2.2.2.2.2.1, v_p2.2.2.2.2.2.2.2.2.1, v_p2.2.2.2.2.2.2.2.2.2.1, v_p2.2.2.2.2.2.2.2.2.2.2.1, v_p2.2.2.2.2.2.2.2.2.2.2.2.1, v_p2.2.2.2.2.2.2.2.2.2.2.2.2.1, v_p2.2.2.2.2.2.2.2.2.2.2.2.2.2.1, v_p2.2.2.2.2.2.2.2.2.2.2.2.2.2.2.1, v_p2.2.2.2.2.2.2.2.2.2.2.2.2.2.2.2.1, v_p2.2.2.2.2.2.2.2.2.2.2.2.2.2.2.2.2) v_t_length v_t_position v_t_token v_t_tokenStart v_t_number v_t_values) 0 rfl rfl inX5 2 (by decide) wm_145 rfl tyX5 tyX5_ok nmX5 rfl (by decide +kernel) (Nat.le_of_ble_eq_true rfl) rfl dX6_enter_62 ?_
    refine mg_goto (pc := 65) (tgt := 147) C dX6_enter_65 (by decide) ?_
    obtain rfl := Option.some.inj hf
    exact E _ _ dX6_enter_147
  refine mg_cs hf (fun e5 hf => ?_) (fun e5 hf => ?_)
  · refine mg_tableIn (pc := 1) (off := 67) (tgt := 68) C 2 e5 dX6_enter_1 (by decide) (by decide) (by decide) (by decide) ?_
    refine mg_aload_n (pc := 68) C 2 dX6_enter_68 rfl rfl ?_
    refine mg_aload_n (pc := 69) C 0 dX6_enter_69 rfl rfl ?_
    refine mg_get (pc := 70) C 11 rfl rfl inX6 6 (by decide) wm_260 rfl rfl dX6_enter_70 ?_
    refine mg_iconst (pc := 73) C dX6_enter_73 (v := 0) (by decide) ?_
    refine mg_ialdK (pc := 74) C 12 0 rfl dX6_enter_74 (by decide) (by decide) ?_
    refine mg_puti (pc := 75) C (w2 := w_X6_enter k a_t a_t_characters a_t_values b_p2 (v_p2.1, v_p2.2.1, v_p2.2.2.1, v_p2.2.2.2.1, v_t_values 0, v_p2.2.2.2.2.2.1, v_p2.2.2.2.2.2.2.1, v_p2.2.2.2.2.2.2.2.1, v_p2.2.2.2.2.2.2.2.2.1, v_p2.2.2.2.2.2.2.2.2.2.1, v_p2.2.2.2.2.2.2.2.2.2.2.1, v_p2.2.2.2.2.2.2.2.2.2.2.2.1, v_p2.2.2.2.2.2.2.2.2.2.2.2.2.1, v_p2.2.2.2.2.2.2.2.2.2.2.2.2.2.1, v_p2.2.2.2.2.2.2.2.2.2.2.2.2.2.2.1, v_p2.2.2.2.2.2.2.2.2.2.2.2.2.2.2.2.1, v_p2.2.2.2.2.2.2.2.2.2.2.2.2.2.2.2.2) v_t_length v_t_position v_t_token v_t_tokenStart v_t_number v_t_values) 0 rfl rfl inX5 4 (by decide) wm_152 rfl tyX5 tyX5_ok nmX5 rfl (by decide +kernel) (Nat.le_of_ble_eq_true rfl) rfl dX6_enter_75 ?_
    refine mg_goto (pc := 78) (tgt := 147) C dX6_enter_78 (by decide) ?_
    obtain rfl := Option.some.inj hf
    exact E _ _ dX6_enter_147
  refine mg_cs hf (fun e6 hf => ?_) (fun e6 hf => ?_)
  · refine mg_tableIn (pc := 1) (off := 80) (tgt := 81) C 3 e6 dX6_enter_1 (by decide) (by decide) (by decide) (by decide) ?_
    refine mg_aload_n (pc := 81) C 2 dX6_enter_81 rfl rfl ?_
    refine mg_aload_n (pc := 82) C 0 dX6_enter_82 rfl rfl ?_
    refine mg_get (pc := 83) C 11 rfl rfl inX6 6 (by decide) wm_260 rfl rfl dX6_enter_83 ?_
    refine mg_iconst (pc := 86) C dX6_enter_86 (v := 0) (by decide) ?_
    refine mg_ialdK (pc := 87) C 12 0 rfl dX6_enter_87 (by decide) (by decide) ?_
    refine mg_puti (pc := 88) C (w2 := w_X6_enter k a_t a_t_characters a_t_values b_p2 (v_p2.1, v_p2.2.1, v_p2.2.2.1, v_t_values 0, v_p2.2.2.2.2.1, v_p2.2.2.2.2.2.1, v_p2.2.2.2.2.2.2.1, v_p2.2.2.2.2.2.2.2.1, v_p2.2.2.2.2.2.2.2.2.1, v_p2.2.2.2.2.2.2.2.2.2.1, v_p2.2.2.2.2.2.2.2.2.2.2.1, v_p2.2.2.2.2.2.2.2.2.2.2.2.1, v_p2.2.2.2.2.2.2.2.2.2.2.2.2.1, v_p2.2.2.2.2.2.2.2.2.2.2.2.2.2.1, v_p2.2.2.2.2.2.2.2.2.2.2.2.2.2.2.1, v_p2.2.2.2.2.2.2.2.2.2.2.2.2.2.2.2.1, v_p2.2.2.2.2.2.2.2.2.2.2.2.2.2.2.2.2) v_t_length v_t_position v_t_token v_t_tokenStart v_t_number v_t_values) 0 rfl rfl inX5 3 (by decide) wm_149 rfl tyX5 tyX5_ok nmX5 rfl (by decide +kernel) (Nat.le_of_ble_eq_true rfl) rfl dX6_enter_88 ?_
    refine mg_goto (pc := 91) (tgt := 147) C dX6_enter_91 (by decide) ?_
    obtain rfl := Option.some.inj hf
    exact E _ _ dX6_enter_147
  refine mg_cs hf (fun e7 hf => ?_) (fun e7 hf => ?_)
  · refine mg_tableIn (pc := 1) (off := 93) (tgt := 94) C 4 e7 dX6_enter_1 (by decide) (by decide) (by decide) (by decide) ?_
    refine mg_aload_n (pc := 94) C 2 dX6_enter_94 rfl rfl ?_
    refine mg_get (pc := 95) C 0 rfl rfl inX5 8 (by decide) wm_162 rfl rfl dX6_enter_95 ?_
    refine mg_aload_n (pc := 98) C 0 dX6_enter_98 rfl rfl ?_
    refine mg_get (pc := 99) C 11 rfl rfl inX6 6 (by decide) wm_260 rfl rfl dX6_enter_99 ?_
    refine mg_iconst (pc := 102) C dX6_enter_102 (v := 0) (by decide) ?_
    refine mg_ialdK (pc := 103) C 12 0 rfl dX6_enter_103 (by decide) (by decide) ?_
    refine mg_aload_n (pc := 104) C 0 dX6_enter_104 rfl rfl ?_
    refine mg_get (pc := 105) C 11 rfl rfl inX6 6 (by decide) wm_260 rfl rfl dX6_enter_105 ?_
    refine mg_iconst (pc := 108) C dX6_enter_108 (v := 1) (by decide) ?_
    refine mg_ialdK (pc := 109) C 12 1 rfl dX6_enter_109 (by decide) (by decide) ?_
    refine mg_aload_n (pc := 110) C 0 dX6_enter_110 rfl rfl ?_
    refine mg_get (pc := 111) C 11 rfl rfl inX6 6 (by decide) wm_260 rfl rfl dX6_enter_111 ?_
    refine mg_iconst (pc := 114) C dX6_enter_114 (v := 2) (by decide) ?_
    refine mg_ialdK (pc := 115) C 12 2 rfl dX6_enter_115 (by decide) (by decide) ?_
    obtain ⟨q8, h9, hf⟩ := mg_b hf
    refine mg_callV (pc := 116) C (w2 := w_X6_enter k a_t a_t_characters a_t_values b_p2 (v_p2.1, v_p2.2.1, v_p2.2.2.1, v_p2.2.2.2.1, v_p2.2.2.2.2.1, v_p2.2.2.2.2.2.1, v_p2.2.2.2.2.2.2.1, v_p2.2.2.2.2.2.2.2.1, q8.1, q8.2, v_p2.2.2.2.2.2.2.2.2.2.2.1, v_p2.2.2.2.2.2.2.2.2.2.2.2.1, v_p2.2.2.2.2.2.2.2.2.2.2.2.2.1, v_p2.2.2.2.2.2.2.2.2.2.2.2.2.2.1, v_p2.2.2.2.2.2.2.2.2.2.2.2.2.2.2.1, v_p2.2.2.2.2.2.2.2.2.2.2.2.2.2.2.2.1, v_p2.2.2.2.2.2.2.2.2.2.2.2.2.2.2.2.2) v_t_length v_t_position v_t_token v_t_tokenStart v_t_number v_t_values) (c_X2_addBelow z.2.1 k (b_p2 5) (b_p2 6) (b_p2 7) v_p2.2.2.2.2.2.2.2.2.1 v_p2.2.2.2.2.2.2.2.2.2.1 (v_t_values 0) (v_t_values 1) (v_t_values 2) q8 h9) Y_X2_addBelow wm_455 (by decide) rfl 5 rfl rfl rfl [5, 6, 7] rfl (by decide) rfl [none, none, none, none, none, some 0, some 1, some 2, none, none, none, none, none] (by decide) rfl (Nat.le_of_ble_eq_true rfl) rfl dX6_enter_116 ?_
    refine mg_goto (pc := 119) (tgt := 147) C dX6_enter_119 (by decide) ?_
    obtain rfl := Option.some.inj hf
    exact E _ _ dX6_enter_147
  refine mg_tableOut (pc := 1) (tgt := 122) C dX6_enter_1 (by have e1_ := mg_ne e1 (i := 0) (by decide); have e4_ := mg_ne e4 (i := 1) (by decide); have e5_ := mg_ne e5 (i := 2) (by decide); have e6_ := mg_ne e6 (i := 3) (by decide); have e7_ := mg_ne e7 (i := 4) (by decide); omega) (by decide) ?_
  refine mg_aload_n (pc := 122) C 2 dX6_enter_122 rfl rfl ?_
  refine mg_get (pc := 123) C 0 rfl rfl inX5 9 (by decide) wm_166 rfl rfl dX6_enter_123 ?_
  refine mg_aload_n (pc := 126) C 0 dX6_enter_126 rfl rfl ?_
  refine mg_aload_n (pc := 127) C 2 dX6_enter_127 rfl rfl ?_
  obtain ⟨q10, h11, hf⟩ := mg_b hf
  refine mg_callV (pc := 128) C (w2 := w_X6_enter k a_t a_t_characters a_t_values b_p2 v_p2 v_t_length v_t_position v_t_token v_t_tokenStart v_t_number v_t_values) (c_X6_cellInValues z.2.1 k a_t (b_p2 0) (b_p2 1) (b_p2 8) (b_p2 9) (b_p2 5) (b_p2 2) (b_p2 11) a_t_characters a_t_values v_p2.1 v_p2.2.1 v_p2.2.2.1 v_p2.2.2.2.1 v_p2.2.2.2.2.1 v_t_length v_t_position v_t_token v_t_tokenStart v_t_number v_t_values q10 h11) Y_X6_cellInValues wm_433 (by decide) rfl 11 rfl rfl rfl [0, 11, 12] rfl (by decide) rfl [some 0, none, none, none, none, none, none, none, none, none, none, some 1, some 2] (by decide) rfl (Nat.le_of_ble_eq_true rfl) rfl dX6_enter_128 ?_
  refine mg_aload_n (pc := 131) C 0 dX6_enter_131 rfl rfl ?_
  refine mg_get (pc := 132) C 11 rfl rfl inX6 6 (by decide) wm_260 rfl rfl dX6_enter_132 ?_
  refine mg_iconst (pc := 135) C dX6_enter_135 (v := 2) (by decide) ?_
  refine mg_ialdK (pc := 136) C 12 2 rfl dX6_enter_136 (by decide) (by decide) ?_
  refine mg_aload_n (pc := 137) C 0 dX6_enter_137 rfl rfl ?_
  refine mg_get (pc := 138) C 11 rfl rfl inX6 6 (by decide) wm_260 rfl rfl dX6_enter_138 ?_
  refine mg_iconst (pc := 141) C dX6_enter_141 (v := 3) (by decide) ?_
  refine mg_ialdK (pc := 142) C 12 3 rfl dX6_enter_142 (by decide) (by decide) ?_
  obtain ⟨q12, h13, hf⟩ := mg_b hf
  refine mg_callV (pc := 143) C (w2 := w_X6_enter k a_t a_t_characters a_t_values b_p2 (v_p2.1, v_p2.2.1, v_p2.2.2.1, v_p2.2.2.2.1, v_p2.2.2.2.2.1, v_p2.2.2.2.2.2.1, q12.2.1, q12.2.2, v_p2.2.2.2.2.2.2.2.2.1, v_p2.2.2.2.2.2.2.2.2.2.1, v_p2.2.2.2.2.2.2.2.2.2.2.1, v_p2.2.2.2.2.2.2.2.2.2.2.2.1, v_p2.2.2.2.2.2.2.2.2.2.2.2.2.1, v_p2.2.2.2.2.2.2.2.2.2.2.2.2.2.1, v_p2.2.2.2.2.2.2.2.2.2.2.2.2.2.2.1, v_p2.2.2.2.2.2.2.2.2.2.2.2.2.2.2.2.1, v_p2.2.2.2.2.2.2.2.2.2.2.2.2.2.2.2.2) v_t_length v_t_position v_t_token v_t_tokenStart v_t_number v_t_values) (c_X0_place z.2.1 k (b_p2 2) (b_p2 3) (b_p2 4) v_p2.2.2.2.2.2.2.1 v_p2.2.2.2.2.2.2.2.1 fuel q10 (v_t_values 2) (v_t_values 3) q12 h13) Y_X0_place wm_470 (by decide) rfl 2 rfl rfl rfl [2, 3, 4] rfl (by decide) rfl [none, none, some 0, some 1, some 2, none, none, none, none, none, none, none, none] (by decide) rfl (Nat.le_of_ble_eq_true rfl) rfl dX6_enter_143 ?_
  refine mg_pop (pc := 146) C dX6_enter_146 rfl ?_
  obtain rfl := Option.some.inj hf
  exact E _ _ dX6_enter_147
abbrev w_X6_isWord (k : mg_K) (a_t a_t_characters a_t_values : Nat) (v_t_length : Int32) (v_t_position : Int32) (v_t_token : Int32) (v_t_tokenStart : Int32) (v_t_number : Int32) (v_t_characters : Nat → Int32) : va_W := [(a_t, .inr (6, [.ref a_t_characters, .int v_t_length, .int v_t_position, .int v_t_token, .int v_t_tokenStart, .int v_t_number, .ref a_t_values])), (a_t_characters, .inl (k.2.2.1, 200, .inl v_t_characters))]
def f_X6_isWord_L28 (v_t_tokenStart : Int32) (v_t_characters : Nat → Int32) (s1 : Nat) : Nat → Int32 → Option (Nat × Int32)
  | 0, _ => none
  | n_ + 1, x2 => if (Int32.ofNat (mg_sl.getD s1 0)) ≤ x2 then (some (0, x2)) else (if mg_ix (v_t_tokenStart + x2) 200 = true then (if mg_ix x2 (mg_sl.getD s1 0) = true then (if (v_t_characters (Int32.toNatClampNeg (v_t_tokenStart + x2))) = (mg_ch s1 x2) then (f_X6_isWord_L28 v_t_tokenStart v_t_characters s1 n_ (x2 + 1)) else (some (1, x2))) else none) else none)
def f_X6_isWord (fuel : Nat) (v_t_position : Int32) (v_t_token : Int32) (v_t_tokenStart : Int32) (v_t_characters : Nat → Int32) (s1 : Nat) : Option (Int32) := if v_t_token = 1 then (if (v_t_position - v_t_tokenStart) = (Int32.ofNat (mg_sl.getD s1 0)) then ((f_X6_isWord_L28 v_t_tokenStart v_t_characters s1 fuel 0).bind (fun q2 => if q2.1 = 0 then (some 1) else (some 0))) else (some 0)) else (some 0)
theorem Y_X6_isWord : mg_Y yX6_isWord cX6_isWord 3 (some .boolean) 1 := ⟨wm_353, wp_3, wm_10, wm_354, ⟨by decide +kernel, by decide +kernel, by decide +kernel⟩, by decide⟩
set_option maxRecDepth 100000 in
set_option maxHeartbeats 4000000 in
theorem c_X6_isWord (l : Launch) (k : mg_K) (a_t a_t_characters a_t_values : Nat) (v_t_length : Int32) (v_t_position : Int32) (v_t_token : Int32) (v_t_tokenStart : Int32) (v_t_number : Int32) (v_t_characters : Nat → Int32) (fuel : Nat) (s1 : Nat) (hs1 : s1 < 6) (q : Int32) (hf : f_X6_isWord fuel v_t_position v_t_token v_t_tokenStart v_t_characters s1 = some q) : mg_M l yX6_isWord cX6_isWord 3 (some .boolean) 4 k [.ref a_t, .ref (k.2.2.2.2.1 s1)] (w_X6_isWord k a_t a_t_characters a_t_values v_t_length v_t_position v_t_token v_t_tokenStart v_t_number v_t_characters) (w_X6_isWord k a_t a_t_characters a_t_values v_t_length v_t_position v_t_token v_t_tokenStart v_t_number v_t_characters) (some (.int q)) := by
  refine mg_Mz RX6 [(0, .ref a_t), (1, .ref (k.2.2.2.2.1 s1))] (by decide +kernel) rfl rfl (Nat.le_of_ble_eq_true rfl) ?_
  intro z A Q hl C E
  subst hl
  unfold f_X6_isWord at hf
  have L28 : ∀ (n_ : Nat) (x2 : Int32) (q_ : Nat × Int32), f_X6_isWord_L28 v_t_tokenStart v_t_characters s1 n_ x2 = some q_ → (q_.1 = 0 → mg z k A 3 0 0 Q (w_X6_isWord k a_t a_t_characters a_t_values v_t_length v_t_position v_t_token v_t_tokenStart v_t_number v_t_characters) [] 63 []) → (q_.1 = 1 → mg z k A 3 0 0 Q (w_X6_isWord k a_t a_t_characters a_t_values v_t_length v_t_position v_t_token v_t_tokenStart v_t_number v_t_characters) [] 55 []) → mg z k A 3 0 0 Q (w_X6_isWord k a_t a_t_characters a_t_values v_t_length v_t_position v_t_token v_t_tokenStart v_t_number v_t_characters) [(0, .ref a_t), (1, .ref (k.2.2.2.2.1 s1)), (2, .int x2)] 28 [] := by
    intro n_
    induction n_ with
    | zero => intro x2 q_ hf; exact mg_no (show none = some q_ from hf)
    | succ n_ ih =>
      intro x2 q_ hf X0 X1
      rw [f_X6_isWord_L28] at hf
      refine mg_iload_n (pc := 28) C 2 dX6_isWord_28 rfl rfl ?_
      refine mg_aload_n (pc := 29) C 1 dX6_isWord_29 rfl rfl ?_
      refine mg_callVS (pc := 30) C (c_J0_length z.2.1 k s1 hs1) hs1 Y_J0_length_8abf5 wm_355 (by decide) rfl rfl (Nat.le_of_ble_eq_true rfl) rfl dX6_isWord_30 ?_
      refine mg_icmp_ge (pc := 33) (tgt := 63) C dX6_isWord_33 (by decide) hf (fun hf => ?_) (fun hf => ?_)
      · obtain rfl := Option.some.inj hf
        refine mg_lv [] rfl ?_
        exact (X0 rfl)
      · refine mg_aload_n (pc := 36) C 0 dX6_isWord_36 rfl rfl ?_
        refine mg_get (pc := 37) C 0 rfl rfl inX6 0 (by decide) wm_253 rfl rfl dX6_isWord_37 ?_
        refine mg_aload_n (pc := 40) C 0 dX6_isWord_40 rfl rfl ?_
        refine mg_get (pc := 41) C 0 rfl rfl inX6 4 (by decide) wm_258 rfl rfl dX6_isWord_41 ?_
        refine mg_iload_n (pc := 44) C 2 dX6_isWord_44 rfl rfl ?_
        refine mg_iadd (pc := 45) C dX6_isWord_45 ?_
        refine mg_cald (pc := 46) C 1 rfl dX6_isWord_46 hf (fun hf => ?_)
        refine mg_aload_n (pc := 47) C 1 dX6_isWord_47 rfl rfl ?_
        refine mg_iload_n (pc := 48) C 2 dX6_isWord_48 rfl rfl ?_
        obtain ⟨d1, hf⟩ := mg_ck hf
        refine mg_callVS (pc := 49) C (c_J0_charAt z.2.1 k s1 hs1 x2 d1) hs1 Y_J0_charAt_5068e wm_365 (by decide) rfl rfl (Nat.le_of_ble_eq_true rfl) rfl dX6_isWord_49 ?_
        refine mg_icmp_eq (pc := 52) (tgt := 57) C dX6_isWord_52 (by decide) hf (fun hf => ?_) (fun hf => ?_)
        · refine mg_iinc (pc := 57) C (c := 1) (lv' := [(2, .int (x2 + 1)), (0, .ref a_t), (1, .ref (k.2.2.2.2.1 s1))]) 2 dX6_isWord_57 rfl (by decide) (by decide) rfl ?_
          refine mg_goto (pc := 60) (tgt := 28) C dX6_isWord_60 (by decide) ?_
          refine mg_lv [1, 2, 0] rfl ?_
          exact ih (x2 + 1) _ hf X0 X1
        · obtain rfl := Option.some.inj hf
          refine mg_lv [] rfl ?_
          exact (X1 rfl)
  refine mg_aload_n (pc := 0) C 0 dX6_isWord_0 rfl rfl ?_
  refine mg_get (pc := 1) C 0 rfl rfl inX6 3 (by decide) wm_257 rfl rfl dX6_isWord_1 ?_
  refine mg_iconst (pc := 4) C dX6_isWord_4 (v := 1) (by decide) ?_
  refine mg_icmp_ne (pc := 5) (tgt := 24) C dX6_isWord_5 (by decide) hf (fun hf => ?_) (fun hf => ?_)
  · refine mg_iconst (pc := 24) C dX6_isWord_24 (v := 0) (by decide) ?_
    obtain rfl := Option.some.inj hf
    exact E mg_n0 _ _ dX6_isWord_25
  · refine mg_aload_n (pc := 8) C 0 dX6_isWord_8 rfl rfl ?_
    refine mg_get (pc := 9) C 0 rfl rfl inX6 2 (by decide) wm_256 rfl rfl dX6_isWord_9 ?_
    refine mg_aload_n (pc := 12) C 0 dX6_isWord_12 rfl rfl ?_
    refine mg_get (pc := 13) C 0 rfl rfl inX6 4 (by decide) wm_258 rfl rfl dX6_isWord_13 ?_
    refine mg_isub (pc := 16) C dX6_isWord_16 ?_
    refine mg_aload_n (pc := 17) C 1 dX6_isWord_17 rfl rfl ?_
    refine mg_callVS (pc := 18) C (c_J0_length z.2.1 k s1 hs1) hs1 Y_J0_length_8abf5 wm_355 (by decide) rfl rfl (Nat.le_of_ble_eq_true rfl) rfl dX6_isWord_18 ?_
    refine mg_icmp_eq (pc := 21) (tgt := 26) C dX6_isWord_21 (by decide) hf (fun hf => ?_) (fun hf => ?_)
    · refine mg_iconst (pc := 26) C dX6_isWord_26 (v := 0) (by decide) ?_
      refine mg_istore_n (pc := 27) C (lv' := [(2, .int 0), (0, .ref a_t), (1, .ref (k.2.2.2.2.1 s1))]) dX6_isWord_27 rfl (by decide) rfl ?_
      obtain ⟨q2, h3, hf⟩ := mg_b hf
      refine mg_lv [1, 2, 0] rfl ?_
      refine L28  fuel 0 q2 h3 (fun e4 => ?_) (fun e5 => ?_)
      · have hf := mg_t e4 hf
        refine mg_iconst (pc := 63) C dX6_isWord_63 (v := 1) (by decide) ?_
        obtain rfl := Option.some.inj hf
        exact E mg_n1 _ _ dX6_isWord_64
      · have hf := mg_f (by rw [e5]; decide) hf
        refine mg_iconst (pc := 55) C dX6_isWord_55 (v := 0) (by decide) ?_
        obtain rfl := Option.some.inj hf
        exact E mg_n0 _ _ dX6_isWord_56
    · refine mg_iconst (pc := 24) C dX6_isWord_24 (v := 0) (by decide) ?_
      obtain rfl := Option.some.inj hf
      exact E mg_n0 _ _ dX6_isWord_25
abbrev w_X6_kindOfItem (k : mg_K) (a_t a_t_characters a_t_values : Nat) (v_t_length : Int32) (v_t_position : Int32) (v_t_token : Int32) (v_t_tokenStart : Int32) (v_t_number : Int32) (v_t_characters : Nat → Int32) : va_W := [(a_t, .inr (6, [.ref a_t_characters, .int v_t_length, .int v_t_position, .int v_t_token, .int v_t_tokenStart, .int v_t_number, .ref a_t_values])), (a_t_characters, .inl (k.2.2.1, 200, .inl v_t_characters))]
def f_X6_kindOfItem (fuel : Nat) (v_t_position : Int32) (v_t_token : Int32) (v_t_tokenStart : Int32) (v_t_characters : Nat → Int32) : Option (Int32) := (f_X6_isWord fuel v_t_position v_t_token v_t_tokenStart v_t_characters 0).bind (fun q1 => if q1 = 0 then ((f_X6_isWord fuel v_t_position v_t_token v_t_tokenStart v_t_characters 1).bind (fun q3 => if q3 = 0 then ((f_X6_isWord fuel v_t_position v_t_token v_t_tokenStart v_t_characters 2).bind (fun q5 => if q5 = 0 then ((f_X6_isWord fuel v_t_position v_t_token v_t_tokenStart v_t_characters 3).bind (fun q7 => if q7 = 0 then ((f_X6_isWord fuel v_t_position v_t_token v_t_tokenStart v_t_characters 4).bind (fun q9 => if q9 = 0 then ((f_X6_isWord fuel v_t_position v_t_token v_t_tokenStart v_t_characters 5).bind (fun q11 => if q11 = 0 then (some (-1)) else (some 5))) else (some 4))) else (some 3))) else (some 2))) else (some 1))) else (some 0))
theorem Y_X6_kindOfItem : mg_Y yX6_kindOfItem cX6_kindOfItem 1 (some .int) 0 := ⟨wm_348, wp_2, wm_10, wm_349, ⟨by decide +kernel, by decide +kernel, by decide +kernel⟩, by decide⟩
set_option maxRecDepth 100000 in
set_option maxHeartbeats 4000000 in
theorem c_X6_kindOfItem (l : Launch) (k : mg_K) (a_t a_t_characters a_t_values : Nat) (v_t_length : Int32) (v_t_position : Int32) (v_t_token : Int32) (v_t_tokenStart : Int32) (v_t_number : Int32) (v_t_characters : Nat → Int32) (fuel : Nat) (q : Int32) (hf : f_X6_kindOfItem fuel v_t_position v_t_token v_t_tokenStart v_t_characters = some q) : mg_M l yX6_kindOfItem cX6_kindOfItem 1 (some .int) 5 k [.ref a_t] (w_X6_kindOfItem k a_t a_t_characters a_t_values v_t_length v_t_position v_t_token v_t_tokenStart v_t_number v_t_characters) (w_X6_kindOfItem k a_t a_t_characters a_t_values v_t_length v_t_position v_t_token v_t_tokenStart v_t_number v_t_characters) (some (.int q)) := by
  refine mg_Mi RX6 [(0, .ref a_t)] (by decide +kernel) rfl rfl (Nat.le_of_ble_eq_true rfl) ?_
  intro z A Q hl C E
  subst hl
  unfold f_X6_kindOfItem at hf
  refine mg_aload_n (pc := 0) C 0 dX6_kindOfItem_0 rfl rfl ?_
  refine mg_ldcS (pc := 1) C 0 rfl dX6_kindOfItem_1 ?_
  obtain ⟨q1, h2, hf⟩ := mg_b hf
  refine mg_callV (pc := 3) C (w2 := w_X6_kindOfItem k a_t a_t_characters a_t_values v_t_length v_t_position v_t_token v_t_tokenStart v_t_number v_t_characters) (c_X6_isWord z.2.1 k a_t a_t_characters a_t_values v_t_length v_t_position v_t_token v_t_tokenStart v_t_number v_t_characters fuel 0 (by decide) q1 h2) Y_X6_isWord wm_351 (by decide) rfl 0 rfl rfl rfl [0, 1] rfl (by decide) rfl [some 0, some 1] (by decide) rfl (Nat.le_of_ble_eq_true rfl) rfl dX6_kindOfItem_3 ?_
  refine mg_if_eq (pc := 6) (tgt := 11) C dX6_kindOfItem_6 (by decide) hf (fun hf => ?_) (fun hf => ?_)
  · refine mg_aload_n (pc := 11) C 0 dX6_kindOfItem_11 rfl rfl ?_
    refine mg_ldcS (pc := 12) C 1 rfl dX6_kindOfItem_12 ?_
    obtain ⟨q3, h4, hf⟩ := mg_b hf
    refine mg_callV (pc := 14) C (w2 := w_X6_kindOfItem k a_t a_t_characters a_t_values v_t_length v_t_position v_t_token v_t_tokenStart v_t_number v_t_characters) (c_X6_isWord z.2.1 k a_t a_t_characters a_t_values v_t_length v_t_position v_t_token v_t_tokenStart v_t_number v_t_characters fuel 1 (by decide) q3 h4) Y_X6_isWord wm_351 (by decide) rfl 0 rfl rfl rfl [0, 1] rfl (by decide) rfl [some 0, some 1] (by decide) rfl (Nat.le_of_ble_eq_true rfl) rfl dX6_kindOfItem_14 ?_
    refine mg_if_eq (pc := 17) (tgt := 22) C dX6_kindOfItem_17 (by decide) hf (fun hf => ?_) (fun hf => ?_)
    · refine mg_aload_n (pc := 22) C 0 dX6_kindOfItem_22 rfl rfl ?_
      refine mg_ldcS (pc := 23) C 2 rfl dX6_kindOfItem_23 ?_
      obtain ⟨q5, h6, hf⟩ := mg_b hf
      refine mg_callV (pc := 25) C (w2 := w_X6_kindOfItem k a_t a_t_characters a_t_values v_t_length v_t_position v_t_token v_t_tokenStart v_t_number v_t_characters) (c_X6_isWord z.2.1 k a_t a_t_characters a_t_values v_t_length v_t_position v_t_token v_t_tokenStart v_t_number v_t_characters fuel 2 (by decide) q5 h6) Y_X6_isWord wm_351 (by decide) rfl 0 rfl rfl rfl [0, 1] rfl (by decide) rfl [some 0, some 1] (by decide) rfl (Nat.le_of_ble_eq_true rfl) rfl dX6_kindOfItem_25 ?_
      refine mg_if_eq (pc := 28) (tgt := 33) C dX6_kindOfItem_28 (by decide) hf (fun hf => ?_) (fun hf => ?_)
      · refine mg_aload_n (pc := 33) C 0 dX6_kindOfItem_33 rfl rfl ?_
        refine mg_ldcS (pc := 34) C 3 rfl dX6_kindOfItem_34 ?_
        obtain ⟨q7, h8, hf⟩ := mg_b hf
        refine mg_callV (pc := 36) C (w2 := w_X6_kindOfItem k a_t a_t_characters a_t_values v_t_length v_t_position v_t_token v_t_tokenStart v_t_number v_t_characters) (c_X6_isWord z.2.1 k a_t a_t_characters a_t_values v_t_length v_t_position v_t_token v_t_tokenStart v_t_number v_t_characters fuel 3 (by decide) q7 h8) Y_X6_isWord wm_351 (by decide) rfl 0 rfl rfl rfl [0, 1] rfl (by decide) rfl [some 0, some 1] (by decide) rfl (Nat.le_of_ble_eq_true rfl) rfl dX6_kindOfItem_36 ?_
        refine mg_if_eq (pc := 39) (tgt := 44) C dX6_kindOfItem_39 (by decide) hf (fun hf => ?_) (fun hf => ?_)
        · refine mg_aload_n (pc := 44) C 0 dX6_kindOfItem_44 rfl rfl ?_
          refine mg_ldcS (pc := 45) C 4 rfl dX6_kindOfItem_45 ?_
          obtain ⟨q9, h10, hf⟩ := mg_b hf
          refine mg_callV (pc := 47) C (w2 := w_X6_kindOfItem k a_t a_t_characters a_t_values v_t_length v_t_position v_t_token v_t_tokenStart v_t_number v_t_characters) (c_X6_isWord z.2.1 k a_t a_t_characters a_t_values v_t_length v_t_position v_t_token v_t_tokenStart v_t_number v_t_characters fuel 4 (by decide) q9 h10) Y_X6_isWord wm_351 (by decide) rfl 0 rfl rfl rfl [0, 1] rfl (by decide) rfl [some 0, some 1] (by decide) rfl (Nat.le_of_ble_eq_true rfl) rfl dX6_kindOfItem_47 ?_
          refine mg_if_eq (pc := 50) (tgt := 55) C dX6_kindOfItem_50 (by decide) hf (fun hf => ?_) (fun hf => ?_)
          · refine mg_aload_n (pc := 55) C 0 dX6_kindOfItem_55 rfl rfl ?_
            refine mg_ldcS (pc := 56) C 5 rfl dX6_kindOfItem_56 ?_
            obtain ⟨q11, h12, hf⟩ := mg_b hf
            refine mg_callV (pc := 58) C (w2 := w_X6_kindOfItem k a_t a_t_characters a_t_values v_t_length v_t_position v_t_token v_t_tokenStart v_t_number v_t_characters) (c_X6_isWord z.2.1 k a_t a_t_characters a_t_values v_t_length v_t_position v_t_token v_t_tokenStart v_t_number v_t_characters fuel 5 (by decide) q11 h12) Y_X6_isWord wm_351 (by decide) rfl 0 rfl rfl rfl [0, 1] rfl (by decide) rfl [some 0, some 1] (by decide) rfl (Nat.le_of_ble_eq_true rfl) rfl dX6_kindOfItem_58 ?_
            refine mg_if_eq (pc := 61) (tgt := 68) C dX6_kindOfItem_61 (by decide) hf (fun hf => ?_) (fun hf => ?_)
            · refine mg_iconst (pc := 68) C dX6_kindOfItem_68 (v := (-1)) (by decide) ?_
              obtain rfl := Option.some.inj hf
              exact E _ _ dX6_kindOfItem_69
            · refine mg_iconst (pc := 64) C dX6_kindOfItem_64 (v := 5) (by decide) ?_
              refine mg_goto (pc := 65) (tgt := 69) C dX6_kindOfItem_65 (by decide) ?_
              obtain rfl := Option.some.inj hf
              exact E _ _ dX6_kindOfItem_69
          · refine mg_iconst (pc := 53) C dX6_kindOfItem_53 (v := 4) (by decide) ?_
            obtain rfl := Option.some.inj hf
            exact E _ _ dX6_kindOfItem_54
        · refine mg_iconst (pc := 42) C dX6_kindOfItem_42 (v := 3) (by decide) ?_
          obtain rfl := Option.some.inj hf
          exact E _ _ dX6_kindOfItem_43
      · refine mg_iconst (pc := 31) C dX6_kindOfItem_31 (v := 2) (by decide) ?_
        obtain rfl := Option.some.inj hf
        exact E _ _ dX6_kindOfItem_32
    · refine mg_iconst (pc := 20) C dX6_kindOfItem_20 (v := 1) (by decide) ?_
      obtain rfl := Option.some.inj hf
      exact E _ _ dX6_kindOfItem_21
  · refine mg_iconst (pc := 9) C dX6_kindOfItem_9 (v := 0) (by decide) ?_
    obtain rfl := Option.some.inj hf
    exact E _ _ dX6_kindOfItem_10
abbrev w_X6_mayBegin (k : mg_K) (a_t a_p3 a_p3_ballast a_p3_lubricated a_p3_pose a_p3_ground a_p3_boulders a_p3_records a_p3_boulders_list a_p3_boulders_list_values a_p3_ground_layers a_p3_ground_layers_values : Nat) (v_p3_columns : Int32) (v_p3_rows : Int32) (v_p3_weight : Int32) (v_p3_stiffness : Int32) (v_p3_water : Int32) (v_p3_boulders_list_count : Int32) (v_p3_ground_layers_count : Int32) : va_W := [(a_p3, .inr (5, [.int v_p3_columns, .int v_p3_rows, .int v_p3_weight, .int v_p3_stiffness, .int v_p3_water, .ref a_p3_ballast, .ref a_p3_lubricated, .ref a_p3_pose, .ref a_p3_ground, .ref a_p3_boulders, .ref a_p3_records])), (a_p3_boulders, .inr (0, [.ref a_p3_boulders_list])), (a_p3_boulders_list, .inr (7, [.int 10, .ref a_p3_boulders_list_values, .int v_p3_boulders_list_count])), (a_p3_ground, .inr (2, [.ref a_p3_ground_layers])), (a_p3_ground_layers, .inr (7, [.int 8, .ref a_p3_ground_layers_values, .int v_p3_ground_layers_count]))]
def f_X6_mayBegin (v_p3_boulders_list_count : Int32) (v_p3_ground_layers_count : Int32) (x1 : Int32) (x2 : Int32) : Option (Int32) := if x1 = 0 then (if x2 = 0 then (some 1) else (some 0)) else if x1 = 4 then ((f_X7_isFull 8 v_p3_ground_layers_count).bind (fun q3 => if q3 = 0 then (some 1) else (some 0))) else if x1 = 5 then ((f_X7_isFull 10 v_p3_boulders_list_count).bind (fun q6 => if q6 = 0 then (some 1) else (some 0))) else (if x1 = (-1) then (some 0) else (some 1))
theorem Y_X6_mayBegin : mg_Y yX6_mayBegin cX6_mayBegin 4 (some .boolean) 3 := ⟨wm_410, wp_4, wm_10, wm_411, ⟨by decide +kernel, by decide +kernel, by decide +kernel⟩, by decide⟩
set_option maxRecDepth 100000 in
set_option maxHeartbeats 4000000 in
theorem c_X6_mayBegin (l : Launch) (k : mg_K) (a_t a_p3 a_p3_ballast a_p3_lubricated a_p3_pose a_p3_ground a_p3_boulders a_p3_records a_p3_boulders_list a_p3_boulders_list_values a_p3_ground_layers a_p3_ground_layers_values : Nat) (v_p3_columns : Int32) (v_p3_rows : Int32) (v_p3_weight : Int32) (v_p3_stiffness : Int32) (v_p3_water : Int32) (v_p3_boulders_list_count : Int32) (v_p3_ground_layers_count : Int32) (x1 : Int32) (x2 : Int32) (q : Int32) (hf : f_X6_mayBegin v_p3_boulders_list_count v_p3_ground_layers_count x1 x2 = some q) : mg_M l yX6_mayBegin cX6_mayBegin 4 (some .boolean) 1 k [.ref a_t, .int x1, .int x2, .ref a_p3] (w_X6_mayBegin k a_t a_p3 a_p3_ballast a_p3_lubricated a_p3_pose a_p3_ground a_p3_boulders a_p3_records a_p3_boulders_list a_p3_boulders_list_values a_p3_ground_layers a_p3_ground_layers_values v_p3_columns v_p3_rows v_p3_weight v_p3_stiffness v_p3_water v_p3_boulders_list_count v_p3_ground_layers_count) (w_X6_mayBegin k a_t a_p3 a_p3_ballast a_p3_lubricated a_p3_pose a_p3_ground a_p3_boulders a_p3_records a_p3_boulders_list a_p3_boulders_list_values a_p3_ground_layers a_p3_ground_layers_values v_p3_columns v_p3_rows v_p3_weight v_p3_stiffness v_p3_water v_p3_boulders_list_count v_p3_ground_layers_count) (some (.int q)) := by
  refine mg_Mz RX6 [(0, .ref a_t), (1, .int x1), (2, .int x2), (3, .ref a_p3)] (by decide +kernel) rfl rfl (Nat.le_of_ble_eq_true rfl) ?_
  intro z A Q hl C E
  subst hl
  unfold f_X6_mayBegin at hf
  refine mg_iload_n (pc := 0) C 1 dX6_mayBegin_0 rfl rfl ?_
  refine mg_cs hf (fun e1 hf => ?_) (fun e1 hf => ?_)
  · refine mg_lookup (pc := 1) (tgt := 36) C dX6_mayBegin_1 (by decide) (by rw [e1] <;> decide) (by decide) ?_
    refine mg_iload_n (pc := 36) C 2 dX6_mayBegin_36 rfl rfl ?_
    refine mg_if_ne (pc := 37) (tgt := 44) C dX6_mayBegin_37 (by decide) hf (fun hf => ?_) (fun hf => ?_)
    · refine mg_iconst (pc := 44) C dX6_mayBegin_44 (v := 0) (by decide) ?_
      obtain rfl := Option.some.inj hf
      exact E mg_n0 _ _ dX6_mayBegin_45
    · refine mg_iconst (pc := 40) C dX6_mayBegin_40 (v := 1) (by decide) ?_
      refine mg_goto (pc := 41) (tgt := 45) C dX6_mayBegin_41 (by decide) ?_
      obtain rfl := Option.some.inj hf
      exact E mg_n1 _ _ dX6_mayBegin_45
  refine mg_cs hf (fun e2 hf => ?_) (fun e2 hf => ?_)
  · refine mg_lookup (pc := 1) (tgt := 46) C dX6_mayBegin_1 (by decide) (by rw [e2] <;> decide) (by decide) ?_
    refine mg_aload_n (pc := 46) C 3 dX6_mayBegin_46 rfl rfl ?_
    refine mg_get (pc := 47) C 0 rfl rfl inX5 8 (by decide) wm_162 rfl rfl dX6_mayBegin_47 ?_
    refine mg_get (pc := 50) C 3 rfl rfl inX2 0 (by decide) wm_96 rfl rfl dX6_mayBegin_50 ?_
    obtain ⟨q3, h4, hf⟩ := mg_b hf
    refine mg_callV (pc := 53) C (w2 := w_X6_mayBegin k a_t a_p3 a_p3_ballast a_p3_lubricated a_p3_pose a_p3_ground a_p3_boulders a_p3_records a_p3_boulders_list a_p3_boulders_list_values a_p3_ground_layers a_p3_ground_layers_values v_p3_columns v_p3_rows v_p3_weight v_p3_stiffness v_p3_water v_p3_boulders_list_count v_p3_ground_layers_count) (c_X7_isFull z.2.1 k a_p3_ground_layers a_p3_ground_layers_values 8 v_p3_ground_layers_count q3 h4) Y_X7_isFull wm_412 (by decide) rfl 4 rfl rfl rfl [4] rfl (by decide) rfl [none, none, none, none, some 0] (by decide) rfl (Nat.le_of_ble_eq_true rfl) rfl dX6_mayBegin_53 ?_
    refine mg_if_ne (pc := 56) (tgt := 63) C dX6_mayBegin_56 (by decide) hf (fun hf => ?_) (fun hf => ?_)
    · refine mg_iconst (pc := 63) C dX6_mayBegin_63 (v := 0) (by decide) ?_
      obtain rfl := Option.some.inj hf
      exact E mg_n0 _ _ dX6_mayBegin_64
    · refine mg_iconst (pc := 59) C dX6_mayBegin_59 (v := 1) (by decide) ?_
      refine mg_goto (pc := 60) (tgt := 64) C dX6_mayBegin_60 (by decide) ?_
      obtain rfl := Option.some.inj hf
      exact E mg_n1 _ _ dX6_mayBegin_64
  refine mg_cs hf (fun e5 hf => ?_) (fun e5 hf => ?_)
  · refine mg_lookup (pc := 1) (tgt := 65) C dX6_mayBegin_1 (by decide) (by rw [e5] <;> decide) (by decide) ?_
    refine mg_aload_n (pc := 65) C 3 dX6_mayBegin_65 rfl rfl ?_
    refine mg_get (pc := 66) C 0 rfl rfl inX5 9 (by decide) wm_166 rfl rfl dX6_mayBegin_66 ?_
    refine mg_get (pc := 69) C 1 rfl rfl inX0 0 (by decide) wm_111 rfl rfl dX6_mayBegin_69 ?_
    obtain ⟨q6, h7, hf⟩ := mg_b hf
    refine mg_callV (pc := 72) C (w2 := w_X6_mayBegin k a_t a_p3 a_p3_ballast a_p3_lubricated a_p3_pose a_p3_ground a_p3_boulders a_p3_records a_p3_boulders_list a_p3_boulders_list_values a_p3_ground_layers a_p3_ground_layers_values v_p3_columns v_p3_rows v_p3_weight v_p3_stiffness v_p3_water v_p3_boulders_list_count v_p3_ground_layers_count) (c_X7_isFull z.2.1 k a_p3_boulders_list a_p3_boulders_list_values 10 v_p3_boulders_list_count q6 h7) Y_X7_isFull wm_412 (by decide) rfl 2 rfl rfl rfl [2] rfl (by decide) rfl [none, none, some 0, none, none] (by decide) rfl (Nat.le_of_ble_eq_true rfl) rfl dX6_mayBegin_72 ?_
    refine mg_if_ne (pc := 75) (tgt := 82) C dX6_mayBegin_75 (by decide) hf (fun hf => ?_) (fun hf => ?_)
    · refine mg_iconst (pc := 82) C dX6_mayBegin_82 (v := 0) (by decide) ?_
      obtain rfl := Option.some.inj hf
      exact E mg_n0 _ _ dX6_mayBegin_83
    · refine mg_iconst (pc := 78) C dX6_mayBegin_78 (v := 1) (by decide) ?_
      refine mg_goto (pc := 79) (tgt := 83) C dX6_mayBegin_79 (by decide) ?_
      obtain rfl := Option.some.inj hf
      exact E mg_n1 _ _ dX6_mayBegin_83
  refine mg_lookup (pc := 1) (off := 83) (tgt := 84) C dX6_mayBegin_1 (by decide) (by have e1_ := mg_ne e1 (i := 0) (by decide); have e2_ := mg_ne e2 (i := 4) (by decide); have e5_ := mg_ne e5 (i := 5) (by decide); simp [Op.lookupswitch.offset, Ne.symm e1_, e1_, Ne.symm e2_, e2_, Ne.symm e5_, e5_]) (by decide) ?_
  refine mg_iload_n (pc := 84) C 1 dX6_mayBegin_84 rfl rfl ?_
  refine mg_iconst (pc := 85) C dX6_mayBegin_85 (v := (-1)) (by decide) ?_
  refine mg_icmp_eq (pc := 86) (tgt := 93) C dX6_mayBegin_86 (by decide) hf (fun hf => ?_) (fun hf => ?_)
  · refine mg_iconst (pc := 93) C dX6_mayBegin_93 (v := 0) (by decide) ?_
    obtain rfl := Option.some.inj hf
    exact E mg_n0 _ _ dX6_mayBegin_94
  · refine mg_iconst (pc := 89) C dX6_mayBegin_89 (v := 1) (by decide) ?_
    refine mg_goto (pc := 90) (tgt := 94) C dX6_mayBegin_90 (by decide) ?_
    obtain rfl := Option.some.inj hf
    exact E mg_n1 _ _ dX6_mayBegin_94
abbrev w_X6_isDigit (k : mg_K) : va_W := []
def f_X6_isDigit (x0 : Int32) : Option (Int32) := if x0 < 48 then (some 0) else (if 57 < x0 then (some 0) else (some 1))
theorem Y_X6_isDigit : mg_YS yX6_isDigit cX6_isDigit 1 (some .boolean) 1 := ⟨wm_340, wm_10, wm_341, ⟨by decide +kernel, by decide +kernel, by decide +kernel⟩, by decide⟩
set_option maxRecDepth 100000 in
set_option maxHeartbeats 4000000 in
theorem c_X6_isDigit (l : Launch) (k : mg_K) (x0 : Int32) (q : Int32) (hf : f_X6_isDigit x0 = some q) : mg_M l yX6_isDigit cX6_isDigit 1 (some .boolean) 0 k [.int x0] (w_X6_isDigit k) (w_X6_isDigit k) (some (.int q)) := by
  refine mg_Mz RX6 [(0, .int x0)] (by decide +kernel) rfl rfl (Nat.le_of_ble_eq_true rfl) ?_
  intro z A Q hl C E
  subst hl
  unfold f_X6_isDigit at hf
  refine mg_iload_n (pc := 0) C 0 dX6_isDigit_0 rfl rfl ?_
  refine mg_bipush (pc := 1) C dX6_isDigit_1 (v := 48) (by decide) ?_
  refine mg_icmp_lt (pc := 3) (tgt := 16) C dX6_isDigit_3 (by decide) hf (fun hf => ?_) (fun hf => ?_)
  · refine mg_iconst (pc := 16) C dX6_isDigit_16 (v := 0) (by decide) ?_
    obtain rfl := Option.some.inj hf
    exact E mg_n0 _ _ dX6_isDigit_17
  · refine mg_iload_n (pc := 6) C 0 dX6_isDigit_6 rfl rfl ?_
    refine mg_bipush (pc := 7) C dX6_isDigit_7 (v := 57) (by decide) ?_
    refine mg_icmp_gt (pc := 9) (tgt := 16) C dX6_isDigit_9 (by decide) hf (fun hf => ?_) (fun hf => ?_)
    · refine mg_iconst (pc := 16) C dX6_isDigit_16 (v := 0) (by decide) ?_
      obtain rfl := Option.some.inj hf
      exact E mg_n0 _ _ dX6_isDigit_17
    · refine mg_iconst (pc := 12) C dX6_isDigit_12 (v := 1) (by decide) ?_
      refine mg_goto (pc := 13) (tgt := 17) C dX6_isDigit_13 (by decide) ?_
      obtain rfl := Option.some.inj hf
      exact E mg_n1 _ _ dX6_isDigit_17
abbrev w_X6_isLetter (k : mg_K) : va_W := []
def f_X6_isLetter (x0 : Int32) : Option (Int32) := if x0 < 97 then (some 0) else (if 122 < x0 then (some 0) else (some 1))
theorem Y_X6_isLetter : mg_YS yX6_isLetter cX6_isLetter 1 (some .boolean) 1 := ⟨wm_337, wm_10, wm_338, ⟨by decide +kernel, by decide +kernel, by decide +kernel⟩, by decide⟩
set_option maxRecDepth 100000 in
set_option maxHeartbeats 4000000 in
theorem c_X6_isLetter (l : Launch) (k : mg_K) (x0 : Int32) (q : Int32) (hf : f_X6_isLetter x0 = some q) : mg_M l yX6_isLetter cX6_isLetter 1 (some .boolean) 0 k [.int x0] (w_X6_isLetter k) (w_X6_isLetter k) (some (.int q)) := by
  refine mg_Mz RX6 [(0, .int x0)] (by decide +kernel) rfl rfl (Nat.le_of_ble_eq_true rfl) ?_
  intro z A Q hl C E
  subst hl
  unfold f_X6_isLetter at hf
  refine mg_iload_n (pc := 0) C 0 dX6_isLetter_0 rfl rfl ?_
  refine mg_bipush (pc := 1) C dX6_isLetter_1 (v := 97) (by decide) ?_
  refine mg_icmp_lt (pc := 3) (tgt := 16) C dX6_isLetter_3 (by decide) hf (fun hf => ?_) (fun hf => ?_)
  · refine mg_iconst (pc := 16) C dX6_isLetter_16 (v := 0) (by decide) ?_
    obtain rfl := Option.some.inj hf
    exact E mg_n0 _ _ dX6_isLetter_17
  · refine mg_iload_n (pc := 6) C 0 dX6_isLetter_6 rfl rfl ?_
    refine mg_bipush (pc := 7) C dX6_isLetter_7 (v := 122) (by decide) ?_
    refine mg_icmp_gt (pc := 9) (tgt := 16) C dX6_isLetter_9 (by decide) hf (fun hf => ?_) (fun hf => ?_)
    · refine mg_iconst (pc := 16) C dX6_isLetter_16 (v := 0) (by decide) ?_
      obtain rfl := Option.some.inj hf
      exact E mg_n0 _ _ dX6_isLetter_17
    · refine mg_iconst (pc := 12) C dX6_isLetter_12 (v := 1) (by decide) ?_
      refine mg_goto (pc := 13) (tgt := 17) C dX6_isLetter_13 (by decide) ?_
      obtain rfl := Option.some.inj hf
      exact E mg_n1 _ _ dX6_isLetter_17
abbrev w_X6_readNumber (k : mg_K) (a_t a_t_characters a_t_values : Nat) (v_t_length : Int32) (v_t_position : Int32) (v_t_token : Int32) (v_t_tokenStart : Int32) (v_t_number : Int32) (v_t_characters : Nat → Int32) : va_W := [(a_t, .inr (6, [.ref a_t_characters, .int v_t_length, .int v_t_position, .int v_t_token, .int v_t_tokenStart, .int v_t_number, .ref a_t_values])), (a_t_characters, .inl (k.2.2.1, 200, .inl v_t_characters))]
def f_X6_readNumber_L10 (v_t_length : Int32) (v_t_tokenStart : Int32) (v_t_characters : Nat → Int32) : Nat → Int32 → Int32 → Option (Int32 × Int32)
  | 0, _, _ => none
  | n_ + 1, v_t_position, v_t_number => if v_t_length ≤ v_t_position then (some ((v_t_position, v_t_number))) else (if mg_ix v_t_position 200 = true then ((f_X6_isDigit (v_t_characters (Int32.toNatClampNeg v_t_position))).bind (fun q1 => if q1 = 0 then (some ((v_t_position, v_t_number))) else (if 4 ≤ (v_t_position - v_t_tokenStart) then (f_X6_readNumber_L10 v_t_length v_t_tokenStart v_t_characters n_ (v_t_position + 1) v_t_number) else (if mg_ix v_t_position 200 = true then (f_X6_readNumber_L10 v_t_length v_t_tokenStart v_t_characters n_ (v_t_position + 1) ((v_t_number * 10) + ((v_t_characters (Int32.toNatClampNeg v_t_position)) - 48))) else none)))) else none)
def f_X6_readNumber_J86 (v_t_position : Int32) (v_t_token : Int32) (v_t_tokenStart : Int32) (v_t_number : Int32) (v_t_characters : Nat → Int32) : Option (Int32 × Int32 × Int32) := if 4 < (v_t_position - v_t_tokenStart) then (some (v_t_position, v_t_token, (-1))) else (if (v_t_position - v_t_tokenStart) ≤ 1 then (some (v_t_position, v_t_token, v_t_number)) else (if mg_ix v_t_tokenStart 200 = true then (if (v_t_characters (Int32.toNatClampNeg v_t_tokenStart)) = 48 then (some (v_t_position, v_t_token, (-1))) else (some (v_t_position, v_t_token, v_t_number))) else none))
def f_X6_readNumber (fuel : Nat) (v_t_length : Int32) (v_t_position : Int32) (v_t_tokenStart : Int32) (v_t_characters : Nat → Int32) : Option (Int32 × Int32 × Int32) := (f_X6_readNumber_L10 v_t_length v_t_tokenStart v_t_characters fuel v_t_position 0).bind (fun q3 => f_X6_readNumber_J86 q3.1 2 v_t_tokenStart q3.2 v_t_characters)
theorem Y_X6_readNumber : mg_Y yX6_readNumber cX6_readNumber 2 none 0 := ⟨wm_344, wp_1, wm_10, wm_345, ⟨by decide +kernel, by decide +kernel, by decide +kernel⟩, by decide⟩
set_option maxRecDepth 100000 in
set_option maxHeartbeats 4000000 in
theorem c_X6_readNumber (l : Launch) (k : mg_K) (a_t a_t_characters a_t_values : Nat) (v_t_length : Int32) (v_t_position : Int32) (v_t_token : Int32) (v_t_tokenStart : Int32) (v_t_number : Int32) (v_t_characters : Nat → Int32) (fuel : Nat) (q : Int32 × Int32 × Int32) (hf : f_X6_readNumber fuel v_t_length v_t_position v_t_tokenStart v_t_characters = some q) : mg_M l yX6_readNumber cX6_readNumber 2 none 1 k [.ref a_t] (w_X6_readNumber k a_t a_t_characters a_t_values v_t_length v_t_position v_t_token v_t_tokenStart v_t_number v_t_characters) (w_X6_readNumber k a_t a_t_characters a_t_values v_t_length q.1 q.2.1 v_t_tokenStart q.2.2 v_t_characters) none := by
  refine mg_Mv RX6 [(0, .ref a_t)] (by decide +kernel) rfl rfl (Nat.le_of_ble_eq_true rfl) ?_
  intro z A Q hl C E
  subst hl
  unfold f_X6_readNumber at hf
  have L10 : ∀ (v_t_token : Int32) (n_ : Nat) (v_t_position : Int32) (v_t_number : Int32) (q_ : Int32 × Int32), f_X6_readNumber_L10 v_t_length v_t_tokenStart v_t_characters n_ v_t_position v_t_number = some q_ → (mg z k A 2 0 0 Q (w_X6_readNumber k a_t a_t_characters a_t_values v_t_length q_.1 v_t_token v_t_tokenStart q_.2 v_t_characters) [(0, .ref a_t)] 86 []) → mg z k A 2 0 0 Q (w_X6_readNumber k a_t a_t_characters a_t_values v_t_length v_t_position v_t_token v_t_tokenStart v_t_number v_t_characters) [(0, .ref a_t)] 10 [] := by
    intro v_t_token n_
    induction n_ with
    | zero => intro v_t_position v_t_number q_ hf; exact mg_no (show none = some q_ from hf)
    | succ n_ ih =>
      intro v_t_position v_t_number q_ hf X0
      rw [f_X6_readNumber_L10] at hf
      refine mg_aload_n (pc := 10) C 0 dX6_readNumber_10 rfl rfl ?_
      refine mg_get (pc := 11) C 0 rfl rfl inX6 2 (by decide) wm_256 rfl rfl dX6_readNumber_11 ?_
      refine mg_aload_n (pc := 14) C 0 dX6_readNumber_14 rfl rfl ?_
      refine mg_get (pc := 15) C 0 rfl rfl inX6 1 (by decide) wm_254 rfl rfl dX6_readNumber_15 ?_
      refine mg_icmp_ge (pc := 18) (tgt := 86) C dX6_readNumber_18 (by decide) hf (fun hf => ?_) (fun hf => ?_)
      · obtain rfl := Option.some.inj hf
        exact X0
      · refine mg_aload_n (pc := 21) C 0 dX6_readNumber_21 rfl rfl ?_
        refine mg_get (pc := 22) C 0 rfl rfl inX6 0 (by decide) wm_253 rfl rfl dX6_readNumber_22 ?_
        refine mg_aload_n (pc := 25) C 0 dX6_readNumber_25 rfl rfl ?_
        refine mg_get (pc := 26) C 0 rfl rfl inX6 2 (by decide) wm_256 rfl rfl dX6_readNumber_26 ?_
        refine mg_cald (pc := 29) C 1 rfl dX6_readNumber_29 hf (fun hf => ?_)
        obtain ⟨q1, h2, hf⟩ := mg_b hf
        refine mg_callS (pc := 30) C (w2 := w_X6_readNumber k a_t a_t_characters a_t_values v_t_length v_t_position v_t_token v_t_tokenStart v_t_number v_t_characters) (c_X6_isDigit z.2.1 k (v_t_characters (Int32.toNatClampNeg v_t_position)) q1 h2) Y_X6_isDigit wm_339 (by decide) rfl [] rfl (by decide) rfl [none, none] (by decide) rfl (Nat.le_of_ble_eq_true rfl) rfl dX6_readNumber_30 ?_
        refine mg_if_eq (pc := 33) (tgt := 86) C dX6_readNumber_33 (by decide) hf (fun hf => ?_) (fun hf => ?_)
        · obtain rfl := Option.some.inj hf
          exact X0
        · refine mg_aload_n (pc := 36) C 0 dX6_readNumber_36 rfl rfl ?_
          refine mg_get (pc := 37) C 0 rfl rfl inX6 2 (by decide) wm_256 rfl rfl dX6_readNumber_37 ?_
          refine mg_aload_n (pc := 40) C 0 dX6_readNumber_40 rfl rfl ?_
          refine mg_get (pc := 41) C 0 rfl rfl inX6 4 (by decide) wm_258 rfl rfl dX6_readNumber_41 ?_
          refine mg_isub (pc := 44) C dX6_readNumber_44 ?_
          refine mg_iconst (pc := 45) C dX6_readNumber_45 (v := 4) (by decide) ?_
          refine mg_icmp_ge (pc := 46) (tgt := 73) C dX6_readNumber_46 (by decide) hf (fun hf => ?_) (fun hf => ?_)
          · refine mg_aload_n (pc := 73) C 0 dX6_readNumber_73 rfl rfl ?_
            refine mg_dup (pc := 74) C dX6_readNumber_74 rfl ?_
            refine mg_get (pc := 75) C 0 rfl rfl inX6 2 (by decide) wm_256 rfl rfl dX6_readNumber_75 ?_
            refine mg_iconst (pc := 78) C dX6_readNumber_78 (v := 1) (by decide) ?_
            refine mg_iadd (pc := 79) C dX6_readNumber_79 ?_
            refine mg_puti (pc := 80) C (w2 := w_X6_readNumber k a_t a_t_characters a_t_values v_t_length (v_t_position + 1) v_t_token v_t_tokenStart v_t_number v_t_characters) 0 rfl rfl inX6 2 (by decide) wm_256 rfl tyX6 tyX6_ok nmX6 rfl (by decide +kernel) (Nat.le_of_ble_eq_true rfl) rfl dX6_readNumber_80 ?_
            refine mg_goto (pc := 83) (tgt := 10) C dX6_readNumber_83 (by decide) ?_
            exact ih (v_t_position + 1) v_t_number _ hf X0
          · refine mg_aload_n (pc := 49) C 0 dX6_readNumber_49 rfl rfl ?_
            refine mg_aload_n (pc := 50) C 0 dX6_readNumber_50 rfl rfl ?_
            refine mg_get (pc := 51) C 0 rfl rfl inX6 5 (by decide) wm_259 rfl rfl dX6_readNumber_51 ?_
            refine mg_bipush (pc := 54) C dX6_readNumber_54 (v := 10) (by decide) ?_
            refine mg_imul (pc := 56) C dX6_readNumber_56 ?_
            refine mg_aload_n (pc := 57) C 0 dX6_readNumber_57 rfl rfl ?_
            refine mg_get (pc := 58) C 0 rfl rfl inX6 0 (by decide) wm_253 rfl rfl dX6_readNumber_58 ?_
            refine mg_aload_n (pc := 61) C 0 dX6_readNumber_61 rfl rfl ?_
            refine mg_get (pc := 62) C 0 rfl rfl inX6 2 (by decide) wm_256 rfl rfl dX6_readNumber_62 ?_
            refine mg_cald (pc := 65) C 1 rfl dX6_readNumber_65 hf (fun hf => ?_)
            refine mg_bipush (pc := 66) C dX6_readNumber_66 (v := 48) (by decide) ?_
            refine mg_isub (pc := 68) C dX6_readNumber_68 ?_
            refine mg_iadd (pc := 69) C dX6_readNumber_69 ?_
            refine mg_puti (pc := 70) C (w2 := w_X6_readNumber k a_t a_t_characters a_t_values v_t_length v_t_position v_t_token v_t_tokenStart ((v_t_number * 10) + ((v_t_characters (Int32.toNatClampNeg v_t_position)) - 48)) v_t_characters) 0 rfl rfl inX6 5 (by decide) wm_259 rfl tyX6 tyX6_ok nmX6 rfl (by decide +kernel) (Nat.le_of_ble_eq_true rfl) rfl dX6_readNumber_70 ?_
            refine mg_aload_n (pc := 73) C 0 dX6_readNumber_73 rfl rfl ?_
            refine mg_dup (pc := 74) C dX6_readNumber_74 rfl ?_
            refine mg_get (pc := 75) C 0 rfl rfl inX6 2 (by decide) wm_256 rfl rfl dX6_readNumber_75 ?_
            refine mg_iconst (pc := 78) C dX6_readNumber_78 (v := 1) (by decide) ?_
            refine mg_iadd (pc := 79) C dX6_readNumber_79 ?_
            refine mg_puti (pc := 80) C (w2 := w_X6_readNumber k a_t a_t_characters a_t_values v_t_length (v_t_position + 1) v_t_token v_t_tokenStart ((v_t_number * 10) + ((v_t_characters (Int32.toNatClampNeg v_t_position)) - 48)) v_t_characters) 0 rfl rfl inX6 2 (by decide) wm_256 rfl tyX6 tyX6_ok nmX6 rfl (by decide +kernel) (Nat.le_of_ble_eq_true rfl) rfl dX6_readNumber_80 ?_
            refine mg_goto (pc := 83) (tgt := 10) C dX6_readNumber_83 (by decide) ?_
            exact ih (v_t_position + 1) ((v_t_number * 10) + ((v_t_characters (Int32.toNatClampNeg v_t_position)) - 48)) _ hf X0
  have J86 : ∀ (v_t_position : Int32) (v_t_token : Int32) (v_t_number : Int32), f_X6_readNumber_J86 v_t_position v_t_token v_t_tokenStart v_t_number v_t_characters = some q → mg z k A 2 0 0 Q (w_X6_readNumber k a_t a_t_characters a_t_values v_t_length v_t_position v_t_token v_t_tokenStart v_t_number v_t_characters) [(0, .ref a_t)] 86 [] := by
    intro v_t_position v_t_token v_t_number hf
    unfold f_X6_readNumber_J86 at hf
    refine mg_aload_n (pc := 86) C 0 dX6_readNumber_86 rfl rfl ?_
    refine mg_get (pc := 87) C 0 rfl rfl inX6 2 (by decide) wm_256 rfl rfl dX6_readNumber_87 ?_
    refine mg_aload_n (pc := 90) C 0 dX6_readNumber_90 rfl rfl ?_
    refine mg_get (pc := 91) C 0 rfl rfl inX6 4 (by decide) wm_258 rfl rfl dX6_readNumber_91 ?_
    refine mg_isub (pc := 94) C dX6_readNumber_94 ?_
    refine mg_istore_n (pc := 95) C (lv' := [(1, .int (v_t_position - v_t_tokenStart)), (0, .ref a_t)]) dX6_readNumber_95 rfl (by decide) rfl ?_
    refine mg_iload_n (pc := 96) C 0 dX6_readNumber_96 rfl rfl ?_
    refine mg_iconst (pc := 97) C dX6_readNumber_97 (v := 4) (by decide) ?_
    refine mg_icmp_gt (pc := 98) (tgt := 120) C dX6_readNumber_98 (by decide) hf (fun hf => ?_) (fun hf => ?_)
    · refine mg_aload_n (pc := 120) C 1 dX6_readNumber_120 rfl rfl ?_
      refine mg_iconst (pc := 121) C dX6_readNumber_121 (v := (-1)) (by decide) ?_
      refine mg_puti (pc := 122) C (w2 := w_X6_readNumber k a_t a_t_characters a_t_values v_t_length v_t_position v_t_token v_t_tokenStart (-1) v_t_characters) 0 rfl rfl inX6 5 (by decide) wm_259 rfl tyX6 tyX6_ok nmX6 rfl (by decide +kernel) (Nat.le_of_ble_eq_true rfl) rfl dX6_readNumber_122 ?_
      obtain rfl := Option.some.inj hf
      exact E _ _ dX6_readNumber_125
    · refine mg_iload_n (pc := 101) C 0 dX6_readNumber_101 rfl rfl ?_
      refine mg_iconst (pc := 102) C dX6_readNumber_102 (v := 1) (by decide) ?_
      refine mg_icmp_le (pc := 103) (tgt := 125) C dX6_readNumber_103 (by decide) hf (fun hf => ?_) (fun hf => ?_)
      · obtain rfl := Option.some.inj hf
        exact E _ _ dX6_readNumber_125
      · refine mg_aload_n (pc := 106) C 1 dX6_readNumber_106 rfl rfl ?_
        refine mg_get (pc := 107) C 0 rfl rfl inX6 0 (by decide) wm_253 rfl rfl dX6_readNumber_107 ?_
        refine mg_aload_n (pc := 110) C 1 dX6_readNumber_110 rfl rfl ?_
        refine mg_get (pc := 111) C 0 rfl rfl inX6 4 (by decide) wm_258 rfl rfl dX6_readNumber_111 ?_
        refine mg_cald (pc := 114) C 1 rfl dX6_readNumber_114 hf (fun hf => ?_)
        refine mg_bipush (pc := 115) C dX6_readNumber_115 (v := 48) (by decide) ?_
        refine mg_icmp_ne (pc := 117) (tgt := 125) C dX6_readNumber_117 (by decide) hf (fun hf => ?_) (fun hf => ?_)
        · obtain rfl := Option.some.inj hf
          exact E _ _ dX6_readNumber_125
        · refine mg_aload_n (pc := 120) C 1 dX6_readNumber_120 rfl rfl ?_
          refine mg_iconst (pc := 121) C dX6_readNumber_121 (v := (-1)) (by decide) ?_
          refine mg_puti (pc := 122) C (w2 := w_X6_readNumber k a_t a_t_characters a_t_values v_t_length v_t_position v_t_token v_t_tokenStart (-1) v_t_characters) 0 rfl rfl inX6 5 (by decide) wm_259 rfl tyX6 tyX6_ok nmX6 rfl (by decide +kernel) (Nat.le_of_ble_eq_true rfl) rfl dX6_readNumber_122 ?_
          obtain rfl := Option.some.inj hf
          exact E _ _ dX6_readNumber_125
  refine mg_aload_n (pc := 0) C 0 dX6_readNumber_0 rfl rfl ?_
  refine mg_iconst (pc := 1) C dX6_readNumber_1 (v := 2) (by decide) ?_
  refine mg_puti (pc := 2) C (w2 := w_X6_readNumber k a_t a_t_characters a_t_values v_t_length v_t_position 2 v_t_tokenStart v_t_number v_t_characters) 0 rfl rfl inX6 3 (by decide) wm_257 rfl tyX6 tyX6_ok nmX6 rfl (by decide +kernel) (Nat.le_of_ble_eq_true rfl) rfl dX6_readNumber_2 ?_
  refine mg_aload_n (pc := 5) C 0 dX6_readNumber_5 rfl rfl ?_
  refine mg_iconst (pc := 6) C dX6_readNumber_6 (v := 0) (by decide) ?_
  refine mg_puti (pc := 7) C (w2 := w_X6_readNumber k a_t a_t_characters a_t_values v_t_length v_t_position 2 v_t_tokenStart 0 v_t_characters) 0 rfl rfl inX6 5 (by decide) wm_259 rfl tyX6 tyX6_ok nmX6 rfl (by decide +kernel) (Nat.le_of_ble_eq_true rfl) rfl dX6_readNumber_7 ?_
  obtain ⟨q3, h4, hf⟩ := mg_b hf
  refine L10 2 fuel v_t_position 0 q3 h4 ?_
  exact J86 q3.1 2 q3.2 hf
abbrev w_X6_readToken (k : mg_K) (a_t a_t_characters a_t_values : Nat) (v_t_length : Int32) (v_t_position : Int32) (v_t_token : Int32) (v_t_tokenStart : Int32) (v_t_number : Int32) (v_t_characters : Nat → Int32) : va_W := [(a_t, .inr (6, [.ref a_t_characters, .int v_t_length, .int v_t_position, .int v_t_token, .int v_t_tokenStart, .int v_t_number, .ref a_t_values])), (a_t_characters, .inl (k.2.2.1, 200, .inl v_t_characters))]
def f_X6_readToken_L85 (v_t_length : Int32) (v_t_characters : Nat → Int32) : Nat → Int32 → Option (Int32)
  | 0, _ => none
  | n_ + 1, v_t_position => if v_t_length ≤ v_t_position then (some (v_t_position)) else (if mg_ix v_t_position 200 = true then ((f_X6_isLetter (v_t_characters (Int32.toNatClampNeg v_t_position))).bind (fun q7 => if q7 = 0 then (some (v_t_position)) else (f_X6_readToken_L85 v_t_length v_t_characters n_ (v_t_position + 1)))) else none)
def f_X6_readToken_J38 (fuel : Nat) (v_t_length : Int32) (v_t_position : Int32) (v_t_number : Int32) (v_t_characters : Nat → Int32) : Option (Int32 × Int32 × Int32 × Int32) := if v_t_position < v_t_length then (if mg_ix v_t_position 200 = true then ((f_X6_isLetter (v_t_characters (Int32.toNatClampNeg v_t_position))).bind (fun q1 => if q1 = 0 then (if mg_ix v_t_position 200 = true then ((f_X6_isDigit (v_t_characters (Int32.toNatClampNeg v_t_position))).bind (fun q3 => if q3 = 0 then (if mg_ix v_t_position 200 = true then (if (v_t_characters (Int32.toNatClampNeg v_t_position)) = 59 then (some (v_t_position + 1, 3, v_t_position, v_t_number)) else (some (v_t_position + 1, 4, v_t_position, v_t_number))) else none) else ((f_X6_readNumber fuel v_t_length v_t_position v_t_position v_t_characters).bind (fun q5 => some (q5.1, q5.2.1, v_t_position, q5.2.2))))) else none) else ((f_X6_readToken_L85 v_t_length v_t_characters fuel v_t_position).bind (fun q9 => some (q9, 1, v_t_position, v_t_number))))) else none) else (some (v_t_position, 0, v_t_position, v_t_number))
def f_X6_readToken_L0 (v_t_length : Int32) (v_t_characters : Nat → Int32) : Nat → Int32 → Option (Int32)
  | 0, _ => none
  | n_ + 1, v_t_position => if v_t_length ≤ v_t_position then (some (v_t_position)) else (if mg_ix v_t_position 200 = true then (if (v_t_characters (Int32.toNatClampNeg v_t_position)) = 32 then (f_X6_readToken_L0 v_t_length v_t_characters n_ (v_t_position + 1)) else (some (v_t_position))) else none)
def f_X6_readToken (fuel : Nat) (v_t_length : Int32) (v_t_position : Int32) (v_t_number : Int32) (v_t_characters : Nat → Int32) : Option (Int32 × Int32 × Int32 × Int32) := if v_t_length ≤ v_t_position then (f_X6_readToken_J38 fuel v_t_length v_t_position v_t_number v_t_characters) else (if mg_ix v_t_position 200 = true then (if (v_t_characters (Int32.toNatClampNeg v_t_position)) = 32 then ((f_X6_readToken_L0 v_t_length v_t_characters fuel (v_t_position + 1)).bind (fun q11 => f_X6_readToken_J38 fuel v_t_length q11 v_t_number v_t_characters)) else (f_X6_readToken_J38 fuel v_t_length v_t_position v_t_number v_t_characters)) else none)
theorem Y_X6_readToken : mg_Y yX6_readToken cX6_readToken 1 none 0 := ⟨wm_334, wp_0, wm_10, wm_335, ⟨by decide +kernel, by decide +kernel, by decide +kernel⟩, by decide⟩
set_option maxRecDepth 100000 in
set_option maxHeartbeats 4000000 in
theorem c_X6_readToken (l : Launch) (k : mg_K) (a_t a_t_characters a_t_values : Nat) (v_t_length : Int32) (v_t_position : Int32) (v_t_token : Int32) (v_t_tokenStart : Int32) (v_t_number : Int32) (v_t_characters : Nat → Int32) (fuel : Nat) (q : Int32 × Int32 × Int32 × Int32) (hf : f_X6_readToken fuel v_t_length v_t_position v_t_number v_t_characters = some q) : mg_M l yX6_readToken cX6_readToken 1 none 2 k [.ref a_t] (w_X6_readToken k a_t a_t_characters a_t_values v_t_length v_t_position v_t_token v_t_tokenStart v_t_number v_t_characters) (w_X6_readToken k a_t a_t_characters a_t_values v_t_length q.1 q.2.1 q.2.2.1 q.2.2.2 v_t_characters) none := by
  refine mg_Mv RX6 [(0, .ref a_t)] (by decide +kernel) rfl rfl (Nat.le_of_ble_eq_true rfl) ?_
  intro z A Q hl C E
  subst hl
  unfold f_X6_readToken at hf
  have L85 : ∀ (v_t_token : Int32) (v_t_tokenStart : Int32) (v_t_number : Int32) (n_ : Nat) (v_t_position : Int32) (q_ : Int32), f_X6_readToken_L85 v_t_length v_t_characters n_ v_t_position = some q_ → (mg z k A 1 0 0 Q (w_X6_readToken k a_t a_t_characters a_t_values v_t_length q_ v_t_token v_t_tokenStart v_t_number v_t_characters) [] 179 []) → mg z k A 1 0 0 Q (w_X6_readToken k a_t a_t_characters a_t_values v_t_length v_t_position v_t_token v_t_tokenStart v_t_number v_t_characters) [(0, .ref a_t)] 85 [] := by
    intro v_t_token v_t_tokenStart v_t_number n_
    induction n_ with
    | zero => intro v_t_position q_ hf; exact mg_no (show none = some q_ from hf)
    | succ n_ ih =>
      intro v_t_position q_ hf X0
      rw [f_X6_readToken_L85] at hf
      refine mg_aload_n (pc := 85) C 0 dX6_readToken_85 rfl rfl ?_
      refine mg_get (pc := 86) C 0 rfl rfl inX6 2 (by decide) wm_256 rfl rfl dX6_readToken_86 ?_
      refine mg_aload_n (pc := 89) C 0 dX6_readToken_89 rfl rfl ?_
      refine mg_get (pc := 90) C 0 rfl rfl inX6 1 (by decide) wm_254 rfl rfl dX6_readToken_90 ?_
      refine mg_icmp_ge (pc := 93) (tgt := 179) C dX6_readToken_93 (by decide) hf (fun hf => ?_) (fun hf => ?_)
      · obtain rfl := Option.some.inj hf
        refine mg_lv [] rfl ?_
        exact X0
      · refine mg_aload_n (pc := 96) C 0 dX6_readToken_96 rfl rfl ?_
        refine mg_get (pc := 97) C 0 rfl rfl inX6 0 (by decide) wm_253 rfl rfl dX6_readToken_97 ?_
        refine mg_aload_n (pc := 100) C 0 dX6_readToken_100 rfl rfl ?_
        refine mg_get (pc := 101) C 0 rfl rfl inX6 2 (by decide) wm_256 rfl rfl dX6_readToken_101 ?_
        refine mg_cald (pc := 104) C 1 rfl dX6_readToken_104 hf (fun hf => ?_)
        obtain ⟨q7, h8, hf⟩ := mg_b hf
        refine mg_callS (pc := 105) C (w2 := w_X6_readToken k a_t a_t_characters a_t_values v_t_length v_t_position v_t_token v_t_tokenStart v_t_number v_t_characters) (c_X6_isLetter z.2.1 k (v_t_characters (Int32.toNatClampNeg v_t_position)) q7 h8) Y_X6_isLetter wm_336 (by decide) rfl [] rfl (by decide) rfl [none, none] (by decide) rfl (Nat.le_of_ble_eq_true rfl) rfl dX6_readToken_105 ?_
        refine mg_if_eq (pc := 108) (tgt := 179) C dX6_readToken_108 (by decide) hf (fun hf => ?_) (fun hf => ?_)
        · obtain rfl := Option.some.inj hf
          refine mg_lv [] rfl ?_
          exact X0
        · refine mg_aload_n (pc := 111) C 0 dX6_readToken_111 rfl rfl ?_
          refine mg_dup (pc := 112) C dX6_readToken_112 rfl ?_
          refine mg_get (pc := 113) C 0 rfl rfl inX6 2 (by decide) wm_256 rfl rfl dX6_readToken_113 ?_
          refine mg_iconst (pc := 116) C dX6_readToken_116 (v := 1) (by decide) ?_
          refine mg_iadd (pc := 117) C dX6_readToken_117 ?_
          refine mg_puti (pc := 118) C (w2 := w_X6_readToken k a_t a_t_characters a_t_values v_t_length (v_t_position + 1) v_t_token v_t_tokenStart v_t_number v_t_characters) 0 rfl rfl inX6 2 (by decide) wm_256 rfl tyX6 tyX6_ok nmX6 rfl (by decide +kernel) (Nat.le_of_ble_eq_true rfl) rfl dX6_readToken_118 ?_
          refine mg_goto (pc := 121) (tgt := 85) C dX6_readToken_121 (by decide) ?_
          exact ih (v_t_position + 1) _ hf X0
  have J38 : ∀ (v_t_position : Int32) (v_t_token : Int32) (v_t_tokenStart : Int32) (v_t_number : Int32), f_X6_readToken_J38 fuel v_t_length v_t_position v_t_number v_t_characters = some q → mg z k A 1 0 0 Q (w_X6_readToken k a_t a_t_characters a_t_values v_t_length v_t_position v_t_token v_t_tokenStart v_t_number v_t_characters) [(0, .ref a_t)] 38 [] := by
    intro v_t_position v_t_token v_t_tokenStart v_t_number hf
    unfold f_X6_readToken_J38 at hf
    refine mg_aload_n (pc := 38) C 0 dX6_readToken_38 rfl rfl ?_
    refine mg_aload_n (pc := 39) C 0 dX6_readToken_39 rfl rfl ?_
    refine mg_get (pc := 40) C 0 rfl rfl inX6 2 (by decide) wm_256 rfl rfl dX6_readToken_40 ?_
    refine mg_puti (pc := 43) C (w2 := w_X6_readToken k a_t a_t_characters a_t_values v_t_length v_t_position v_t_token v_t_position v_t_number v_t_characters) 0 rfl rfl inX6 4 (by decide) wm_258 rfl tyX6 tyX6_ok nmX6 rfl (by decide +kernel) (Nat.le_of_ble_eq_true rfl) rfl dX6_readToken_43 ?_
    refine mg_aload_n (pc := 46) C 0 dX6_readToken_46 rfl rfl ?_
    refine mg_get (pc := 47) C 0 rfl rfl inX6 2 (by decide) wm_256 rfl rfl dX6_readToken_47 ?_
    refine mg_aload_n (pc := 50) C 0 dX6_readToken_50 rfl rfl ?_
    refine mg_get (pc := 51) C 0 rfl rfl inX6 1 (by decide) wm_254 rfl rfl dX6_readToken_51 ?_
    refine mg_icmp_lt (pc := 54) (tgt := 65) C dX6_readToken_54 (by decide) hf (fun hf => ?_) (fun hf => ?_)
    · refine mg_aload_n (pc := 65) C 0 dX6_readToken_65 rfl rfl ?_
      refine mg_get (pc := 66) C 0 rfl rfl inX6 0 (by decide) wm_253 rfl rfl dX6_readToken_66 ?_
      refine mg_aload_n (pc := 69) C 0 dX6_readToken_69 rfl rfl ?_
      refine mg_get (pc := 70) C 0 rfl rfl inX6 2 (by decide) wm_256 rfl rfl dX6_readToken_70 ?_
      refine mg_cald (pc := 73) C 1 rfl dX6_readToken_73 hf (fun hf => ?_)
      obtain ⟨q1, h2, hf⟩ := mg_b hf
      refine mg_callS (pc := 74) C (w2 := w_X6_readToken k a_t a_t_characters a_t_values v_t_length v_t_position v_t_token v_t_position v_t_number v_t_characters) (c_X6_isLetter z.2.1 k (v_t_characters (Int32.toNatClampNeg v_t_position)) q1 h2) Y_X6_isLetter wm_336 (by decide) rfl [] rfl (by decide) rfl [none, none] (by decide) rfl (Nat.le_of_ble_eq_true rfl) rfl dX6_readToken_74 ?_
      refine mg_if_eq (pc := 77) (tgt := 124) C dX6_readToken_77 (by decide) hf (fun hf => ?_) (fun hf => ?_)
      · refine mg_aload_n (pc := 124) C 0 dX6_readToken_124 rfl rfl ?_
        refine mg_get (pc := 125) C 0 rfl rfl inX6 0 (by decide) wm_253 rfl rfl dX6_readToken_125 ?_
        refine mg_aload_n (pc := 128) C 0 dX6_readToken_128 rfl rfl ?_
        refine mg_get (pc := 129) C 0 rfl rfl inX6 2 (by decide) wm_256 rfl rfl dX6_readToken_129 ?_
        refine mg_cald (pc := 132) C 1 rfl dX6_readToken_132 hf (fun hf => ?_)
        obtain ⟨q3, h4, hf⟩ := mg_b hf
        refine mg_callS (pc := 133) C (w2 := w_X6_readToken k a_t a_t_characters a_t_values v_t_length v_t_position v_t_token v_t_position v_t_number v_t_characters) (c_X6_isDigit z.2.1 k (v_t_characters (Int32.toNatClampNeg v_t_position)) q3 h4) Y_X6_isDigit wm_339 (by decide) rfl [] rfl (by decide) rfl [none, none] (by decide) rfl (Nat.le_of_ble_eq_true rfl) rfl dX6_readToken_133 ?_
        refine mg_if_eq (pc := 136) (tgt := 146) C dX6_readToken_136 (by decide) hf (fun hf => ?_) (fun hf => ?_)
        · refine mg_aload_n (pc := 146) C 0 dX6_readToken_146 rfl rfl ?_
          refine mg_aload_n (pc := 147) C 0 dX6_readToken_147 rfl rfl ?_
          refine mg_get (pc := 148) C 0 rfl rfl inX6 0 (by decide) wm_253 rfl rfl dX6_readToken_148 ?_
          refine mg_aload_n (pc := 151) C 0 dX6_readToken_151 rfl rfl ?_
          refine mg_get (pc := 152) C 0 rfl rfl inX6 2 (by decide) wm_256 rfl rfl dX6_readToken_152 ?_
          refine mg_cald (pc := 155) C 1 rfl dX6_readToken_155 hf (fun hf => ?_)
          refine mg_bipush (pc := 156) C dX6_readToken_156 (v := 59) (by decide) ?_
          refine mg_icmp_ne (pc := 158) (tgt := 165) C dX6_readToken_158 (by decide) hf (fun hf => ?_) (fun hf => ?_)
          · refine mg_iconst (pc := 165) C dX6_readToken_165 (v := 4) (by decide) ?_
            refine mg_puti (pc := 166) C (w2 := w_X6_readToken k a_t a_t_characters a_t_values v_t_length v_t_position 4 v_t_position v_t_number v_t_characters) 0 rfl rfl inX6 3 (by decide) wm_257 rfl tyX6 tyX6_ok nmX6 rfl (by decide +kernel) (Nat.le_of_ble_eq_true rfl) rfl dX6_readToken_166 ?_
            refine mg_aload_n (pc := 169) C 0 dX6_readToken_169 rfl rfl ?_
            refine mg_dup (pc := 170) C dX6_readToken_170 rfl ?_
            refine mg_get (pc := 171) C 0 rfl rfl inX6 2 (by decide) wm_256 rfl rfl dX6_readToken_171 ?_
            refine mg_iconst (pc := 174) C dX6_readToken_174 (v := 1) (by decide) ?_
            refine mg_iadd (pc := 175) C dX6_readToken_175 ?_
            refine mg_puti (pc := 176) C (w2 := w_X6_readToken k a_t a_t_characters a_t_values v_t_length (v_t_position + 1) 4 v_t_position v_t_number v_t_characters) 0 rfl rfl inX6 2 (by decide) wm_256 rfl tyX6 tyX6_ok nmX6 rfl (by decide +kernel) (Nat.le_of_ble_eq_true rfl) rfl dX6_readToken_176 ?_
            obtain rfl := Option.some.inj hf
            exact E _ _ dX6_readToken_179
          · refine mg_iconst (pc := 161) C dX6_readToken_161 (v := 3) (by decide) ?_
            refine mg_goto (pc := 162) (tgt := 166) C dX6_readToken_162 (by decide) ?_
            refine mg_puti (pc := 166) C (w2 := w_X6_readToken k a_t a_t_characters a_t_values v_t_length v_t_position 3 v_t_position v_t_number v_t_characters) 0 rfl rfl inX6 3 (by decide) wm_257 rfl tyX6 tyX6_ok nmX6 rfl (by decide +kernel) (Nat.le_of_ble_eq_true rfl) rfl dX6_readToken_166 ?_
            refine mg_aload_n (pc := 169) C 0 dX6_readToken_169 rfl rfl ?_
            refine mg_dup (pc := 170) C dX6_readToken_170 rfl ?_
            refine mg_get (pc := 171) C 0 rfl rfl inX6 2 (by decide) wm_256 rfl rfl dX6_readToken_171 ?_
            refine mg_iconst (pc := 174) C dX6_readToken_174 (v := 1) (by decide) ?_
            refine mg_iadd (pc := 175) C dX6_readToken_175 ?_
            refine mg_puti (pc := 176) C (w2 := w_X6_readToken k a_t a_t_characters a_t_values v_t_length (v_t_position + 1) 3 v_t_position v_t_number v_t_characters) 0 rfl rfl inX6 2 (by decide) wm_256 rfl tyX6 tyX6_ok nmX6 rfl (by decide +kernel) (Nat.le_of_ble_eq_true rfl) rfl dX6_readToken_176 ?_
            obtain rfl := Option.some.inj hf
            exact E _ _ dX6_readToken_179
        · refine mg_aload_n (pc := 139) C 0 dX6_readToken_139 rfl rfl ?_
          obtain ⟨q5, h6, hf⟩ := mg_b hf
          refine mg_callV (pc := 140) C (w2 := w_X6_readToken k a_t a_t_characters a_t_values v_t_length q5.1 q5.2.1 v_t_position q5.2.2 v_t_characters) (c_X6_readNumber z.2.1 k a_t a_t_characters a_t_values v_t_length v_t_position v_t_token v_t_position v_t_number v_t_characters fuel q5 h6) Y_X6_readNumber wm_342 (by decide) rfl 0 rfl rfl rfl [0, 1] rfl (by decide) rfl [some 0, some 1] (by decide) rfl (Nat.le_of_ble_eq_true rfl) rfl dX6_readToken_140 ?_
          refine mg_goto (pc := 143) (tgt := 179) C dX6_readToken_143 (by decide) ?_
          obtain rfl := Option.some.inj hf
          exact E _ _ dX6_readToken_179
      · refine mg_aload_n (pc := 80) C 0 dX6_readToken_80 rfl rfl ?_
        refine mg_iconst (pc := 81) C dX6_readToken_81 (v := 1) (by decide) ?_
        refine mg_puti (pc := 82) C (w2 := w_X6_readToken k a_t a_t_characters a_t_values v_t_length v_t_position 1 v_t_position v_t_number v_t_characters) 0 rfl rfl inX6 3 (by decide) wm_257 rfl tyX6 tyX6_ok nmX6 rfl (by decide +kernel) (Nat.le_of_ble_eq_true rfl) rfl dX6_readToken_82 ?_
        obtain ⟨q9, h10, hf⟩ := mg_b hf
        refine L85 1 v_t_position v_t_number fuel v_t_position q9 h10 ?_
        obtain rfl := Option.some.inj hf
        exact E _ _ dX6_readToken_179
    · refine mg_aload_n (pc := 57) C 0 dX6_readToken_57 rfl rfl ?_
      refine mg_iconst (pc := 58) C dX6_readToken_58 (v := 0) (by decide) ?_
      refine mg_puti (pc := 59) C (w2 := w_X6_readToken k a_t a_t_characters a_t_values v_t_length v_t_position 0 v_t_position v_t_number v_t_characters) 0 rfl rfl inX6 3 (by decide) wm_257 rfl tyX6 tyX6_ok nmX6 rfl (by decide +kernel) (Nat.le_of_ble_eq_true rfl) rfl dX6_readToken_59 ?_
      refine mg_goto (pc := 62) (tgt := 179) C dX6_readToken_62 (by decide) ?_
      obtain rfl := Option.some.inj hf
      exact E _ _ dX6_readToken_179
  have L0 : ∀ (v_t_token : Int32) (v_t_tokenStart : Int32) (v_t_number : Int32) (n_ : Nat) (v_t_position : Int32) (q_ : Int32), f_X6_readToken_L0 v_t_length v_t_characters n_ v_t_position = some q_ → (mg z k A 1 0 0 Q (w_X6_readToken k a_t a_t_characters a_t_values v_t_length q_ v_t_token v_t_tokenStart v_t_number v_t_characters) [(0, .ref a_t)] 38 []) → mg z k A 1 0 0 Q (w_X6_readToken k a_t a_t_characters a_t_values v_t_length v_t_position v_t_token v_t_tokenStart v_t_number v_t_characters) [(0, .ref a_t)] 0 [] := by
    intro v_t_token v_t_tokenStart v_t_number n_
    induction n_ with
    | zero => intro v_t_position q_ hf; exact mg_no (show none = some q_ from hf)
    | succ n_ ih =>
      intro v_t_position q_ hf X0
      rw [f_X6_readToken_L0] at hf
      refine mg_aload_n (pc := 0) C 0 dX6_readToken_0 rfl rfl ?_
      refine mg_get (pc := 1) C 0 rfl rfl inX6 2 (by decide) wm_256 rfl rfl dX6_readToken_1 ?_
      refine mg_aload_n (pc := 4) C 0 dX6_readToken_4 rfl rfl ?_
      refine mg_get (pc := 5) C 0 rfl rfl inX6 1 (by decide) wm_254 rfl rfl dX6_readToken_5 ?_
      refine mg_icmp_ge (pc := 8) (tgt := 38) C dX6_readToken_8 (by decide) hf (fun hf => ?_) (fun hf => ?_)
      · obtain rfl := Option.some.inj hf
        exact X0
      · refine mg_aload_n (pc := 11) C 0 dX6_readToken_11 rfl rfl ?_
        refine mg_get (pc := 12) C 0 rfl rfl inX6 0 (by decide) wm_253 rfl rfl dX6_readToken_12 ?_
        refine mg_aload_n (pc := 15) C 0 dX6_readToken_15 rfl rfl ?_
        refine mg_get (pc := 16) C 0 rfl rfl inX6 2 (by decide) wm_256 rfl rfl dX6_readToken_16 ?_
        refine mg_cald (pc := 19) C 1 rfl dX6_readToken_19 hf (fun hf => ?_)
        refine mg_bipush (pc := 20) C dX6_readToken_20 (v := 32) (by decide) ?_
        refine mg_icmp_ne (pc := 22) (tgt := 38) C dX6_readToken_22 (by decide) hf (fun hf => ?_) (fun hf => ?_)
        · obtain rfl := Option.some.inj hf
          exact X0
        · refine mg_aload_n (pc := 25) C 0 dX6_readToken_25 rfl rfl ?_
          refine mg_dup (pc := 26) C dX6_readToken_26 rfl ?_
          refine mg_get (pc := 27) C 0 rfl rfl inX6 2 (by decide) wm_256 rfl rfl dX6_readToken_27 ?_
          refine mg_iconst (pc := 30) C dX6_readToken_30 (v := 1) (by decide) ?_
          refine mg_iadd (pc := 31) C dX6_readToken_31 ?_
          refine mg_puti (pc := 32) C (w2 := w_X6_readToken k a_t a_t_characters a_t_values v_t_length (v_t_position + 1) v_t_token v_t_tokenStart v_t_number v_t_characters) 0 rfl rfl inX6 2 (by decide) wm_256 rfl tyX6 tyX6_ok nmX6 rfl (by decide +kernel) (Nat.le_of_ble_eq_true rfl) rfl dX6_readToken_32 ?_
          refine mg_goto (pc := 35) (tgt := 0) C dX6_readToken_35 (by decide) ?_
          exact ih (v_t_position + 1) _ hf X0
  refine mg_aload_n (pc := 0) C 0 dX6_readToken_0 rfl rfl ?_
  refine mg_get (pc := 1) C 0 rfl rfl inX6 2 (by decide) wm_256 rfl rfl dX6_readToken_1 ?_
  refine mg_aload_n (pc := 4) C 0 dX6_readToken_4 rfl rfl ?_
  refine mg_get (pc := 5) C 0 rfl rfl inX6 1 (by decide) wm_254 rfl rfl dX6_readToken_5 ?_
  refine mg_icmp_ge (pc := 8) (tgt := 38) C dX6_readToken_8 (by decide) hf (fun hf => ?_) (fun hf => ?_)
  · exact J38 v_t_position v_t_token v_t_tokenStart v_t_number hf
  · refine mg_aload_n (pc := 11) C 0 dX6_readToken_11 rfl rfl ?_
    refine mg_get (pc := 12) C 0 rfl rfl inX6 0 (by decide) wm_253 rfl rfl dX6_readToken_12 ?_
    refine mg_aload_n (pc := 15) C 0 dX6_readToken_15 rfl rfl ?_
    refine mg_get (pc := 16) C 0 rfl rfl inX6 2 (by decide) wm_256 rfl rfl dX6_readToken_16 ?_
    refine mg_cald (pc := 19) C 1 rfl dX6_readToken_19 hf (fun hf => ?_)
    refine mg_bipush (pc := 20) C dX6_readToken_20 (v := 32) (by decide) ?_
    refine mg_icmp_ne (pc := 22) (tgt := 38) C dX6_readToken_22 (by decide) hf (fun hf => ?_) (fun hf => ?_)
    · exact J38 v_t_position v_t_token v_t_tokenStart v_t_number hf
    · refine mg_aload_n (pc := 25) C 0 dX6_readToken_25 rfl rfl ?_
      refine mg_dup (pc := 26) C dX6_readToken_26 rfl ?_
      refine mg_get (pc := 27) C 0 rfl rfl inX6 2 (by decide) wm_256 rfl rfl dX6_readToken_27 ?_
      refine mg_iconst (pc := 30) C dX6_readToken_30 (v := 1) (by decide) ?_
      refine mg_iadd (pc := 31) C dX6_readToken_31 ?_
      refine mg_puti (pc := 32) C (w2 := w_X6_readToken k a_t a_t_characters a_t_values v_t_length (v_t_position + 1) v_t_token v_t_tokenStart v_t_number v_t_characters) 0 rfl rfl inX6 2 (by decide) wm_256 rfl tyX6 tyX6_ok nmX6 rfl (by decide +kernel) (Nat.le_of_ble_eq_true rfl) rfl dX6_readToken_32 ?_
      refine mg_goto (pc := 35) (tgt := 0) C dX6_readToken_35 (by decide) ?_
      obtain ⟨q11, h12, hf⟩ := mg_b hf
      refine L0 v_t_token v_t_tokenStart v_t_number fuel (v_t_position + 1) q11 h12 ?_
      exact J38 q11 v_t_token v_t_tokenStart v_t_number hf
abbrev w_X6_readSemicolon (k : mg_K) (a_t a_t_characters a_t_values : Nat) (v_t_length : Int32) (v_t_position : Int32) (v_t_token : Int32) (v_t_tokenStart : Int32) (v_t_number : Int32) (v_t_characters : Nat → Int32) : va_W := [(a_t, .inr (6, [.ref a_t_characters, .int v_t_length, .int v_t_position, .int v_t_token, .int v_t_tokenStart, .int v_t_number, .ref a_t_values])), (a_t_characters, .inl (k.2.2.1, 200, .inl v_t_characters))]
def f_X6_readSemicolon (fuel : Nat) (v_t_length : Int32) (v_t_position : Int32) (v_t_number : Int32) (v_t_characters : Nat → Int32) : Option (Int32 × Int32 × Int32 × Int32 × Int32) := (f_X6_readToken fuel v_t_length v_t_position v_t_number v_t_characters).bind (fun q1 => if q1.2.1 = 3 then (some (1, q1.1, q1.2.1, q1.2.2.1, q1.2.2.2)) else (some (0, q1.1, q1.2.1, q1.2.2.1, q1.2.2.2)))
theorem Y_X6_readSemicolon : mg_Y yX6_readSemicolon cX6_readSemicolon 1 (some .boolean) 0 := ⟨wm_448, wp_10, wm_10, wm_449, ⟨by decide +kernel, by decide +kernel, by decide +kernel⟩, by decide⟩
set_option maxRecDepth 100000 in
set_option maxHeartbeats 4000000 in
theorem c_X6_readSemicolon (l : Launch) (k : mg_K) (a_t a_t_characters a_t_values : Nat) (v_t_length : Int32) (v_t_position : Int32) (v_t_token : Int32) (v_t_tokenStart : Int32) (v_t_number : Int32) (v_t_characters : Nat → Int32) (fuel : Nat) (q : Int32 × Int32 × Int32 × Int32 × Int32) (hf : f_X6_readSemicolon fuel v_t_length v_t_position v_t_number v_t_characters = some q) : mg_M l yX6_readSemicolon cX6_readSemicolon 1 (some .boolean) 3 k [.ref a_t] (w_X6_readSemicolon k a_t a_t_characters a_t_values v_t_length v_t_position v_t_token v_t_tokenStart v_t_number v_t_characters) (w_X6_readSemicolon k a_t a_t_characters a_t_values v_t_length q.2.1 q.2.2.1 q.2.2.2.1 q.2.2.2.2 v_t_characters) (some (.int q.1)) := by
  refine mg_Mz RX6 [(0, .ref a_t)] (by decide +kernel) rfl rfl (Nat.le_of_ble_eq_true rfl) ?_
  intro z A Q hl C E
  subst hl
  unfold f_X6_readSemicolon at hf
  refine mg_aload_n (pc := 0) C 0 dX6_readSemicolon_0 rfl rfl ?_
  obtain ⟨q1, h2, hf⟩ := mg_b hf
  refine mg_callV (pc := 1) C (w2 := w_X6_readSemicolon k a_t a_t_characters a_t_values v_t_length q1.1 q1.2.1 q1.2.2.1 q1.2.2.2 v_t_characters) (c_X6_readToken z.2.1 k a_t a_t_characters a_t_values v_t_length v_t_position v_t_token v_t_tokenStart v_t_number v_t_characters fuel q1 h2) Y_X6_readToken wm_332 (by decide) rfl 0 rfl rfl rfl [0, 1] rfl (by decide) rfl [some 0, some 1] (by decide) rfl (Nat.le_of_ble_eq_true rfl) rfl dX6_readSemicolon_1 ?_
  refine mg_aload_n (pc := 4) C 0 dX6_readSemicolon_4 rfl rfl ?_
  refine mg_get (pc := 5) C 0 rfl rfl inX6 3 (by decide) wm_257 rfl rfl dX6_readSemicolon_5 ?_
  refine mg_iconst (pc := 8) C dX6_readSemicolon_8 (v := 3) (by decide) ?_
  refine mg_icmp_ne (pc := 9) (tgt := 16) C dX6_readSemicolon_9 (by decide) hf (fun hf => ?_) (fun hf => ?_)
  · refine mg_iconst (pc := 16) C dX6_readSemicolon_16 (v := 0) (by decide) ?_
    obtain rfl := Option.some.inj hf
    exact E mg_n0 _ _ dX6_readSemicolon_17
  · refine mg_iconst (pc := 12) C dX6_readSemicolon_12 (v := 1) (by decide) ?_
    refine mg_goto (pc := 13) (tgt := 17) C dX6_readSemicolon_13 (by decide) ?_
    obtain rfl := Option.some.inj hf
    exact E mg_n1 _ _ dX6_readSemicolon_17
abbrev w_X8_isWithin (k : mg_K) : va_W := []
def f_X8_isWithin (x0 : Int32) (x1 : Int32) (x2 : Int32) : Option (Int32) := if x0 < x1 then (some 0) else (if x2 < x0 then (some 0) else (some 1))
theorem Y_X8_isWithin : mg_YS yX8_isWithin cX8_isWithin 3 (some .boolean) 3 := ⟨wm_311, wm_1, wm_312, ⟨by decide +kernel, by decide +kernel, by decide +kernel⟩, by decide⟩
set_option maxRecDepth 100000 in
set_option maxHeartbeats 4000000 in
theorem c_X8_isWithin (l : Launch) (k : mg_K) (x0 : Int32) (x1 : Int32) (x2 : Int32) (q : Int32) (hf : f_X8_isWithin x0 x1 x2 = some q) : mg_M l yX8_isWithin cX8_isWithin 3 (some .boolean) 0 k [.int x0, .int x1, .int x2] (w_X8_isWithin k) (w_X8_isWithin k) (some (.int q)) := by
  refine mg_Mz RX8 [(0, .int x0), (1, .int x1), (2, .int x2)] (by decide +kernel) rfl rfl (Nat.le_of_ble_eq_true rfl) ?_
  intro z A Q hl C E
  subst hl
  unfold f_X8_isWithin at hf
  refine mg_iload_n (pc := 0) C 0 dX8_isWithin_0 rfl rfl ?_
  refine mg_iload_n (pc := 1) C 1 dX8_isWithin_1 rfl rfl ?_
  refine mg_icmp_lt (pc := 2) (tgt := 14) C dX8_isWithin_2 (by decide) hf (fun hf => ?_) (fun hf => ?_)
  · refine mg_iconst (pc := 14) C dX8_isWithin_14 (v := 0) (by decide) ?_
    obtain rfl := Option.some.inj hf
    exact E mg_n0 _ _ dX8_isWithin_15
  · refine mg_iload_n (pc := 5) C 0 dX8_isWithin_5 rfl rfl ?_
    refine mg_iload_n (pc := 6) C 2 dX8_isWithin_6 rfl rfl ?_
    refine mg_icmp_gt (pc := 7) (tgt := 14) C dX8_isWithin_7 (by decide) hf (fun hf => ?_) (fun hf => ?_)
    · refine mg_iconst (pc := 14) C dX8_isWithin_14 (v := 0) (by decide) ?_
      obtain rfl := Option.some.inj hf
      exact E mg_n0 _ _ dX8_isWithin_15
    · refine mg_iconst (pc := 10) C dX8_isWithin_10 (v := 1) (by decide) ?_
      refine mg_goto (pc := 11) (tgt := 15) C dX8_isWithin_11 (by decide) ?_
      obtain rfl := Option.some.inj hf
      exact E mg_n1 _ _ dX8_isWithin_15
abbrev w_X6_isAllowedInBoulder (k : mg_K) (a_t a_p2 a_p2_ballast a_p2_lubricated a_p2_pose a_p2_ground a_p2_boulders a_p2_records a_p2_boulders_list a_p2_boulders_list_values a_t_characters a_t_values : Nat) (v_p2_columns : Int32) (v_p2_rows : Int32) (v_p2_weight : Int32) (v_p2_stiffness : Int32) (v_p2_water : Int32) (v_p2_boulders_list_count : Int32) (v_p2_boulders_list_values : Nat → Int32) (v_t_length : Int32) (v_t_position : Int32) (v_t_token : Int32) (v_t_tokenStart : Int32) (v_t_number : Int32) (v_t_values : Nat → Int32) : va_W := [(a_p2, .inr (5, [.int v_p2_columns, .int v_p2_rows, .int v_p2_weight, .int v_p2_stiffness, .int v_p2_water, .ref a_p2_ballast, .ref a_p2_lubricated, .ref a_p2_pose, .ref a_p2_ground, .ref a_p2_boulders, .ref a_p2_records])), (a_p2_boulders, .inr (0, [.ref a_p2_boulders_list])), (a_p2_boulders_list, .inr (7, [.int 10, .ref a_p2_boulders_list_values, .int v_p2_boulders_list_count])), (a_p2_boulders_list_values, .inl (k.2.1, 30, .inl v_p2_boulders_list_values)), (a_t, .inr (6, [.ref a_t_characters, .int v_t_length, .int v_t_position, .int v_t_token, .int v_t_tokenStart, .int v_t_number, .ref a_t_values])), (a_t_values, .inl (k.2.1, 4, .inl v_t_values))]
def f_X6_isAllowedInBoulder (fuel : Nat) (v_p2_columns : Int32) (v_p2_rows : Int32) (v_p2_boulders_list_count : Int32) (v_p2_boulders_list_values : Nat → Int32) (v_t_number : Int32) (v_t_values : Nat → Int32) (x1 : Int32) : Option (Int32) := if x1 = 0 then ((f_X8_isWithin v_t_number 0 (v_p2_columns - 1)).bind (fun q2 => if q2 &&& 1 = q2 then some q2 else none)) else if x1 = 1 then ((f_X8_isWithin v_t_number 0 (v_p2_rows - 1)).bind (fun q6 => if q6 &&& 1 = q6 then some q6 else none)) else if x1 = 2 then ((f_X8_isWithin v_t_number 1 200).bind (fun q10 => if q10 = 0 then (some 0) else ((f_X6_cellInValues v_p2_columns v_t_values).bind (fun q12 => (f_X0_isTaken fuel v_p2_boulders_list_count v_p2_boulders_list_values q12 v_t_number).bind (fun q14 => if q14 = 0 then (some 1) else (some 0)))))) else ((f_X8_isWithin v_t_number 1 50).bind (fun q16 => if q16 &&& 1 = q16 then some q16 else none))
theorem Y_X6_isAllowedInBoulder : mg_Y yX6_isAllowedInBoulder cX6_isAllowedInBoulder 3 (some .boolean) 2 := ⟨wm_431, wp_8, wm_10, wm_432, ⟨by decide +kernel, by decide +kernel, by decide +kernel⟩, by decide⟩
set_option maxRecDepth 100000 in
set_option maxHeartbeats 4000000 in
theorem c_X6_isAllowedInBoulder (l : Launch) (k : mg_K) (a_t a_p2 a_p2_ballast a_p2_lubricated a_p2_pose a_p2_ground a_p2_boulders a_p2_records a_p2_boulders_list a_p2_boulders_list_values a_t_characters a_t_values : Nat) (v_p2_columns : Int32) (v_p2_rows : Int32) (v_p2_weight : Int32) (v_p2_stiffness : Int32) (v_p2_water : Int32) (v_p2_boulders_list_count : Int32) (v_p2_boulders_list_values : Nat → Int32) (v_t_length : Int32) (v_t_position : Int32) (v_t_token : Int32) (v_t_tokenStart : Int32) (v_t_number : Int32) (v_t_values : Nat → Int32) (fuel : Nat) (x1 : Int32) (q : Int32) (hf : f_X6_isAllowedInBoulder fuel v_p2_columns v_p2_rows v_p2_boulders_list_count v_p2_boulders_list_values v_t_number v_t_values x1 = some q) : mg_M l yX6_isAllowedInBoulder cX6_isAllowedInBoulder 3 (some .boolean) 2 k [.ref a_t, .int x1, .ref a_p2] (w_X6_isAllowedInBoulder k a_t a_p2 a_p2_ballast a_p2_lubricated a_p2_pose a_p2_ground a_p2_boulders a_p2_records a_p2_boulders_list a_p2_boulders_list_values a_t_characters a_t_values v_p2_columns v_p2_rows v_p2_weight v_p2_stiffness v_p2_water v_p2_boulders_list_count v_p2_boulders_list_values v_t_length v_t_position v_t_token v_t_tokenStart v_t_number v_t_values) (w_X6_isAllowedInBoulder k a_t a_p2 a_p2_ballast a_p2_lubricated a_p2_pose a_p2_ground a_p2_boulders a_p2_records a_p2_boulders_list a_p2_boulders_list_values a_t_characters a_t_values v_p2_columns v_p2_rows v_p2_weight v_p2_stiffness v_p2_water v_p2_boulders_list_count v_p2_boulders_list_values v_t_length v_t_position v_t_token v_t_tokenStart v_t_number v_t_values) (some (.int q)) := by
  refine mg_Mz RX6 [(0, .ref a_t), (1, .int x1), (2, .ref a_p2)] (by decide +kernel) rfl rfl (Nat.le_of_ble_eq_true rfl) ?_
  intro z A Q hl C E
  subst hl
  unfold f_X6_isAllowedInBoulder at hf
  refine mg_iload_n (pc := 0) C 1 dX6_isAllowedInBoulder_0 rfl rfl ?_
  refine mg_cs hf (fun e1 hf => ?_) (fun e1 hf => ?_)
  · refine mg_tableIn (pc := 1) (off := 27) (tgt := 28) C 0 e1 dX6_isAllowedInBoulder_1 (by decide) (by decide) (by decide) (by decide) ?_
    refine mg_aload_n (pc := 28) C 0 dX6_isAllowedInBoulder_28 rfl rfl ?_
    refine mg_get (pc := 29) C 4 rfl rfl inX6 5 (by decide) wm_259 rfl rfl dX6_isAllowedInBoulder_29 ?_
    refine mg_iconst (pc := 32) C dX6_isAllowedInBoulder_32 (v := 0) (by decide) ?_
    refine mg_aload_n (pc := 33) C 2 dX6_isAllowedInBoulder_33 rfl rfl ?_
    refine mg_get (pc := 34) C 0 rfl rfl inX5 0 (by decide) wm_136 rfl rfl dX6_isAllowedInBoulder_34 ?_
    refine mg_iconst (pc := 37) C dX6_isAllowedInBoulder_37 (v := 1) (by decide) ?_
    refine mg_isub (pc := 38) C dX6_isAllowedInBoulder_38 ?_
    obtain ⟨q2, h3, hf⟩ := mg_b hf
    refine mg_callSN (pc := 39) C (w2 := w_X6_isAllowedInBoulder k a_t a_p2 a_p2_ballast a_p2_lubricated a_p2_pose a_p2_ground a_p2_boulders a_p2_records a_p2_boulders_list a_p2_boulders_list_values a_t_characters a_t_values v_p2_columns v_p2_rows v_p2_weight v_p2_stiffness v_p2_water v_p2_boulders_list_count v_p2_boulders_list_values v_t_length v_t_position v_t_token v_t_tokenStart v_t_number v_t_values) (host := RX8) (c_X8_isWithin z.2.1 k v_t_number 0 (v_p2_columns - 1) q2 h3) Y_X8_isWithin (by simp [mg_nw]) (by decide) rfl [] rfl (by decide) rfl [none, none, none, none, none, none] (by decide) rfl (Nat.le_of_ble_eq_true rfl) rfl dX6_isAllowedInBoulder_39 ?_
    obtain ⟨d4, hf⟩ := mg_ck hf
    obtain rfl := Option.some.inj hf
    exact E (mg_nb d4) _ _ dX6_isAllowedInBoulder_42
  refine mg_cs hf (fun e5 hf => ?_) (fun e5 hf => ?_)
  · refine mg_tableIn (pc := 1) (off := 42) (tgt := 43) C 1 e5 dX6_isAllowedInBoulder_1 (by decide) (by decide) (by decide) (by decide) ?_
    refine mg_aload_n (pc := 43) C 0 dX6_isAllowedInBoulder_43 rfl rfl ?_
    refine mg_get (pc := 44) C 4 rfl rfl inX6 5 (by decide) wm_259 rfl rfl dX6_isAllowedInBoulder_44 ?_
    refine mg_iconst (pc := 47) C dX6_isAllowedInBoulder_47 (v := 0) (by decide) ?_
    refine mg_aload_n (pc := 48) C 2 dX6_isAllowedInBoulder_48 rfl rfl ?_
    refine mg_get (pc := 49) C 0 rfl rfl inX5 1 (by decide) wm_140 rfl rfl dX6_isAllowedInBoulder_49 ?_
    refine mg_iconst (pc := 52) C dX6_isAllowedInBoulder_52 (v := 1) (by decide) ?_
    refine mg_isub (pc := 53) C dX6_isAllowedInBoulder_53 ?_
    obtain ⟨q6, h7, hf⟩ := mg_b hf
    refine mg_callSN (pc := 54) C (w2 := w_X6_isAllowedInBoulder k a_t a_p2 a_p2_ballast a_p2_lubricated a_p2_pose a_p2_ground a_p2_boulders a_p2_records a_p2_boulders_list a_p2_boulders_list_values a_t_characters a_t_values v_p2_columns v_p2_rows v_p2_weight v_p2_stiffness v_p2_water v_p2_boulders_list_count v_p2_boulders_list_values v_t_length v_t_position v_t_token v_t_tokenStart v_t_number v_t_values) (host := RX8) (c_X8_isWithin z.2.1 k v_t_number 0 (v_p2_rows - 1) q6 h7) Y_X8_isWithin (by simp [mg_nw]) (by decide) rfl [] rfl (by decide) rfl [none, none, none, none, none, none] (by decide) rfl (Nat.le_of_ble_eq_true rfl) rfl dX6_isAllowedInBoulder_54 ?_
    obtain ⟨d8, hf⟩ := mg_ck hf
    obtain rfl := Option.some.inj hf
    exact E (mg_nb d8) _ _ dX6_isAllowedInBoulder_57
  refine mg_cs hf (fun e9 hf => ?_) (fun e9 hf => ?_)
  · refine mg_tableIn (pc := 1) (off := 57) (tgt := 58) C 2 e9 dX6_isAllowedInBoulder_1 (by decide) (by decide) (by decide) (by decide) ?_
    refine mg_aload_n (pc := 58) C 0 dX6_isAllowedInBoulder_58 rfl rfl ?_
    refine mg_get (pc := 59) C 4 rfl rfl inX6 5 (by decide) wm_259 rfl rfl dX6_isAllowedInBoulder_59 ?_
    refine mg_iconst (pc := 62) C dX6_isAllowedInBoulder_62 (v := 1) (by decide) ?_
    refine mg_sipush (pc := 63) C dX6_isAllowedInBoulder_63 (v := 200) (by decide) ?_
    obtain ⟨q10, h11, hf⟩ := mg_b hf
    refine mg_callSN (pc := 66) C (w2 := w_X6_isAllowedInBoulder k a_t a_p2 a_p2_ballast a_p2_lubricated a_p2_pose a_p2_ground a_p2_boulders a_p2_records a_p2_boulders_list a_p2_boulders_list_values a_t_characters a_t_values v_p2_columns v_p2_rows v_p2_weight v_p2_stiffness v_p2_water v_p2_boulders_list_count v_p2_boulders_list_values v_t_length v_t_position v_t_token v_t_tokenStart v_t_number v_t_values) (host := RX8) (c_X8_isWithin z.2.1 k v_t_number 1 200 q10 h11) Y_X8_isWithin (by simp [mg_nw]) (by decide) rfl [] rfl (by decide) rfl [none, none, none, none, none, none] (by decide) rfl (Nat.le_of_ble_eq_true rfl) rfl dX6_isAllowedInBoulder_66 ?_
    refine mg_if_eq (pc := 69) (tgt := 95) C dX6_isAllowedInBoulder_69 (by decide) hf (fun hf => ?_) (fun hf => ?_)
    · refine mg_iconst (pc := 95) C dX6_isAllowedInBoulder_95 (v := 0) (by decide) ?_
      obtain rfl := Option.some.inj hf
      exact E mg_n0 _ _ dX6_isAllowedInBoulder_96
    · refine mg_aload_n (pc := 72) C 2 dX6_isAllowedInBoulder_72 rfl rfl ?_
      refine mg_get (pc := 73) C 0 rfl rfl inX5 9 (by decide) wm_166 rfl rfl dX6_isAllowedInBoulder_73 ?_
      refine mg_aload_n (pc := 76) C 0 dX6_isAllowedInBoulder_76 rfl rfl ?_
      refine mg_aload_n (pc := 77) C 2 dX6_isAllowedInBoulder_77 rfl rfl ?_
      obtain ⟨q12, h13, hf⟩ := mg_b hf
      refine mg_callV (pc := 78) C (w2 := w_X6_isAllowedInBoulder k a_t a_p2 a_p2_ballast a_p2_lubricated a_p2_pose a_p2_ground a_p2_boulders a_p2_records a_p2_boulders_list a_p2_boulders_list_values a_t_characters a_t_values v_p2_columns v_p2_rows v_p2_weight v_p2_stiffness v_p2_water v_p2_boulders_list_count v_p2_boulders_list_values v_t_length v_t_position v_t_token v_t_tokenStart v_t_number v_t_values) (c_X6_cellInValues z.2.1 k a_t a_p2 a_p2_ballast a_p2_lubricated a_p2_pose a_p2_ground a_p2_boulders a_p2_records a_t_characters a_t_values v_p2_columns v_p2_rows v_p2_weight v_p2_stiffness v_p2_water v_t_length v_t_position v_t_token v_t_tokenStart v_t_number v_t_values q12 h13) Y_X6_cellInValues wm_433 (by decide) rfl 4 rfl rfl rfl [0, 4, 5] rfl (by decide) rfl [some 0, none, none, none, some 1, some 2] (by decide) rfl (Nat.le_of_ble_eq_true rfl) rfl dX6_isAllowedInBoulder_78 ?_
      refine mg_aload_n (pc := 81) C 0 dX6_isAllowedInBoulder_81 rfl rfl ?_
      refine mg_get (pc := 82) C 4 rfl rfl inX6 5 (by decide) wm_259 rfl rfl dX6_isAllowedInBoulder_82 ?_
      obtain ⟨q14, h15, hf⟩ := mg_b hf
      refine mg_callV (pc := 85) C (w2 := w_X6_isAllowedInBoulder k a_t a_p2 a_p2_ballast a_p2_lubricated a_p2_pose a_p2_ground a_p2_boulders a_p2_records a_p2_boulders_list a_p2_boulders_list_values a_t_characters a_t_values v_p2_columns v_p2_rows v_p2_weight v_p2_stiffness v_p2_water v_p2_boulders_list_count v_p2_boulders_list_values v_t_length v_t_position v_t_token v_t_tokenStart v_t_number v_t_values) (c_X0_isTaken z.2.1 k a_p2_boulders a_p2_boulders_list a_p2_boulders_list_values v_p2_boulders_list_count v_p2_boulders_list_values fuel q12 v_t_number q14 h15) Y_X0_isTaken wm_437 (by decide) rfl 1 rfl rfl rfl [1, 2, 3] rfl (by decide) rfl [none, some 0, some 1, some 2, none, none] (by decide) rfl (Nat.le_of_ble_eq_true rfl) rfl dX6_isAllowedInBoulder_85 ?_
      refine mg_if_ne (pc := 88) (tgt := 95) C dX6_isAllowedInBoulder_88 (by decide) hf (fun hf => ?_) (fun hf => ?_)
      · refine mg_iconst (pc := 95) C dX6_isAllowedInBoulder_95 (v := 0) (by decide) ?_
        obtain rfl := Option.some.inj hf
        exact E mg_n0 _ _ dX6_isAllowedInBoulder_96
      · refine mg_iconst (pc := 91) C dX6_isAllowedInBoulder_91 (v := 1) (by decide) ?_
        refine mg_goto (pc := 92) (tgt := 96) C dX6_isAllowedInBoulder_92 (by decide) ?_
        obtain rfl := Option.some.inj hf
        exact E mg_n1 _ _ dX6_isAllowedInBoulder_96
  refine mg_tableOut (pc := 1) (tgt := 97) C dX6_isAllowedInBoulder_1 (by have e1_ := mg_ne e1 (i := 0) (by decide); have e5_ := mg_ne e5 (i := 1) (by decide); have e9_ := mg_ne e9 (i := 2) (by decide); omega) (by decide) ?_
  refine mg_aload_n (pc := 97) C 0 dX6_isAllowedInBoulder_97 rfl rfl ?_
  refine mg_get (pc := 98) C 4 rfl rfl inX6 5 (by decide) wm_259 rfl rfl dX6_isAllowedInBoulder_98 ?_
  refine mg_iconst (pc := 101) C dX6_isAllowedInBoulder_101 (v := 1) (by decide) ?_
  refine mg_bipush (pc := 102) C dX6_isAllowedInBoulder_102 (v := 50) (by decide) ?_
  obtain ⟨q16, h17, hf⟩ := mg_b hf
  refine mg_callSN (pc := 104) C (w2 := w_X6_isAllowedInBoulder k a_t a_p2 a_p2_ballast a_p2_lubricated a_p2_pose a_p2_ground a_p2_boulders a_p2_records a_p2_boulders_list a_p2_boulders_list_values a_t_characters a_t_values v_p2_columns v_p2_rows v_p2_weight v_p2_stiffness v_p2_water v_p2_boulders_list_count v_p2_boulders_list_values v_t_length v_t_position v_t_token v_t_tokenStart v_t_number v_t_values) (host := RX8) (c_X8_isWithin z.2.1 k v_t_number 1 50 q16 h17) Y_X8_isWithin (by simp [mg_nw]) (by decide) rfl [] rfl (by decide) rfl [none, none, none, none, none, none] (by decide) rfl (Nat.le_of_ble_eq_true rfl) rfl dX6_isAllowedInBoulder_104 ?_
  obtain ⟨d18, hf⟩ := mg_ck hf
  obtain rfl := Option.some.inj hf
  exact E (mg_nb d18) _ _ dX6_isAllowedInBoulder_107
abbrev w_X6_isAllowedInLayer (k : mg_K) (a_t a_t_characters a_t_values : Nat) (v_t_length : Int32) (v_t_position : Int32) (v_t_token : Int32) (v_t_tokenStart : Int32) (v_t_number : Int32) : va_W := [(a_t, .inr (6, [.ref a_t_characters, .int v_t_length, .int v_t_position, .int v_t_token, .int v_t_tokenStart, .int v_t_number, .ref a_t_values]))]
def f_X6_isAllowedInLayer (v_t_number : Int32) (x1 : Int32) : Option (Int32) := if x1 = 0 then ((f_X8_isWithin v_t_number 1 100).bind (fun q2 => if q2 &&& 1 = q2 then some q2 else none)) else if x1 = 1 then ((f_X8_isWithin v_t_number 0 50).bind (fun q6 => if q6 &&& 1 = q6 then some q6 else none)) else ((f_X8_isWithin v_t_number 0 9).bind (fun q9 => if q9 &&& 1 = q9 then some q9 else none))
theorem Y_X6_isAllowedInLayer : mg_Y yX6_isAllowedInLayer cX6_isAllowedInLayer 2 (some .boolean) 1 := ⟨wm_427, wp_7, wm_10, wm_428, ⟨by decide +kernel, by decide +kernel, by decide +kernel⟩, by decide⟩
set_option maxRecDepth 100000 in
set_option maxHeartbeats 4000000 in
theorem c_X6_isAllowedInLayer (l : Launch) (k : mg_K) (a_t a_t_characters a_t_values : Nat) (v_t_length : Int32) (v_t_position : Int32) (v_t_token : Int32) (v_t_tokenStart : Int32) (v_t_number : Int32) (x1 : Int32) (q : Int32) (hf : f_X6_isAllowedInLayer v_t_number x1 = some q) : mg_M l yX6_isAllowedInLayer cX6_isAllowedInLayer 2 (some .boolean) 1 k [.ref a_t, .int x1] (w_X6_isAllowedInLayer k a_t a_t_characters a_t_values v_t_length v_t_position v_t_token v_t_tokenStart v_t_number) (w_X6_isAllowedInLayer k a_t a_t_characters a_t_values v_t_length v_t_position v_t_token v_t_tokenStart v_t_number) (some (.int q)) := by
  refine mg_Mz RX6 [(0, .ref a_t), (1, .int x1)] (by decide +kernel) rfl rfl (Nat.le_of_ble_eq_true rfl) ?_
  intro z A Q hl C E
  subst hl
  unfold f_X6_isAllowedInLayer at hf
  refine mg_iload_n (pc := 0) C 1 dX6_isAllowedInLayer_0 rfl rfl ?_
  refine mg_cs hf (fun e1 hf => ?_) (fun e1 hf => ?_)
  · refine mg_lookup (pc := 1) (tgt := 28) C dX6_isAllowedInLayer_1 (by decide) (by rw [e1] <;> decide) (by decide) ?_
    refine mg_aload_n (pc := 28) C 0 dX6_isAllowedInLayer_28 rfl rfl ?_
    refine mg_get (pc := 29) C 0 rfl rfl inX6 5 (by decide) wm_259 rfl rfl dX6_isAllowedInLayer_29 ?_
    refine mg_iconst (pc := 32) C dX6_isAllowedInLayer_32 (v := 1) (by decide) ?_
    refine mg_bipush (pc := 33) C dX6_isAllowedInLayer_33 (v := 100) (by decide) ?_
    obtain ⟨q2, h3, hf⟩ := mg_b hf
    refine mg_callSN (pc := 35) C (w2 := w_X6_isAllowedInLayer k a_t a_t_characters a_t_values v_t_length v_t_position v_t_token v_t_tokenStart v_t_number) (host := RX8) (c_X8_isWithin z.2.1 k v_t_number 1 100 q2 h3) Y_X8_isWithin (by simp [mg_nw]) (by decide) rfl [] rfl (by decide) rfl [none] (by decide) rfl (Nat.le_of_ble_eq_true rfl) rfl dX6_isAllowedInLayer_35 ?_
    obtain ⟨d4, hf⟩ := mg_ck hf
    obtain rfl := Option.some.inj hf
    exact E (mg_nb d4) _ _ dX6_isAllowedInLayer_38
  refine mg_cs hf (fun e5 hf => ?_) (fun e5 hf => ?_)
  · refine mg_lookup (pc := 1) (tgt := 39) C dX6_isAllowedInLayer_1 (by decide) (by rw [e5] <;> decide) (by decide) ?_
    refine mg_aload_n (pc := 39) C 0 dX6_isAllowedInLayer_39 rfl rfl ?_
    refine mg_get (pc := 40) C 0 rfl rfl inX6 5 (by decide) wm_259 rfl rfl dX6_isAllowedInLayer_40 ?_
    refine mg_iconst (pc := 43) C dX6_isAllowedInLayer_43 (v := 0) (by decide) ?_
    refine mg_bipush (pc := 44) C dX6_isAllowedInLayer_44 (v := 50) (by decide) ?_
    obtain ⟨q6, h7, hf⟩ := mg_b hf
    refine mg_callSN (pc := 46) C (w2 := w_X6_isAllowedInLayer k a_t a_t_characters a_t_values v_t_length v_t_position v_t_token v_t_tokenStart v_t_number) (host := RX8) (c_X8_isWithin z.2.1 k v_t_number 0 50 q6 h7) Y_X8_isWithin (by simp [mg_nw]) (by decide) rfl [] rfl (by decide) rfl [none] (by decide) rfl (Nat.le_of_ble_eq_true rfl) rfl dX6_isAllowedInLayer_46 ?_
    obtain ⟨d8, hf⟩ := mg_ck hf
    obtain rfl := Option.some.inj hf
    exact E (mg_nb d8) _ _ dX6_isAllowedInLayer_49
  refine mg_lookup (pc := 1) (off := 49) (tgt := 50) C dX6_isAllowedInLayer_1 (by decide) (by have e1_ := mg_ne e1 (i := 0) (by decide); have e5_ := mg_ne e5 (i := 1) (by decide); simp [Op.lookupswitch.offset, Ne.symm e1_, e1_, Ne.symm e5_, e5_]) (by decide) ?_
  refine mg_aload_n (pc := 50) C 0 dX6_isAllowedInLayer_50 rfl rfl ?_
  refine mg_get (pc := 51) C 0 rfl rfl inX6 5 (by decide) wm_259 rfl rfl dX6_isAllowedInLayer_51 ?_
  refine mg_iconst (pc := 54) C dX6_isAllowedInLayer_54 (v := 0) (by decide) ?_
  refine mg_bipush (pc := 55) C dX6_isAllowedInLayer_55 (v := 9) (by decide) ?_
  obtain ⟨q9, h10, hf⟩ := mg_b hf
  refine mg_callSN (pc := 57) C (w2 := w_X6_isAllowedInLayer k a_t a_t_characters a_t_values v_t_length v_t_position v_t_token v_t_tokenStart v_t_number) (host := RX8) (c_X8_isWithin z.2.1 k v_t_number 0 9 q9 h10) Y_X8_isWithin (by simp [mg_nw]) (by decide) rfl [] rfl (by decide) rfl [none] (by decide) rfl (Nat.le_of_ble_eq_true rfl) rfl dX6_isAllowedInLayer_57 ?_
  obtain ⟨d11, hf⟩ := mg_ck hf
  obtain rfl := Option.some.inj hf
  exact E (mg_nb d11) _ _ dX6_isAllowedInLayer_60
abbrev w_X6_isAllowed (k : mg_K) (a_t a_p3 a_p3_ballast a_p3_lubricated a_p3_pose a_p3_ground a_p3_boulders a_p3_records a_p3_boulders_list a_p3_boulders_list_values a_t_characters a_t_values : Nat) (v_p3_columns : Int32) (v_p3_rows : Int32) (v_p3_weight : Int32) (v_p3_stiffness : Int32) (v_p3_water : Int32) (v_p3_boulders_list_count : Int32) (v_p3_boulders_list_values : Nat → Int32) (v_t_length : Int32) (v_t_position : Int32) (v_t_token : Int32) (v_t_tokenStart : Int32) (v_t_number : Int32) (v_t_values : Nat → Int32) : va_W := [(a_p3, .inr (5, [.int v_p3_columns, .int v_p3_rows, .int v_p3_weight, .int v_p3_stiffness, .int v_p3_water, .ref a_p3_ballast, .ref a_p3_lubricated, .ref a_p3_pose, .ref a_p3_ground, .ref a_p3_boulders, .ref a_p3_records])), (a_p3_boulders, .inr (0, [.ref a_p3_boulders_list])), (a_p3_boulders_list, .inr (7, [.int 10, .ref a_p3_boulders_list_values, .int v_p3_boulders_list_count])), (a_p3_boulders_list_values, .inl (k.2.1, 30, .inl v_p3_boulders_list_values)), (a_t, .inr (6, [.ref a_t_characters, .int v_t_length, .int v_t_position, .int v_t_token, .int v_t_tokenStart, .int v_t_number, .ref a_t_values])), (a_t_values, .inl (k.2.1, 4, .inl v_t_values))]
def f_X6_isAllowed (fuel : Nat) (v_p3_columns : Int32) (v_p3_rows : Int32) (v_p3_boulders_list_count : Int32) (v_p3_boulders_list_values : Nat → Int32) (v_t_number : Int32) (v_t_values : Nat → Int32) (x1 : Int32) (x2 : Int32) : Option (Int32) := if x1 = 0 then ((f_X8_isWithin v_t_number 3 7).bind (fun q2 => if q2 &&& 1 = q2 then some q2 else none)) else if x1 = 1 then ((f_X8_isWithin v_t_number 1 9999).bind (fun q6 => if q6 &&& 1 = q6 then some q6 else none)) else if x1 = 2 then ((f_X8_isWithin v_t_number 0 400).bind (fun q10 => if q10 &&& 1 = q10 then some q10 else none)) else if x1 = 3 then ((f_X8_isWithin v_t_number 0 9999).bind (fun q14 => if q14 &&& 1 = q14 then some q14 else none)) else if x1 = 4 then ((f_X6_isAllowedInLayer v_t_number x2).bind (fun q18 => if q18 &&& 1 = q18 then some q18 else none)) else if x1 = 5 then ((f_X6_isAllowedInBoulder fuel v_p3_columns v_p3_rows v_p3_boulders_list_count v_p3_boulders_list_values v_t_number v_t_values x2).bind (fun q22 => if q22 &&& 1 = q22 then some q22 else none)) else (some 0)
theorem Y_X6_isAllowed : mg_Y yX6_isAllowed cX6_isAllowed 4 (some .boolean) 3 := ⟨wm_422, wp_6, wm_10, wm_423, ⟨by decide +kernel, by decide +kernel, by decide +kernel⟩, by decide⟩
set_option maxRecDepth 100000 in
set_option maxHeartbeats 4000000 in
theorem c_X6_isAllowed (l : Launch) (k : mg_K) (a_t a_p3 a_p3_ballast a_p3_lubricated a_p3_pose a_p3_ground a_p3_boulders a_p3_records a_p3_boulders_list a_p3_boulders_list_values a_t_characters a_t_values : Nat) (v_p3_columns : Int32) (v_p3_rows : Int32) (v_p3_weight : Int32) (v_p3_stiffness : Int32) (v_p3_water : Int32) (v_p3_boulders_list_count : Int32) (v_p3_boulders_list_values : Nat → Int32) (v_t_length : Int32) (v_t_position : Int32) (v_t_token : Int32) (v_t_tokenStart : Int32) (v_t_number : Int32) (v_t_values : Nat → Int32) (fuel : Nat) (x1 : Int32) (x2 : Int32) (q : Int32) (hf : f_X6_isAllowed fuel v_p3_columns v_p3_rows v_p3_boulders_list_count v_p3_boulders_list_values v_t_number v_t_values x1 x2 = some q) : mg_M l yX6_isAllowed cX6_isAllowed 4 (some .boolean) 3 k [.ref a_t, .int x1, .int x2, .ref a_p3] (w_X6_isAllowed k a_t a_p3 a_p3_ballast a_p3_lubricated a_p3_pose a_p3_ground a_p3_boulders a_p3_records a_p3_boulders_list a_p3_boulders_list_values a_t_characters a_t_values v_p3_columns v_p3_rows v_p3_weight v_p3_stiffness v_p3_water v_p3_boulders_list_count v_p3_boulders_list_values v_t_length v_t_position v_t_token v_t_tokenStart v_t_number v_t_values) (w_X6_isAllowed k a_t a_p3 a_p3_ballast a_p3_lubricated a_p3_pose a_p3_ground a_p3_boulders a_p3_records a_p3_boulders_list a_p3_boulders_list_values a_t_characters a_t_values v_p3_columns v_p3_rows v_p3_weight v_p3_stiffness v_p3_water v_p3_boulders_list_count v_p3_boulders_list_values v_t_length v_t_position v_t_token v_t_tokenStart v_t_number v_t_values) (some (.int q)) := by
  refine mg_Mz RX6 [(0, .ref a_t), (1, .int x1), (2, .int x2), (3, .ref a_p3)] (by decide +kernel) rfl rfl (Nat.le_of_ble_eq_true rfl) ?_
  intro z A Q hl C E
  subst hl
  unfold f_X6_isAllowed at hf
  refine mg_iload_n (pc := 0) C 1 dX6_isAllowed_0 rfl rfl ?_
  refine mg_cs hf (fun e1 hf => ?_) (fun e1 hf => ?_)
  · refine mg_tableIn (pc := 1) (off := 39) (tgt := 40) C 0 e1 dX6_isAllowed_1 (by decide) (by decide) (by decide) (by decide) ?_
    refine mg_aload_n (pc := 40) C 0 dX6_isAllowed_40 rfl rfl ?_
    refine mg_get (pc := 41) C 4 rfl rfl inX6 5 (by decide) wm_259 rfl rfl dX6_isAllowed_41 ?_
    refine mg_iconst (pc := 44) C dX6_isAllowed_44 (v := 3) (by decide) ?_
    refine mg_bipush (pc := 45) C dX6_isAllowed_45 (v := 7) (by decide) ?_
    obtain ⟨q2, h3, hf⟩ := mg_b hf
    refine mg_callSN (pc := 47) C (w2 := w_X6_isAllowed k a_t a_p3 a_p3_ballast a_p3_lubricated a_p3_pose a_p3_ground a_p3_boulders a_p3_records a_p3_boulders_list a_p3_boulders_list_values a_t_characters a_t_values v_p3_columns v_p3_rows v_p3_weight v_p3_stiffness v_p3_water v_p3_boulders_list_count v_p3_boulders_list_values v_t_length v_t_position v_t_token v_t_tokenStart v_t_number v_t_values) (host := RX8) (c_X8_isWithin z.2.1 k v_t_number 3 7 q2 h3) Y_X8_isWithin (by simp [mg_nw]) (by decide) rfl [] rfl (by decide) rfl [none, none, none, none, none, none] (by decide) rfl (Nat.le_of_ble_eq_true rfl) rfl dX6_isAllowed_47 ?_
    obtain ⟨d4, hf⟩ := mg_ck hf
    obtain rfl := Option.some.inj hf
    exact E (mg_nb d4) _ _ dX6_isAllowed_50
  refine mg_cs hf (fun e5 hf => ?_) (fun e5 hf => ?_)
  · refine mg_tableIn (pc := 1) (off := 50) (tgt := 51) C 1 e5 dX6_isAllowed_1 (by decide) (by decide) (by decide) (by decide) ?_
    refine mg_aload_n (pc := 51) C 0 dX6_isAllowed_51 rfl rfl ?_
    refine mg_get (pc := 52) C 4 rfl rfl inX6 5 (by decide) wm_259 rfl rfl dX6_isAllowed_52 ?_
    refine mg_iconst (pc := 55) C dX6_isAllowed_55 (v := 1) (by decide) ?_
    refine mg_sipush (pc := 56) C dX6_isAllowed_56 (v := 9999) (by decide) ?_
    obtain ⟨q6, h7, hf⟩ := mg_b hf
    refine mg_callSN (pc := 59) C (w2 := w_X6_isAllowed k a_t a_p3 a_p3_ballast a_p3_lubricated a_p3_pose a_p3_ground a_p3_boulders a_p3_records a_p3_boulders_list a_p3_boulders_list_values a_t_characters a_t_values v_p3_columns v_p3_rows v_p3_weight v_p3_stiffness v_p3_water v_p3_boulders_list_count v_p3_boulders_list_values v_t_length v_t_position v_t_token v_t_tokenStart v_t_number v_t_values) (host := RX8) (c_X8_isWithin z.2.1 k v_t_number 1 9999 q6 h7) Y_X8_isWithin (by simp [mg_nw]) (by decide) rfl [] rfl (by decide) rfl [none, none, none, none, none, none] (by decide) rfl (Nat.le_of_ble_eq_true rfl) rfl dX6_isAllowed_59 ?_
    obtain ⟨d8, hf⟩ := mg_ck hf
    obtain rfl := Option.some.inj hf
    exact E (mg_nb d8) _ _ dX6_isAllowed_62
  refine mg_cs hf (fun e9 hf => ?_) (fun e9 hf => ?_)
  · refine mg_tableIn (pc := 1) (off := 62) (tgt := 63) C 2 e9 dX6_isAllowed_1 (by decide) (by decide) (by decide) (by decide) ?_
    refine mg_aload_n (pc := 63) C 0 dX6_isAllowed_63 rfl rfl ?_
    refine mg_get (pc := 64) C 4 rfl rfl inX6 5 (by decide) wm_259 rfl rfl dX6_isAllowed_64 ?_
    refine mg_iconst (pc := 67) C dX6_isAllowed_67 (v := 0) (by decide) ?_
    refine mg_sipush (pc := 68) C dX6_isAllowed_68 (v := 400) (by decide) ?_
    obtain ⟨q10, h11, hf⟩ := mg_b hf
    refine mg_callSN (pc := 71) C (w2 := w_X6_isAllowed k a_t a_p3 a_p3_ballast a_p3_lubricated a_p3_pose a_p3_ground a_p3_boulders a_p3_records a_p3_boulders_list a_p3_boulders_list_values a_t_characters a_t_values v_p3_columns v_p3_rows v_p3_weight v_p3_stiffness v_p3_water v_p3_boulders_list_count v_p3_boulders_list_values v_t_length v_t_position v_t_token v_t_tokenStart v_t_number v_t_values) (host := RX8) (c_X8_isWithin z.2.1 k v_t_number 0 400 q10 h11) Y_X8_isWithin (by simp [mg_nw]) (by decide) rfl [] rfl (by decide) rfl [none, none, none, none, none, none] (by decide) rfl (Nat.le_of_ble_eq_true rfl) rfl dX6_isAllowed_71 ?_
    obtain ⟨d12, hf⟩ := mg_ck hf
    obtain rfl := Option.some.inj hf
    exact E (mg_nb d12) _ _ dX6_isAllowed_74
  refine mg_cs hf (fun e13 hf => ?_) (fun e13 hf => ?_)
  · refine mg_tableIn (pc := 1) (off := 74) (tgt := 75) C 3 e13 dX6_isAllowed_1 (by decide) (by decide) (by decide) (by decide) ?_
    refine mg_aload_n (pc := 75) C 0 dX6_isAllowed_75 rfl rfl ?_
    refine mg_get (pc := 76) C 4 rfl rfl inX6 5 (by decide) wm_259 rfl rfl dX6_isAllowed_76 ?_
    refine mg_iconst (pc := 79) C dX6_isAllowed_79 (v := 0) (by decide) ?_
    refine mg_sipush (pc := 80) C dX6_isAllowed_80 (v := 9999) (by decide) ?_
    obtain ⟨q14, h15, hf⟩ := mg_b hf
    refine mg_callSN (pc := 83) C (w2 := w_X6_isAllowed k a_t a_p3 a_p3_ballast a_p3_lubricated a_p3_pose a_p3_ground a_p3_boulders a_p3_records a_p3_boulders_list a_p3_boulders_list_values a_t_characters a_t_values v_p3_columns v_p3_rows v_p3_weight v_p3_stiffness v_p3_water v_p3_boulders_list_count v_p3_boulders_list_values v_t_length v_t_position v_t_token v_t_tokenStart v_t_number v_t_values) (host := RX8) (c_X8_isWithin z.2.1 k v_t_number 0 9999 q14 h15) Y_X8_isWithin (by simp [mg_nw]) (by decide) rfl [] rfl (by decide) rfl [none, none, none, none, none, none] (by decide) rfl (Nat.le_of_ble_eq_true rfl) rfl dX6_isAllowed_83 ?_
    obtain ⟨d16, hf⟩ := mg_ck hf
    obtain rfl := Option.some.inj hf
    exact E (mg_nb d16) _ _ dX6_isAllowed_86
  refine mg_cs hf (fun e17 hf => ?_) (fun e17 hf => ?_)
  · refine mg_tableIn (pc := 1) (off := 86) (tgt := 87) C 4 e17 dX6_isAllowed_1 (by decide) (by decide) (by decide) (by decide) ?_
    refine mg_aload_n (pc := 87) C 0 dX6_isAllowed_87 rfl rfl ?_
    refine mg_iload_n (pc := 88) C 2 dX6_isAllowed_88 rfl rfl ?_
    obtain ⟨q18, h19, hf⟩ := mg_b hf
    refine mg_callV (pc := 89) C (w2 := w_X6_isAllowed k a_t a_p3 a_p3_ballast a_p3_lubricated a_p3_pose a_p3_ground a_p3_boulders a_p3_records a_p3_boulders_list a_p3_boulders_list_values a_t_characters a_t_values v_p3_columns v_p3_rows v_p3_weight v_p3_stiffness v_p3_water v_p3_boulders_list_count v_p3_boulders_list_values v_t_length v_t_position v_t_token v_t_tokenStart v_t_number v_t_values) (c_X6_isAllowedInLayer z.2.1 k a_t a_t_characters a_t_values v_t_length v_t_position v_t_token v_t_tokenStart v_t_number x2 q18 h19) Y_X6_isAllowedInLayer wm_425 (by decide) rfl 4 rfl rfl rfl [4] rfl (by decide) rfl [none, none, none, none, some 0, none] (by decide) rfl (Nat.le_of_ble_eq_true rfl) rfl dX6_isAllowed_89 ?_
    obtain ⟨d20, hf⟩ := mg_ck hf
    obtain rfl := Option.some.inj hf
    exact E (mg_nb d20) _ _ dX6_isAllowed_92
  refine mg_cs hf (fun e21 hf => ?_) (fun e21 hf => ?_)
  · refine mg_tableIn (pc := 1) (off := 92) (tgt := 93) C 5 e21 dX6_isAllowed_1 (by decide) (by decide) (by decide) (by decide) ?_
    refine mg_aload_n (pc := 93) C 0 dX6_isAllowed_93 rfl rfl ?_
    refine mg_iload_n (pc := 94) C 2 dX6_isAllowed_94 rfl rfl ?_
    refine mg_aload_n (pc := 95) C 3 dX6_isAllowed_95 rfl rfl ?_
    obtain ⟨q22, h23, hf⟩ := mg_b hf
    refine mg_callV (pc := 96) C (w2 := w_X6_isAllowed k a_t a_p3 a_p3_ballast a_p3_lubricated a_p3_pose a_p3_ground a_p3_boulders a_p3_records a_p3_boulders_list a_p3_boulders_list_values a_t_characters a_t_values v_p3_columns v_p3_rows v_p3_weight v_p3_stiffness v_p3_water v_p3_boulders_list_count v_p3_boulders_list_values v_t_length v_t_position v_t_token v_t_tokenStart v_t_number v_t_values) (c_X6_isAllowedInBoulder z.2.1 k a_t a_p3 a_p3_ballast a_p3_lubricated a_p3_pose a_p3_ground a_p3_boulders a_p3_records a_p3_boulders_list a_p3_boulders_list_values a_t_characters a_t_values v_p3_columns v_p3_rows v_p3_weight v_p3_stiffness v_p3_water v_p3_boulders_list_count v_p3_boulders_list_values v_t_length v_t_position v_t_token v_t_tokenStart v_t_number v_t_values fuel x2 q22 h23) Y_X6_isAllowedInBoulder wm_429 (by decide) rfl 4 rfl rfl rfl [0, 1, 2, 3, 4, 5] rfl (by decide) rfl [some 0, some 1, some 2, some 3, some 4, some 5] (by decide) rfl (Nat.le_of_ble_eq_true rfl) rfl dX6_isAllowed_96 ?_
    obtain ⟨d24, hf⟩ := mg_ck hf
    obtain rfl := Option.some.inj hf
    exact E (mg_nb d24) _ _ dX6_isAllowed_99
  refine mg_tableOut (pc := 1) (tgt := 100) C dX6_isAllowed_1 (by have e1_ := mg_ne e1 (i := 0) (by decide); have e5_ := mg_ne e5 (i := 1) (by decide); have e9_ := mg_ne e9 (i := 2) (by decide); have e13_ := mg_ne e13 (i := 3) (by decide); have e17_ := mg_ne e17 (i := 4) (by decide); have e21_ := mg_ne e21 (i := 5) (by decide); omega) (by decide) ?_
  refine mg_iconst (pc := 100) C dX6_isAllowed_100 (v := 0) (by decide) ?_
  obtain rfl := Option.some.inj hf
  exact E mg_n0 _ _ dX6_isAllowed_101
abbrev w_X6_readValues (k : mg_K) (a_t a_p2 a_p2_ballast a_p2_lubricated a_p2_pose a_p2_ground a_p2_boulders a_p2_records a_p2_boulders_list a_p2_boulders_list_values a_t_characters a_t_values : Nat) (v_p2_columns : Int32) (v_p2_rows : Int32) (v_p2_weight : Int32) (v_p2_stiffness : Int32) (v_p2_water : Int32) (v_p2_boulders_list_count : Int32) (v_p2_boulders_list_values : Nat → Int32) (v_t_length : Int32) (v_t_position : Int32) (v_t_token : Int32) (v_t_tokenStart : Int32) (v_t_number : Int32) (v_t_characters : Nat → Int32) (v_t_values : Nat → Int32) : va_W := [(a_p2, .inr (5, [.int v_p2_columns, .int v_p2_rows, .int v_p2_weight, .int v_p2_stiffness, .int v_p2_water, .ref a_p2_ballast, .ref a_p2_lubricated, .ref a_p2_pose, .ref a_p2_ground, .ref a_p2_boulders, .ref a_p2_records])), (a_p2_boulders, .inr (0, [.ref a_p2_boulders_list])), (a_p2_boulders_list, .inr (7, [.int 10, .ref a_p2_boulders_list_values, .int v_p2_boulders_list_count])), (a_p2_boulders_list_values, .inl (k.2.1, 30, .inl v_p2_boulders_list_values)), (a_t, .inr (6, [.ref a_t_characters, .int v_t_length, .int v_t_position, .int v_t_token, .int v_t_tokenStart, .int v_t_number, .ref a_t_values])), (a_t_characters, .inl (k.2.2.1, 200, .inl v_t_characters)), (a_t_values, .inl (k.2.1, 4, .inl v_t_values))]
def f_X6_readValues_L31 (fuel : Nat) (v_p2_columns : Int32) (v_p2_rows : Int32) (v_p2_boulders_list_count : Int32) (v_p2_boulders_list_values : Nat → Int32) (v_t_length : Int32) (v_t_characters : Nat → Int32) (x1 : Int32) (x3 : Int32) : Nat → Int32 → Int32 → Int32 → Int32 → Int32 → (Nat → Int32) → Option (Nat × Int32 × Int32 × Int32 × Int32 × Int32 × (Nat → Int32))
  | 0, _, _, _, _, _, _ => none
  | n_ + 1, x4, v_t_position, v_t_token, v_t_tokenStart, v_t_number, v_t_values => if x3 ≤ x4 then (some (0, (x4, v_t_position, v_t_token, v_t_tokenStart, v_t_number, v_t_values))) else ((f_X6_readToken fuel v_t_length v_t_position v_t_number v_t_characters).bind (fun q1 => if q1.2.1 = 2 then ((f_X6_isAllowed fuel v_p2_columns v_p2_rows v_p2_boulders_list_count v_p2_boulders_list_values q1.2.2.2 v_t_values x1 x4).bind (fun q3 => if q3 = 0 then (some (1, (x4, q1.1, q1.2.1, q1.2.2.1, q1.2.2.2, v_t_values))) else (if mg_ix x4 4 = true then (f_X6_readValues_L31 fuel v_p2_columns v_p2_rows v_p2_boulders_list_count v_p2_boulders_list_values v_t_length v_t_characters x1 x3 n_ (x4 + 1) q1.1 q1.2.1 q1.2.2.1 q1.2.2.2 (upd v_t_values (Int32.toNatClampNeg x4) q1.2.2.2)) else none))) else (some (1, (x4, q1.1, q1.2.1, q1.2.2.1, q1.2.2.2, v_t_values)))))
def f_X6_readValues_J27 (fuel : Nat) (v_p2_columns : Int32) (v_p2_rows : Int32) (v_p2_boulders_list_count : Int32) (v_p2_boulders_list_values : Nat → Int32) (v_t_length : Int32) (v_t_position : Int32) (v_t_token : Int32) (v_t_tokenStart : Int32) (v_t_number : Int32) (v_t_characters : Nat → Int32) (v_t_values : Nat → Int32) (x1 : Int32) (y0 : Int32) : Option (Int32 × Int32 × Int32 × Int32 × Int32 × (Nat → Int32)) := (f_X6_readValues_L31 fuel v_p2_columns v_p2_rows v_p2_boulders_list_count v_p2_boulders_list_values v_t_length v_t_characters x1 y0 fuel 0 v_t_position v_t_token v_t_tokenStart v_t_number v_t_values).bind (fun q5 => if q5.1 = 0 then (some (1, q5.2.2.1, q5.2.2.2.1, q5.2.2.2.2.1, q5.2.2.2.2.2.1, q5.2.2.2.2.2.2)) else (some (0, q5.2.2.1, q5.2.2.2.1, q5.2.2.2.2.1, q5.2.2.2.2.2.1, q5.2.2.2.2.2.2)))
def f_X6_readValues (fuel : Nat) (v_p2_columns : Int32) (v_p2_rows : Int32) (v_p2_boulders_list_count : Int32) (v_p2_boulders_list_values : Nat → Int32) (v_t_length : Int32) (v_t_position : Int32) (v_t_token : Int32) (v_t_tokenStart : Int32) (v_t_number : Int32) (v_t_characters : Nat → Int32) (v_t_values : Nat → Int32) (x1 : Int32) : Option (Int32 × Int32 × Int32 × Int32 × Int32 × (Nat → Int32)) := if x1 = 5 then (f_X6_readValues_J27 fuel v_p2_columns v_p2_rows v_p2_boulders_list_count v_p2_boulders_list_values v_t_length v_t_position v_t_token v_t_tokenStart v_t_number v_t_characters v_t_values x1 4) else (if x1 = 4 then (f_X6_readValues_J27 fuel v_p2_columns v_p2_rows v_p2_boulders_list_count v_p2_boulders_list_values v_t_length v_t_position v_t_token v_t_tokenStart v_t_number v_t_characters v_t_values x1 3) else (if x1 = 0 then (f_X6_readValues_J27 fuel v_p2_columns v_p2_rows v_p2_boulders_list_count v_p2_boulders_list_values v_t_length v_t_position v_t_token v_t_tokenStart v_t_number v_t_characters v_t_values x1 2) else (f_X6_readValues_J27 fuel v_p2_columns v_p2_rows v_p2_boulders_list_count v_p2_boulders_list_values v_t_length v_t_position v_t_token v_t_tokenStart v_t_number v_t_characters v_t_values x1 1)))
theorem Y_X6_readValues : mg_Y yX6_readValues cX6_readValues 5 (some .boolean) 2 := ⟨wm_418, wp_5, wm_10, wm_419, ⟨by decide +kernel, by decide +kernel, by decide +kernel⟩, by decide⟩
set_option maxRecDepth 100000 in
set_option maxHeartbeats 4000000 in
theorem c_X6_readValues (l : Launch) (k : mg_K) (a_t a_p2 a_p2_ballast a_p2_lubricated a_p2_pose a_p2_ground a_p2_boulders a_p2_records a_p2_boulders_list a_p2_boulders_list_values a_t_characters a_t_values : Nat) (v_p2_columns : Int32) (v_p2_rows : Int32) (v_p2_weight : Int32) (v_p2_stiffness : Int32) (v_p2_water : Int32) (v_p2_boulders_list_count : Int32) (v_p2_boulders_list_values : Nat → Int32) (v_t_length : Int32) (v_t_position : Int32) (v_t_token : Int32) (v_t_tokenStart : Int32) (v_t_number : Int32) (v_t_characters : Nat → Int32) (v_t_values : Nat → Int32) (fuel : Nat) (x1 : Int32) (q : Int32 × Int32 × Int32 × Int32 × Int32 × (Nat → Int32)) (hf : f_X6_readValues fuel v_p2_columns v_p2_rows v_p2_boulders_list_count v_p2_boulders_list_values v_t_length v_t_position v_t_token v_t_tokenStart v_t_number v_t_characters v_t_values x1 = some q) : mg_M l yX6_readValues cX6_readValues 5 (some .boolean) 4 k [.ref a_t, .int x1, .ref a_p2] (w_X6_readValues k a_t a_p2 a_p2_ballast a_p2_lubricated a_p2_pose a_p2_ground a_p2_boulders a_p2_records a_p2_boulders_list a_p2_boulders_list_values a_t_characters a_t_values v_p2_columns v_p2_rows v_p2_weight v_p2_stiffness v_p2_water v_p2_boulders_list_count v_p2_boulders_list_values v_t_length v_t_position v_t_token v_t_tokenStart v_t_number v_t_characters v_t_values) (w_X6_readValues k a_t a_p2 a_p2_ballast a_p2_lubricated a_p2_pose a_p2_ground a_p2_boulders a_p2_records a_p2_boulders_list a_p2_boulders_list_values a_t_characters a_t_values v_p2_columns v_p2_rows v_p2_weight v_p2_stiffness v_p2_water v_p2_boulders_list_count v_p2_boulders_list_values v_t_length q.2.1 q.2.2.1 q.2.2.2.1 q.2.2.2.2.1 v_t_characters q.2.2.2.2.2) (some (.int q.1)) := by
  refine mg_Mz RX6 [(0, .ref a_t), (1, .int x1), (2, .ref a_p2)] (by decide +kernel) rfl rfl (Nat.le_of_ble_eq_true rfl) ?_
  intro z A Q hl C E
  subst hl
  unfold f_X6_readValues at hf
  have L31 : ∀ (x1 : Int32) (x3 : Int32) (n_ : Nat) (x4 : Int32) (v_t_position : Int32) (v_t_token : Int32) (v_t_tokenStart : Int32) (v_t_number : Int32) (v_t_values : Nat → Int32) (q_ : Nat × Int32 × Int32 × Int32 × Int32 × Int32 × (Nat → Int32)), f_X6_readValues_L31 fuel v_p2_columns v_p2_rows v_p2_boulders_list_count v_p2_boulders_list_values v_t_length v_t_characters x1 x3 n_ x4 v_t_position v_t_token v_t_tokenStart v_t_number v_t_values = some q_ → (q_.1 = 0 → mg z k A 5 0 0 Q (w_X6_readValues k a_t a_p2 a_p2_ballast a_p2_lubricated a_p2_pose a_p2_ground a_p2_boulders a_p2_records a_p2_boulders_list a_p2_boulders_list_values a_t_characters a_t_values v_p2_columns v_p2_rows v_p2_weight v_p2_stiffness v_p2_water v_p2_boulders_list_count v_p2_boulders_list_values v_t_length q_.2.2.1 q_.2.2.2.1 q_.2.2.2.2.1 q_.2.2.2.2.2.1 v_t_characters q_.2.2.2.2.2.2) [] 79 []) → (q_.1 = 1 → mg z k A 5 0 0 Q (w_X6_readValues k a_t a_p2 a_p2_ballast a_p2_lubricated a_p2_pose a_p2_ground a_p2_boulders a_p2_records a_p2_boulders_list a_p2_boulders_list_values a_t_characters a_t_values v_p2_columns v_p2_rows v_p2_weight v_p2_stiffness v_p2_water v_p2_boulders_list_count v_p2_boulders_list_values v_t_length q_.2.2.1 q_.2.2.2.1 q_.2.2.2.2.1 q_.2.2.2.2.2.1 v_t_characters q_.2.2.2.2.2.2) [] 60 []) → mg z k A 5 0 0 Q (w_X6_readValues k a_t a_p2 a_p2_ballast a_p2_lubricated a_p2_pose a_p2_ground a_p2_boulders a_p2_records a_p2_boulders_list a_p2_boulders_list_values a_t_characters a_t_values v_p2_columns v_p2_rows v_p2_weight v_p2_stiffness v_p2_water v_p2_boulders_list_count v_p2_boulders_list_values v_t_length v_t_position v_t_token v_t_tokenStart v_t_number v_t_characters v_t_values) [(0, .ref a_t), (1, .int x1), (2, .ref a_p2), (3, .int x3), (4, .int x4)] 31 [] := by
    intro x1 x3 n_
    induction n_ with
    | zero => intro x4 v_t_position v_t_token v_t_tokenStart v_t_number v_t_values q_ hf; exact mg_no (show none = some q_ from hf)
    | succ n_ ih =>
      intro x4 v_t_position v_t_token v_t_tokenStart v_t_number v_t_values q_ hf X0 X1
      rw [f_X6_readValues_L31] at hf
      refine mg_iload (pc := 31) C 4 dX6_readValues_31 rfl ?_
      refine mg_iload_n (pc := 33) C 3 dX6_readValues_33 rfl rfl ?_
      refine mg_icmp_ge (pc := 34) (tgt := 79) C dX6_readValues_34 (by decide) hf (fun hf => ?_) (fun hf => ?_)
      · obtain rfl := Option.some.inj hf
        refine mg_lv [] rfl ?_
        exact (X0 rfl)
      · refine mg_aload_n (pc := 37) C 0 dX6_readValues_37 rfl rfl ?_
        obtain ⟨q1, h2, hf⟩ := mg_b hf
        refine mg_callV (pc := 38) C (w2 := w_X6_readValues k a_t a_p2 a_p2_ballast a_p2_lubricated a_p2_pose a_p2_ground a_p2_boulders a_p2_records a_p2_boulders_list a_p2_boulders_list_values a_t_characters a_t_values v_p2_columns v_p2_rows v_p2_weight v_p2_stiffness v_p2_water v_p2_boulders_list_count v_p2_boulders_list_values v_t_length q1.1 q1.2.1 q1.2.2.1 q1.2.2.2 v_t_characters v_t_values) (c_X6_readToken z.2.1 k a_t a_t_characters a_t_values v_t_length v_t_position v_t_token v_t_tokenStart v_t_number v_t_characters fuel q1 h2) Y_X6_readToken wm_332 (by decide) rfl 4 rfl rfl rfl [4, 5] rfl (by decide) rfl [none, none, none, none, some 0, some 1, none] (by decide) rfl (Nat.le_of_ble_eq_true rfl) rfl dX6_readValues_38 ?_
        refine mg_aload_n (pc := 41) C 0 dX6_readValues_41 rfl rfl ?_
        refine mg_get (pc := 42) C 4 rfl rfl inX6 3 (by decide) wm_257 rfl rfl dX6_readValues_42 ?_
        refine mg_iconst (pc := 45) C dX6_readValues_45 (v := 2) (by decide) ?_
        refine mg_icmp_ne (pc := 46) (tgt := 60) C dX6_readValues_46 (by decide) hf (fun hf => ?_) (fun hf => ?_)
        · obtain rfl := Option.some.inj hf
          refine mg_lv [] rfl ?_
          exact (X1 rfl)
        · refine mg_aload_n (pc := 49) C 0 dX6_readValues_49 rfl rfl ?_
          refine mg_iload_n (pc := 50) C 1 dX6_readValues_50 rfl rfl ?_
          refine mg_iload (pc := 51) C 4 dX6_readValues_51 rfl ?_
          refine mg_aload_n (pc := 53) C 2 dX6_readValues_53 rfl rfl ?_
          obtain ⟨q3, h4, hf⟩ := mg_b hf
          refine mg_callV (pc := 54) C (w2 := w_X6_readValues k a_t a_p2 a_p2_ballast a_p2_lubricated a_p2_pose a_p2_ground a_p2_boulders a_p2_records a_p2_boulders_list a_p2_boulders_list_values a_t_characters a_t_values v_p2_columns v_p2_rows v_p2_weight v_p2_stiffness v_p2_water v_p2_boulders_list_count v_p2_boulders_list_values v_t_length q1.1 q1.2.1 q1.2.2.1 q1.2.2.2 v_t_characters v_t_values) (c_X6_isAllowed z.2.1 k a_t a_p2 a_p2_ballast a_p2_lubricated a_p2_pose a_p2_ground a_p2_boulders a_p2_records a_p2_boulders_list a_p2_boulders_list_values a_t_characters a_t_values v_p2_columns v_p2_rows v_p2_weight v_p2_stiffness v_p2_water v_p2_boulders_list_count v_p2_boulders_list_values v_t_length q1.1 q1.2.1 q1.2.2.1 q1.2.2.2 v_t_values fuel x1 x4 q3 h4) Y_X6_isAllowed wm_420 (by decide) rfl 4 rfl rfl rfl [0, 1, 2, 3, 4, 6] rfl (by decide) rfl [some 0, some 1, some 2, some 3, some 4, none, some 5] (by decide) rfl (Nat.le_of_ble_eq_true rfl) rfl dX6_readValues_54 ?_
          refine mg_if_ne (pc := 57) (tgt := 62) C dX6_readValues_57 (by decide) hf (fun hf => ?_) (fun hf => ?_)
          · refine mg_aload_n (pc := 62) C 0 dX6_readValues_62 rfl rfl ?_
            refine mg_get (pc := 63) C 4 rfl rfl inX6 6 (by decide) wm_260 rfl rfl dX6_readValues_63 ?_
            refine mg_iload (pc := 66) C 4 dX6_readValues_66 rfl ?_
            refine mg_aload_n (pc := 68) C 0 dX6_readValues_68 rfl rfl ?_
            refine mg_get (pc := 69) C 4 rfl rfl inX6 5 (by decide) wm_259 rfl rfl dX6_readValues_69 ?_
            refine mg_iast (pc := 72) C (w2 := w_X6_readValues k a_t a_p2 a_p2_ballast a_p2_lubricated a_p2_pose a_p2_ground a_p2_boulders a_p2_records a_p2_boulders_list a_p2_boulders_list_values a_t_characters a_t_values v_p2_columns v_p2_rows v_p2_weight v_p2_stiffness v_p2_water v_p2_boulders_list_count v_p2_boulders_list_values v_t_length q1.1 q1.2.1 q1.2.2.1 q1.2.2.2 v_t_characters (upd v_t_values (Int32.toNatClampNeg x4) q1.2.2.2)) 6 rfl dX6_readValues_72 hf rfl (fun hf => ?_)
            refine mg_iinc (pc := 73) C (c := 1) (lv' := [(4, .int (x4 + 1)), (0, .ref a_t), (1, .int x1), (2, .ref a_p2), (3, .int x3)]) 4 dX6_readValues_73 rfl (by decide) (by decide) rfl ?_
            refine mg_goto (pc := 76) (tgt := 31) C dX6_readValues_76 (by decide) ?_
            refine mg_lv [1, 2, 3, 4, 0] rfl ?_
            exact ih (x4 + 1) q1.1 q1.2.1 q1.2.2.1 q1.2.2.2 (upd v_t_values (Int32.toNatClampNeg x4) q1.2.2.2) _ hf X0 X1
          · obtain rfl := Option.some.inj hf
            refine mg_lv [] rfl ?_
            exact (X1 rfl)
  have J27 : ∀ (x1 : Int32) (v_t_position : Int32) (v_t_token : Int32) (v_t_tokenStart : Int32) (v_t_number : Int32) (v_t_values : Nat → Int32) (y0 : Int32), f_X6_readValues_J27 fuel v_p2_columns v_p2_rows v_p2_boulders_list_count v_p2_boulders_list_values v_t_length v_t_position v_t_token v_t_tokenStart v_t_number v_t_characters v_t_values x1 y0 = some q → mg z k A 5 0 0 Q (w_X6_readValues k a_t a_p2 a_p2_ballast a_p2_lubricated a_p2_pose a_p2_ground a_p2_boulders a_p2_records a_p2_boulders_list a_p2_boulders_list_values a_t_characters a_t_values v_p2_columns v_p2_rows v_p2_weight v_p2_stiffness v_p2_water v_p2_boulders_list_count v_p2_boulders_list_values v_t_length v_t_position v_t_token v_t_tokenStart v_t_number v_t_characters v_t_values) [(0, .ref a_t), (1, .int x1), (2, .ref a_p2)] 27 [.int y0] := by
    intro x1 v_t_position v_t_token v_t_tokenStart v_t_number v_t_values y0 hf
    unfold f_X6_readValues_J27 at hf
    refine mg_istore_n (pc := 27) C (lv' := [(3, .int y0), (0, .ref a_t), (1, .int x1), (2, .ref a_p2)]) dX6_readValues_27 rfl (by decide) rfl ?_
    refine mg_iconst (pc := 28) C dX6_readValues_28 (v := 0) (by decide) ?_
    refine mg_istore (pc := 29) C (lv' := [(4, .int 0), (3, .int y0), (0, .ref a_t), (1, .int x1), (2, .ref a_p2)]) dX6_readValues_29 (by decide) rfl ?_
    obtain ⟨q5, h6, hf⟩ := mg_b hf
    refine mg_lv [2, 3, 4, 1, 0] rfl ?_
    refine L31 x1 y0 fuel 0 v_t_position v_t_token v_t_tokenStart v_t_number v_t_values q5 h6 (fun e7 => ?_) (fun e8 => ?_)
    · have hf := mg_t e7 hf
      refine mg_iconst (pc := 79) C dX6_readValues_79 (v := 1) (by decide) ?_
      obtain rfl := Option.some.inj hf
      exact E mg_n1 _ _ dX6_readValues_80
    · have hf := mg_f (by rw [e8]; decide) hf
      refine mg_iconst (pc := 60) C dX6_readValues_60 (v := 0) (by decide) ?_
      obtain rfl := Option.some.inj hf
      exact E mg_n0 _ _ dX6_readValues_61
  refine mg_iload_n (pc := 0) C 1 dX6_readValues_0 rfl rfl ?_
  refine mg_iconst (pc := 1) C dX6_readValues_1 (v := 5) (by decide) ?_
  refine mg_icmp_ne (pc := 2) (tgt := 9) C dX6_readValues_2 (by decide) hf (fun hf => ?_) (fun hf => ?_)
  · refine mg_iload_n (pc := 9) C 1 dX6_readValues_9 rfl rfl ?_
    refine mg_iconst (pc := 10) C dX6_readValues_10 (v := 4) (by decide) ?_
    refine mg_icmp_ne (pc := 11) (tgt := 18) C dX6_readValues_11 (by decide) hf (fun hf => ?_) (fun hf => ?_)
    · refine mg_iload_n (pc := 18) C 1 dX6_readValues_18 rfl rfl ?_
      refine mg_if_ne (pc := 19) (tgt := 26) C dX6_readValues_19 (by decide) hf (fun hf => ?_) (fun hf => ?_)
      · refine mg_iconst (pc := 26) C dX6_readValues_26 (v := 1) (by decide) ?_
        exact J27 x1 v_t_position v_t_token v_t_tokenStart v_t_number v_t_values 1 hf
      · refine mg_iconst (pc := 22) C dX6_readValues_22 (v := 2) (by decide) ?_
        refine mg_goto (pc := 23) (tgt := 27) C dX6_readValues_23 (by decide) ?_
        exact J27 x1 v_t_position v_t_token v_t_tokenStart v_t_number v_t_values 2 hf
    · refine mg_iconst (pc := 14) C dX6_readValues_14 (v := 3) (by decide) ?_
      refine mg_goto (pc := 15) (tgt := 27) C dX6_readValues_15 (by decide) ?_
      exact J27 x1 v_t_position v_t_token v_t_tokenStart v_t_number v_t_values 3 hf
  · refine mg_iconst (pc := 5) C dX6_readValues_5 (v := 4) (by decide) ?_
    refine mg_goto (pc := 6) (tgt := 27) C dX6_readValues_6 (by decide) ?_
    exact J27 x1 v_t_position v_t_token v_t_tokenStart v_t_number v_t_values 4 hf
abbrev w_X6_readInto (k : mg_K) (a_t a_t_characters a_t_values : Nat) (b_p1 : Nat → Nat) (v_p1 : sv_T) (v_t_length : Int32) (v_t_position : Int32) (v_t_token : Int32) (v_t_tokenStart : Int32) (v_t_number : Int32) (v_t_characters : Nat → Int32) (v_t_values : Nat → Int32) : va_W := [((b_p1 0), .inr (5, [.int v_p1.1, .int v_p1.2.1, .int v_p1.2.2.1, .int v_p1.2.2.2.1, .int v_p1.2.2.2.2.1, .ref (b_p1 1), .ref (b_p1 8), .ref (b_p1 9), .ref (b_p1 5), .ref (b_p1 2), .ref (b_p1 11)])), ((b_p1 1), .inl (k.2.1, 49, .inl v_p1.2.2.2.2.2.1)), ((b_p1 2), .inr (0, [.ref (b_p1 3)])), ((b_p1 3), .inr (7, [.int 10, .ref (b_p1 4), .int v_p1.2.2.2.2.2.2.1])), ((b_p1 4), .inl (k.2.1, 30, .inl v_p1.2.2.2.2.2.2.2.1)), ((b_p1 5), .inr (2, [.ref (b_p1 6)])), ((b_p1 6), .inr (7, [.int 8, .ref (b_p1 7), .int v_p1.2.2.2.2.2.2.2.2.1])), ((b_p1 7), .inl (k.2.1, 24, .inl v_p1.2.2.2.2.2.2.2.2.2.1)), ((b_p1 8), .inl (k.2.1, 4, .inl v_p1.2.2.2.2.2.2.2.2.2.2.1)), ((b_p1 9), .inr (4, [.int v_p1.2.2.2.2.2.2.2.2.2.2.2.1, .int v_p1.2.2.2.2.2.2.2.2.2.2.2.2.1, .int v_p1.2.2.2.2.2.2.2.2.2.2.2.2.2.1, .ref (b_p1 10)])), ((b_p1 10), .inl (k.2.1, 49, .inl v_p1.2.2.2.2.2.2.2.2.2.2.2.2.2.2.1)), ((b_p1 11), .inr (7, [.int 20, .ref (b_p1 12), .int v_p1.2.2.2.2.2.2.2.2.2.2.2.2.2.2.2.1])), (a_t, .inr (6, [.ref a_t_characters, .int v_t_length, .int v_t_position, .int v_t_token, .int v_t_tokenStart, .int v_t_number, .ref a_t_values])), (a_t_characters, .inl (k.2.2.1, 200, .inl v_t_characters)), (a_t_values, .inl (k.2.1, 4, .inl v_t_values))]
def f_X6_readInto_L15 (fuel : Nat) (v_t_length : Int32) (v_t_characters : Nat → Int32) : Nat → Int32 → sv_T → Int32 → Int32 → Int32 → Int32 → (Nat → Int32) → Option (Nat × Int32 × sv_T × Int32 × Int32 × Int32 × Int32 × (Nat → Int32))
  | 0, _, _, _, _, _, _, _ => none
  | n_ + 1, x2, v_p1, v_t_position, v_t_token, v_t_tokenStart, v_t_number, v_t_values => if v_t_token = 0 then (some (0, (x2, v_p1, v_t_position, v_t_token, v_t_tokenStart, v_t_number, v_t_values))) else (if v_t_length ≤ x2 then (some (0, (x2, v_p1, v_t_position, v_t_token, v_t_tokenStart, v_t_number, v_t_values))) else ((f_X6_kindOfItem fuel v_t_position v_t_token v_t_tokenStart v_t_characters).bind (fun q5 => (f_X6_mayBegin v_p1.2.2.2.2.2.2.1 v_p1.2.2.2.2.2.2.2.2.1 q5 x2).bind (fun q7 => if q7 = 0 then (some (1, (x2, v_p1, v_t_position, v_t_token, v_t_tokenStart, v_t_number, v_t_values))) else ((f_X6_readValues fuel v_p1.1 v_p1.2.1 v_p1.2.2.2.2.2.2.1 v_p1.2.2.2.2.2.2.2.1 v_t_length v_t_position v_t_token v_t_tokenStart v_t_number v_t_characters v_t_values q5).bind (fun q9 => if q9.1 = 0 then (some (1, (x2, v_p1, q9.2.1, q9.2.2.1, q9.2.2.2.1, q9.2.2.2.2.1, q9.2.2.2.2.2))) else ((f_X6_readSemicolon fuel v_t_length q9.2.1 q9.2.2.2.2.1 v_t_characters).bind (fun q11 => if q11.1 = 0 then (some (1, (x2, v_p1, q11.2.1, q11.2.2.1, q11.2.2.2.1, q11.2.2.2.2, q9.2.2.2.2.2))) else ((f_X6_enter fuel v_p1 q9.2.2.2.2.2 q5).bind (fun q13 => (f_X6_readToken fuel v_t_length q11.2.1 q11.2.2.2.2 v_t_characters).bind (fun q15 => f_X6_readInto_L15 fuel v_t_length v_t_characters n_ (x2 + 1) (q13.1, q13.2.1, q13.2.2.1, q13.2.2.2.1, q13.2.2.2.2.1, q13.2.2.2.2.2.1, q13.2.2.2.2.2.2.1, q13.2.2.2.2.2.2.2.1, q13.2.2.2.2.2.2.2.2.1, q13.2.2.2.2.2.2.2.2.2.1, q13.2.2.2.2.2.2.2.2.2.2.1, q13.2.2.2.2.2.2.2.2.2.2.2.1, q13.2.2.2.2.2.2.2.2.2.2.2.2.1, q13.2.2.2.2.2.2.2.2.2.2.2.2.2.1, q13.2.2.2.2.2.2.2.2.2.2.2.2.2.2.1, v_p1.2.2.2.2.2.2.2.2.2.2.2.2.2.2.2.1, v_p1.2.2.2.2.2.2.2.2.2.2.2.2.2.2.2.2) q15.1 q15.2.1 q15.2.2.1 q15.2.2.2 q9.2.2.2.2.2)))))))))))
def f_X6_readInto (fuel : Nat) (v_p1 : sv_T) (v_t_length : Int32) (v_t_number : Int32) (v_t_characters : Nat → Int32) (v_t_values : Nat → Int32) : Option (Int32 × sv_T × Int32 × Int32 × Int32 × Int32 × (Nat → Int32)) := (f_X5_beginAnew fuel v_p1.2.2.2.2.2.1 v_p1.2.2.2.2.2.2.2.2.2.2.1 v_p1.2.2.2.2.2.2.2.2.2.2.2.2.2.2.1).bind (fun q1 => (f_X6_readToken fuel v_t_length 0 v_t_number v_t_characters).bind (fun q3 => (f_X6_readInto_L15 fuel v_t_length v_t_characters fuel 0 (q1.1, q1.2.1, q1.2.2.1, q1.2.2.2.1, q1.2.2.2.2.1, q1.2.2.2.2.2.1, q1.2.2.2.2.2.2.1, v_p1.2.2.2.2.2.2.2.1, q1.2.2.2.2.2.2.2.1, v_p1.2.2.2.2.2.2.2.2.2.1, q1.2.2.2.2.2.2.2.2.1, q1.2.2.2.2.2.2.2.2.2.1, q1.2.2.2.2.2.2.2.2.2.2.1, q1.2.2.2.2.2.2.2.2.2.2.2.1, q1.2.2.2.2.2.2.2.2.2.2.2.2.1, q1.2.2.2.2.2.2.2.2.2.2.2.2.2, v_p1.2.2.2.2.2.2.2.2.2.2.2.2.2.2.2.2) q3.1 q3.2.1 q3.2.2.1 q3.2.2.2 v_t_values).bind (fun q17 => if q17.1 = 0 then (some (q17.2.1, q17.2.2.1, q17.2.2.2.1, q17.2.2.2.2.1, q17.2.2.2.2.2.1, q17.2.2.2.2.2.2.1, q17.2.2.2.2.2.2.2)) else (some ((-10) - q17.2.2.2.2.2.1, q17.2.2.1, q17.2.2.2.1, q17.2.2.2.2.1, q17.2.2.2.2.2.1, q17.2.2.2.2.2.2.1, q17.2.2.2.2.2.2.2)))))
theorem Y_X6_readInto : mg_Y yX6_readInto cX6_readInto 4 (some .int) 1 := ⟨wm_328, wm_329, wm_10, wm_330, ⟨by decide +kernel, by decide +kernel, by decide +kernel⟩, by decide⟩
set_option maxRecDepth 100000 in
set_option maxHeartbeats 4000000 in
theorem c_X6_readInto (l : Launch) (k : mg_K) (a_t a_t_characters a_t_values : Nat) (b_p1 : Nat → Nat) (v_p1 : sv_T) (v_t_length : Int32) (v_t_position : Int32) (v_t_token : Int32) (v_t_tokenStart : Int32) (v_t_number : Int32) (v_t_characters : Nat → Int32) (v_t_values : Nat → Int32) (fuel : Nat) (q : Int32 × sv_T × Int32 × Int32 × Int32 × Int32 × (Nat → Int32)) (hf : f_X6_readInto fuel v_p1 v_t_length v_t_number v_t_characters v_t_values = some q) : mg_M l yX6_readInto cX6_readInto 4 (some .int) 6 k [.ref a_t, .ref (b_p1 0)] (w_X6_readInto k a_t a_t_characters a_t_values b_p1 v_p1 v_t_length v_t_position v_t_token v_t_tokenStart v_t_number v_t_characters v_t_values) (w_X6_readInto k a_t a_t_characters a_t_values b_p1 (q.2.1.1, q.2.1.2.1, q.2.1.2.2.1, q.2.1.2.2.2.1, q.2.1.2.2.2.2.1, q.2.1.2.2.2.2.2.1, q.2.1.2.2.2.2.2.2.1, q.2.1.2.2.2.2.2.2.2.1, q.2.1.2.2.2.2.2.2.2.2.1, q.2.1.2.2.2.2.2.2.2.2.2.1, q.2.1.2.2.2.2.2.2.2.2.2.2.1, q.2.1.2.2.2.2.2.2.2.2.2.2.2.1, q.2.1.2.2.2.2.2.2.2.2.2.2.2.2.1, q.2.1.2.2.2.2.2.2.2.2.2.2.2.2.2.1, q.2.1.2.2.2.2.2.2.2.2.2.2.2.2.2.2.1, q.2.1.2.2.2.2.2.2.2.2.2.2.2.2.2.2.2.1, v_p1.2.2.2.2.2.2.2.2.2.2.2.2.2.2.2.2) v_t_length q.2.2.1 q.2.2.2.1 q.2.2.2.2.1 q.2.2.2.2.2.1 v_t_characters q.2.2.2.2.2.2) (some (.int q.1)) := by
  refine mg_Mi RX6 [(0, .ref a_t), (1, .ref (b_p1 0))] (by decide +kernel) rfl rfl (Nat.le_of_ble_eq_true rfl) ?_
  intro z A Q hl C E
  subst hl
  unfold f_X6_readInto at hf
  have L15 : ∀ (n_ : Nat) (x2 : Int32) (v_p1 : sv_T) (v_t_position : Int32) (v_t_token : Int32) (v_t_tokenStart : Int32) (v_t_number : Int32) (v_t_values : Nat → Int32) (q_ : Nat × Int32 × sv_T × Int32 × Int32 × Int32 × Int32 × (Nat → Int32)), f_X6_readInto_L15 fuel v_t_length v_t_characters n_ x2 v_p1 v_t_position v_t_token v_t_tokenStart v_t_number v_t_values = some q_ → (q_.1 = 0 → mg z k A 4 0 0 Q (w_X6_readInto k a_t a_t_characters a_t_values b_p1 q_.2.2.1 v_t_length q_.2.2.2.1 q_.2.2.2.2.1 q_.2.2.2.2.2.1 q_.2.2.2.2.2.2.1 v_t_characters q_.2.2.2.2.2.2.2) [(2, .int q_.2.1)] 85 []) → (q_.1 = 1 → mg z k A 4 0 0 Q (w_X6_readInto k a_t a_t_characters a_t_values b_p1 q_.2.2.1 v_t_length q_.2.2.2.1 q_.2.2.2.2.1 q_.2.2.2.2.2.1 q_.2.2.2.2.2.2.1 v_t_characters q_.2.2.2.2.2.2.2) [(0, .ref a_t)] 61 []) → mg z k A 4 0 0 Q (w_X6_readInto k a_t a_t_characters a_t_values b_p1 v_p1 v_t_length v_t_position v_t_token v_t_tokenStart v_t_number v_t_characters v_t_values) [(0, .ref a_t), (1, .ref (b_p1 0)), (2, .int x2)] 15 [] := by
    intro n_
    induction n_ with
    | zero => intro x2 v_p1 v_t_position v_t_token v_t_tokenStart v_t_number v_t_values q_ hf; exact mg_no (show none = some q_ from hf)
    | succ n_ ih =>
      intro x2 v_p1 v_t_position v_t_token v_t_tokenStart v_t_number v_t_values q_ hf X0 X1
      rw [f_X6_readInto_L15] at hf
      refine mg_aload_n (pc := 15) C 0 dX6_readInto_15 rfl rfl ?_
      refine mg_get (pc := 16) C 12 rfl rfl inX6 3 (by decide) wm_257 rfl rfl dX6_readInto_16 ?_
      refine mg_if_eq (pc := 19) (tgt := 85) C dX6_readInto_19 (by decide) hf (fun hf => ?_) (fun hf => ?_)
      · obtain rfl := Option.some.inj hf
        refine mg_lv [2] rfl ?_
        exact (X0 rfl)
      · refine mg_iload_n (pc := 22) C 2 dX6_readInto_22 rfl rfl ?_
        refine mg_aload_n (pc := 23) C 0 dX6_readInto_23 rfl rfl ?_
        refine mg_get (pc := 24) C 12 rfl rfl inX6 1 (by decide) wm_254 rfl rfl dX6_readInto_24 ?_
        refine mg_icmp_ge (pc := 27) (tgt := 85) C dX6_readInto_27 (by decide) hf (fun hf => ?_) (fun hf => ?_)
        · obtain rfl := Option.some.inj hf
          refine mg_lv [2] rfl ?_
          exact (X0 rfl)
        · refine mg_aload_n (pc := 30) C 0 dX6_readInto_30 rfl rfl ?_
          obtain ⟨q5, h6, hf⟩ := mg_b hf
          refine mg_callV (pc := 31) C (w2 := w_X6_readInto k a_t a_t_characters a_t_values b_p1 v_p1 v_t_length v_t_position v_t_token v_t_tokenStart v_t_number v_t_characters v_t_values) (c_X6_kindOfItem z.2.1 k a_t a_t_characters a_t_values v_t_length v_t_position v_t_token v_t_tokenStart v_t_number v_t_characters fuel q5 h6) Y_X6_kindOfItem wm_346 (by decide) rfl 12 rfl rfl rfl [12, 13] rfl (by decide) rfl [none, none, none, none, none, none, none, none, none, none, none, none, some 0, some 1, none] (by decide) rfl (Nat.le_of_ble_eq_true rfl) rfl dX6_readInto_31 ?_
          refine mg_istore_n (pc := 34) C (lv' := [(3, .int q5), (0, .ref a_t), (1, .ref (b_p1 0)), (2, .int x2)]) dX6_readInto_34 rfl (by decide) rfl ?_
          refine mg_aload_n (pc := 35) C 1 dX6_readInto_35 rfl rfl ?_
          refine mg_iload_n (pc := 36) C 0 dX6_readInto_36 rfl rfl ?_
          refine mg_iload_n (pc := 37) C 3 dX6_readInto_37 rfl rfl ?_
          refine mg_aload_n (pc := 38) C 2 dX6_readInto_38 rfl rfl ?_
          obtain ⟨q7, h8, hf⟩ := mg_b hf
          refine mg_callV (pc := 39) C (w2 := w_X6_readInto k a_t a_t_characters a_t_values b_p1 v_p1 v_t_length v_t_position v_t_token v_t_tokenStart v_t_number v_t_characters v_t_values) (c_X6_mayBegin z.2.1 k a_t (b_p1 0) (b_p1 1) (b_p1 8) (b_p1 9) (b_p1 5) (b_p1 2) (b_p1 11) (b_p1 3) (b_p1 4) (b_p1 6) (b_p1 7) v_p1.1 v_p1.2.1 v_p1.2.2.1 v_p1.2.2.2.1 v_p1.2.2.2.2.1 v_p1.2.2.2.2.2.2.1 v_p1.2.2.2.2.2.2.2.2.1 q5 x2 q7 h8) Y_X6_mayBegin wm_408 (by decide) rfl 12 rfl rfl rfl [0, 2, 3, 5, 6] rfl (by decide) rfl [some 0, none, some 1, some 2, none, some 3, some 4, none, none, none, none, none, none, none, none] (by decide) rfl (Nat.le_of_ble_eq_true rfl) rfl dX6_readInto_39 ?_
          refine mg_if_eq (pc := 42) (tgt := 61) C dX6_readInto_42 (by decide) hf (fun hf => ?_) (fun hf => ?_)
          · obtain rfl := Option.some.inj hf
            refine mg_lv [1] rfl ?_
            exact (X1 rfl)
          · refine mg_aload_n (pc := 45) C 1 dX6_readInto_45 rfl rfl ?_
            refine mg_iload_n (pc := 46) C 0 dX6_readInto_46 rfl rfl ?_
            refine mg_aload_n (pc := 47) C 2 dX6_readInto_47 rfl rfl ?_
            obtain ⟨q9, h10, hf⟩ := mg_b hf
            refine mg_callV (pc := 48) C (w2 := w_X6_readInto k a_t a_t_characters a_t_values b_p1 v_p1 v_t_length q9.2.1 q9.2.2.1 q9.2.2.2.1 q9.2.2.2.2.1 v_t_characters q9.2.2.2.2.2) (c_X6_readValues z.2.1 k a_t (b_p1 0) (b_p1 1) (b_p1 8) (b_p1 9) (b_p1 5) (b_p1 2) (b_p1 11) (b_p1 3) (b_p1 4) a_t_characters a_t_values v_p1.1 v_p1.2.1 v_p1.2.2.1 v_p1.2.2.2.1 v_p1.2.2.2.2.1 v_p1.2.2.2.2.2.2.1 v_p1.2.2.2.2.2.2.2.1 v_t_length v_t_position v_t_token v_t_tokenStart v_t_number v_t_characters v_t_values fuel q5 q9 h10) Y_X6_readValues wm_416 (by decide) rfl 12 rfl rfl rfl [0, 2, 3, 4, 12, 13, 14] rfl (by decide) rfl [some 0, none, some 1, some 2, some 3, none, none, none, none, none, none, none, some 4, some 5, some 6] (by decide) rfl (Nat.le_of_ble_eq_true rfl) rfl dX6_readInto_48 ?_
            refine mg_if_eq (pc := 51) (tgt := 61) C dX6_readInto_51 (by decide) hf (fun hf => ?_) (fun hf => ?_)
            · obtain rfl := Option.some.inj hf
              refine mg_lv [1] rfl ?_
              exact (X1 rfl)
            · refine mg_aload_n (pc := 54) C 1 dX6_readInto_54 rfl rfl ?_
              obtain ⟨q11, h12, hf⟩ := mg_b hf
              refine mg_callV (pc := 55) C (w2 := w_X6_readInto k a_t a_t_characters a_t_values b_p1 v_p1 v_t_length q11.2.1 q11.2.2.1 q11.2.2.2.1 q11.2.2.2.2 v_t_characters q9.2.2.2.2.2) (c_X6_readSemicolon z.2.1 k a_t a_t_characters a_t_values v_t_length q9.2.1 q9.2.2.1 q9.2.2.2.1 q9.2.2.2.2.1 v_t_characters fuel q11 h12) Y_X6_readSemicolon wm_446 (by decide) rfl 12 rfl rfl rfl [12, 13] rfl (by decide) rfl [none, none, none, none, none, none, none, none, none, none, none, none, some 0, some 1, none] (by decide) rfl (Nat.le_of_ble_eq_true rfl) rfl dX6_readInto_55 ?_
              refine mg_if_ne (pc := 58) (tgt := 69) C dX6_readInto_58 (by decide) hf (fun hf => ?_) (fun hf => ?_)
              · refine mg_aload_n (pc := 69) C 1 dX6_readInto_69 rfl rfl ?_
                refine mg_iload_n (pc := 70) C 0 dX6_readInto_70 rfl rfl ?_
                refine mg_aload_n (pc := 71) C 2 dX6_readInto_71 rfl rfl ?_
                obtain ⟨q13, h14, hf⟩ := mg_b hf
                refine mg_callV (pc := 72) C (w2 := w_X6_readInto k a_t a_t_characters a_t_values b_p1 (q13.1, q13.2.1, q13.2.2.1, q13.2.2.2.1, q13.2.2.2.2.1, q13.2.2.2.2.2.1, q13.2.2.2.2.2.2.1, q13.2.2.2.2.2.2.2.1, q13.2.2.2.2.2.2.2.2.1, q13.2.2.2.2.2.2.2.2.2.1, q13.2.2.2.2.2.2.2.2.2.2.1, q13.2.2.2.2.2.2.2.2.2.2.2.1, q13.2.2.2.2.2.2.2.2.2.2.2.2.1, q13.2.2.2.2.2.2.2.2.2.2.2.2.2.1, q13.2.2.2.2.2.2.2.2.2.2.2.2.2.2.1, v_p1.2.2.2.2.2.2.2.2.2.2.2.2.2.2.2.1, v_p1.2.2.2.2.2.2.2.2.2.2.2.2.2.2.2.2) v_t_length q11.2.1 q11.2.2.1 q11.2.2.2.1 q11.2.2.2.2 v_t_characters q9.2.2.2.2.2) (c_X6_enter z.2.1 k a_t a_t_characters a_t_values b_p1 v_p1 v_t_length q11.2.1 q11.2.2.1 q11.2.2.2.1 q11.2.2.2.2 q9.2.2.2.2.2 fuel q5 q13 h14) Y_X6_enter wm_450 (by decide) rfl 12 rfl rfl rfl [0, 1, 2, 3, 4, 5, 6, 7, 8, 9, 10, 12, 14] rfl (by decide) rfl [some 0, some 1, some 2, some 3, some 4, some 5, some 6, some 7, some 8, some 9, some 10, none, some 11, none, some 12] (by decide) rfl (Nat.le_of_ble_eq_true rfl) rfl dX6_readInto_72 ?_
                refine mg_iinc (pc := 75) C (c := 1) (lv' := [(2, .int (x2 + 1)), (3, .int q5), (0, .ref a_t), (1, .ref (b_p1 0))]) 3 dX6_readInto_75 rfl (by decide) (by decide) rfl ?_
                refine mg_aload_n (pc := 78) C 2 dX6_readInto_78 rfl rfl ?_
                obtain ⟨q15, h16, hf⟩ := mg_b hf
                refine mg_callV (pc := 79) C (w2 := w_X6_readInto k a_t a_t_characters a_t_values b_p1 (q13.1, q13.2.1, q13.2.2.1, q13.2.2.2.1, q13.2.2.2.2.1, q13.2.2.2.2.2.1, q13.2.2.2.2.2.2.1, q13.2.2.2.2.2.2.2.1, q13.2.2.2.2.2.2.2.2.1, q13.2.2.2.2.2.2.2.2.2.1, q13.2.2.2.2.2.2.2.2.2.2.1, q13.2.2.2.2.2.2.2.2.2.2.2.1, q13.2.2.2.2.2.2.2.2.2.2.2.2.1, q13.2.2.2.2.2.2.2.2.2.2.2.2.2.1, q13.2.2.2.2.2.2.2.2.2.2.2.2.2.2.1, v_p1.2.2.2.2.2.2.2.2.2.2.2.2.2.2.2.1, v_p1.2.2.2.2.2.2.2.2.2.2.2.2.2.2.2.2) v_t_length q15.1 q15.2.1 q15.2.2.1 q15.2.2.2 v_t_characters q9.2.2.2.2.2) (c_X6_readToken z.2.1 k a_t a_t_characters a_t_values v_t_length q11.2.1 q11.2.2.1 q11.2.2.2.1 q11.2.2.2.2 v_t_characters fuel q15 h16) Y_X6_readToken wm_332 (by decide) rfl 12 rfl rfl rfl [12, 13] rfl (by decide) rfl [none, none, none, none, none, none, none, none, none, none, none, none, some 0, some 1, none] (by decide) rfl (Nat.le_of_ble_eq_true rfl) rfl dX6_readInto_79 ?_
                refine mg_goto (pc := 82) (tgt := 15) C dX6_readInto_82 (by decide) ?_
                refine mg_lv [2, 3, 0] rfl ?_
                exact ih (x2 + 1) (q13.1, q13.2.1, q13.2.2.1, q13.2.2.2.1, q13.2.2.2.2.1, q13.2.2.2.2.2.1, q13.2.2.2.2.2.2.1, q13.2.2.2.2.2.2.2.1, q13.2.2.2.2.2.2.2.2.1, q13.2.2.2.2.2.2.2.2.2.1, q13.2.2.2.2.2.2.2.2.2.2.1, q13.2.2.2.2.2.2.2.2.2.2.2.1, q13.2.2.2.2.2.2.2.2.2.2.2.2.1, q13.2.2.2.2.2.2.2.2.2.2.2.2.2.1, q13.2.2.2.2.2.2.2.2.2.2.2.2.2.2.1, v_p1.2.2.2.2.2.2.2.2.2.2.2.2.2.2.2.1, v_p1.2.2.2.2.2.2.2.2.2.2.2.2.2.2.2.2) q15.1 q15.2.1 q15.2.2.1 q15.2.2.2 q9.2.2.2.2.2 _ hf X0 X1
              · obtain rfl := Option.some.inj hf
                refine mg_lv [1] rfl ?_
                exact (X1 rfl)
  refine mg_aload_n (pc := 0) C 1 dX6_readInto_0 rfl rfl ?_
  obtain ⟨q1, h2, hf⟩ := mg_b hf
  refine mg_callV (pc := 1) C (w2 := w_X6_readInto k a_t a_t_characters a_t_values b_p1 (q1.1, q1.2.1, q1.2.2.1, q1.2.2.2.1, q1.2.2.2.2.1, q1.2.2.2.2.2.1, q1.2.2.2.2.2.2.1, v_p1.2.2.2.2.2.2.2.1, q1.2.2.2.2.2.2.2.1, v_p1.2.2.2.2.2.2.2.2.2.1, q1.2.2.2.2.2.2.2.2.1, q1.2.2.2.2.2.2.2.2.2.1, q1.2.2.2.2.2.2.2.2.2.2.1, q1.2.2.2.2.2.2.2.2.2.2.2.1, q1.2.2.2.2.2.2.2.2.2.2.2.2.1, q1.2.2.2.2.2.2.2.2.2.2.2.2.2, v_p1.2.2.2.2.2.2.2.2.2.2.2.2.2.2.2.2) v_t_length v_t_position v_t_token v_t_tokenStart v_t_number v_t_characters v_t_values) (c_X5_beginAnew z.2.1 k (b_p1 0) (b_p1 1) (b_p1 8) (b_p1 9) (b_p1 5) (b_p1 2) (b_p1 11) (b_p1 3) (b_p1 4) (b_p1 6) (b_p1 7) (b_p1 10) (b_p1 12) v_p1.1 v_p1.2.1 v_p1.2.2.1 v_p1.2.2.2.1 v_p1.2.2.2.2.1 v_p1.2.2.2.2.2.1 v_p1.2.2.2.2.2.2.1 v_p1.2.2.2.2.2.2.2.2.1 v_p1.2.2.2.2.2.2.2.2.2.2.1 v_p1.2.2.2.2.2.2.2.2.2.2.2.1 v_p1.2.2.2.2.2.2.2.2.2.2.2.2.1 v_p1.2.2.2.2.2.2.2.2.2.2.2.2.2.1 v_p1.2.2.2.2.2.2.2.2.2.2.2.2.2.2.1 v_p1.2.2.2.2.2.2.2.2.2.2.2.2.2.2.2.1 fuel q1 h2) Y_X5_beginAnew wm_331 (by decide) rfl 0 rfl rfl rfl [0, 1, 2, 3, 5, 6, 8, 9, 10, 11] rfl (by decide) rfl [some 0, some 1, some 2, some 3, none, some 4, some 5, none, some 6, some 7, some 8, some 9, none, none, none] (by decide) rfl (Nat.le_of_ble_eq_true rfl) rfl dX6_readInto_1 ?_
  refine mg_aload_n (pc := 4) C 0 dX6_readInto_4 rfl rfl ?_
  refine mg_iconst (pc := 5) C dX6_readInto_5 (v := 0) (by decide) ?_
  refine mg_puti (pc := 6) C (w2 := w_X6_readInto k a_t a_t_characters a_t_values b_p1 (q1.1, q1.2.1, q1.2.2.1, q1.2.2.2.1, q1.2.2.2.2.1, q1.2.2.2.2.2.1, q1.2.2.2.2.2.2.1, v_p1.2.2.2.2.2.2.2.1, q1.2.2.2.2.2.2.2.1, v_p1.2.2.2.2.2.2.2.2.2.1, q1.2.2.2.2.2.2.2.2.1, q1.2.2.2.2.2.2.2.2.2.1, q1.2.2.2.2.2.2.2.2.2.2.1, q1.2.2.2.2.2.2.2.2.2.2.2.1, q1.2.2.2.2.2.2.2.2.2.2.2.2.1, q1.2.2.2.2.2.2.2.2.2.2.2.2.2, v_p1.2.2.2.2.2.2.2.2.2.2.2.2.2.2.2.2) v_t_length 0 v_t_token v_t_tokenStart v_t_number v_t_characters v_t_values) 12 rfl rfl inX6 2 (by decide) wm_256 rfl tyX6 tyX6_ok nmX6 rfl (by decide +kernel) (Nat.le_of_ble_eq_true rfl) rfl dX6_readInto_6 ?_
  refine mg_iconst (pc := 9) C dX6_readInto_9 (v := 0) (by decide) ?_
  refine mg_istore_n (pc := 10) C (lv' := [(2, .int 0), (0, .ref a_t), (1, .ref (b_p1 0))]) dX6_readInto_10 rfl (by decide) rfl ?_
  refine mg_aload_n (pc := 11) C 1 dX6_readInto_11 rfl rfl ?_
  obtain ⟨q3, h4, hf⟩ := mg_b hf
  refine mg_callV (pc := 12) C (w2 := w_X6_readInto k a_t a_t_characters a_t_values b_p1 (q1.1, q1.2.1, q1.2.2.1, q1.2.2.2.1, q1.2.2.2.2.1, q1.2.2.2.2.2.1, q1.2.2.2.2.2.2.1, v_p1.2.2.2.2.2.2.2.1, q1.2.2.2.2.2.2.2.1, v_p1.2.2.2.2.2.2.2.2.2.1, q1.2.2.2.2.2.2.2.2.1, q1.2.2.2.2.2.2.2.2.2.1, q1.2.2.2.2.2.2.2.2.2.2.1, q1.2.2.2.2.2.2.2.2.2.2.2.1, q1.2.2.2.2.2.2.2.2.2.2.2.2.1, q1.2.2.2.2.2.2.2.2.2.2.2.2.2, v_p1.2.2.2.2.2.2.2.2.2.2.2.2.2.2.2.2) v_t_length q3.1 q3.2.1 q3.2.2.1 q3.2.2.2 v_t_characters v_t_values) (c_X6_readToken z.2.1 k a_t a_t_characters a_t_values v_t_length 0 v_t_token v_t_tokenStart v_t_number v_t_characters fuel q3 h4) Y_X6_readToken wm_332 (by decide) rfl 12 rfl rfl rfl [12, 13] rfl (by decide) rfl [none, none, none, none, none, none, none, none, none, none, none, none, some 0, some 1, none] (by decide) rfl (Nat.le_of_ble_eq_true rfl) rfl dX6_readInto_12 ?_
  obtain ⟨q17, h18, hf⟩ := mg_b hf
  refine mg_lv [1, 2, 0] rfl ?_
  refine L15  fuel 0 (q1.1, q1.2.1, q1.2.2.1, q1.2.2.2.1, q1.2.2.2.2.1, q1.2.2.2.2.2.1, q1.2.2.2.2.2.2.1, v_p1.2.2.2.2.2.2.2.1, q1.2.2.2.2.2.2.2.1, v_p1.2.2.2.2.2.2.2.2.2.1, q1.2.2.2.2.2.2.2.2.1, q1.2.2.2.2.2.2.2.2.2.1, q1.2.2.2.2.2.2.2.2.2.2.1, q1.2.2.2.2.2.2.2.2.2.2.2.1, q1.2.2.2.2.2.2.2.2.2.2.2.2.1, q1.2.2.2.2.2.2.2.2.2.2.2.2.2, v_p1.2.2.2.2.2.2.2.2.2.2.2.2.2.2.2.2) q3.1 q3.2.1 q3.2.2.1 q3.2.2.2 v_t_values q17 h18 (fun e19 => ?_) (fun e20 => ?_)
  · have hf := mg_t e19 hf
    refine mg_iload_n (pc := 85) C 0 dX6_readInto_85 rfl rfl ?_
    obtain rfl := Option.some.inj hf
    exact E _ _ dX6_readInto_86
  · have hf := mg_f (by rw [e20]; decide) hf
    refine mg_bipush (pc := 61) C dX6_readInto_61 (v := (-10)) (by decide) ?_
    refine mg_aload_n (pc := 63) C 0 dX6_readInto_63 rfl rfl ?_
    refine mg_get (pc := 64) C 12 rfl rfl inX6 4 (by decide) wm_258 rfl rfl dX6_readInto_64 ?_
    refine mg_isub (pc := 67) C dX6_readInto_67 ?_
    obtain rfl := Option.some.inj hf
    exact E _ _ dX6_readInto_68
