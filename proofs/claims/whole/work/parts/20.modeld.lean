abbrev w_X9_pump (k : mg_K) (a_t a_t_s a_t_past a_t_aside a_t_text a_t_told a_t_bottoms a_t_planned : Nat) (v_t_pasts : Int32) (v_t_typed : Int32) (v_t_at : Int32) (v_t_kind : Int32) (v_t_from : Int32) (v_t_value : Int32) (v_t_planLength : Int32) (v_t_planAmount : Int32) (v_t_aside : Nat → Int32) (v_t_past : Nat → Int32) (v_t_s : Nat → Int32) : va_W := [(a_t, .inr (9, [.ref a_t_s, .ref a_t_past, .ref a_t_aside, .int v_t_pasts, .ref a_t_text, .int v_t_typed, .int v_t_at, .int v_t_kind, .int v_t_from, .int v_t_value, .ref a_t_told, .ref a_t_bottoms, .ref a_t_planned, .int v_t_planLength, .int v_t_planAmount])), (a_t_aside, .inl (k.2.1, 227, .inl v_t_aside)), (a_t_past, .inl (k.2.1, 1362, .inl v_t_past)), (a_t_s, .inl (k.2.1, 227, .inl v_t_s))]
def f_X9_pump (fuel : Nat) (v_t_pasts : Int32) (v_t_aside : Nat → Int32) (v_t_past : Nat → Int32) (v_t_s : Nat → Int32) (x1 : Int32) : Option (Int32 × Int32 × (Nat → Int32) × (Nat → Int32) × (Nat → Int32)) := (f_X9_in x1 0 400).bind (fun q1 => if q1 = 0 then (some ((-1000001), v_t_pasts, v_t_aside, v_t_past, v_t_s)) else (if (v_t_s 6) = x1 then (some ((-1000002), v_t_pasts, v_t_aside, v_t_past, v_t_s)) else ((f_X9_hold fuel v_t_aside v_t_s).bind (fun q3 => (f_X9_records fuel (upd v_t_s 6 x1) 5 x1).bind (fun q5 => (f_X9_ends fuel v_t_pasts q3 v_t_past (v_t_s 6)).bind (fun q7 => some (q7.1, q7.2.1, q3, q7.2.2, q5)))))))
theorem Y_X9_pump : mg_Y yX9_pump cX9_pump 3 (some .int) 1 := ⟨wm_1208, wm_1209, wm_11, wm_1210, ⟨by decide +kernel, by decide +kernel, by decide +kernel⟩, by decide⟩
set_option maxRecDepth 100000 in
set_option maxHeartbeats 4000000 in
theorem c_X9_pump (l : Launch) (k : mg_K) (a_t a_t_s a_t_past a_t_aside a_t_text a_t_told a_t_bottoms a_t_planned : Nat) (v_t_pasts : Int32) (v_t_typed : Int32) (v_t_at : Int32) (v_t_kind : Int32) (v_t_from : Int32) (v_t_value : Int32) (v_t_planLength : Int32) (v_t_planAmount : Int32) (v_t_aside : Nat → Int32) (v_t_past : Nat → Int32) (v_t_s : Nat → Int32) (fuel : Nat) (x1 : Int32) (q : Int32 × Int32 × (Nat → Int32) × (Nat → Int32) × (Nat → Int32)) (hf : f_X9_pump fuel v_t_pasts v_t_aside v_t_past v_t_s x1 = some q) : mg_M l yX9_pump cX9_pump 3 (some .int) 1 k [.ref a_t, .int x1] (w_X9_pump k a_t a_t_s a_t_past a_t_aside a_t_text a_t_told a_t_bottoms a_t_planned v_t_pasts v_t_typed v_t_at v_t_kind v_t_from v_t_value v_t_planLength v_t_planAmount v_t_aside v_t_past v_t_s) (w_X9_pump k a_t a_t_s a_t_past a_t_aside a_t_text a_t_told a_t_bottoms a_t_planned q.2.1 v_t_typed v_t_at v_t_kind v_t_from v_t_value v_t_planLength v_t_planAmount q.2.2.1 q.2.2.2.1 q.2.2.2.2) (some (.int q.1)) := by
  refine mg_Mi RX9 [(0, .ref a_t), (1, .int x1)] (by decide +kernel) rfl rfl (Nat.le_of_ble_eq_true rfl) ?_
  intro z A Q hl C E
  subst hl
  unfold f_X9_pump at hf
  refine mg_iload_n (pc := 0) C 1 dX9_pump_0 rfl rfl ?_
  refine mg_iconst (pc := 1) C dX9_pump_1 (v := 0) (by decide) ?_
  refine mg_sipush (pc := 2) C dX9_pump_2 (v := 400) (by decide) ?_
  obtain ⟨q1, h2, hf⟩ := mg_b hf
  refine mg_callS (pc := 5) C (w2 := w_X9_pump k a_t a_t_s a_t_past a_t_aside a_t_text a_t_told a_t_bottoms a_t_planned v_t_pasts v_t_typed v_t_at v_t_kind v_t_from v_t_value v_t_planLength v_t_planAmount v_t_aside v_t_past v_t_s) (c_X9_in z.2.1 k x1 0 400 q1 h2) Y_X9_in wm_924 (by decide) rfl [] rfl (by decide) rfl [none, none, none, none] (by decide) rfl (Nat.le_of_ble_eq_true rfl) rfl dX9_pump_5 ?_
  refine mg_if_ne (pc := 8) (tgt := 14) C dX9_pump_8 (by decide) hf (fun hf => ?_) (fun hf => ?_)
  · refine mg_aload_n (pc := 14) C 0 dX9_pump_14 rfl rfl ?_
    refine mg_get (pc := 15) C 0 rfl rfl inX9 0 (by decide) wm_874 rfl rfl dX9_pump_15 ?_
    refine mg_bipush (pc := 18) C dX9_pump_18 (v := 6) (by decide) ?_
    refine mg_ialdK (pc := 20) C 3 6 rfl dX9_pump_20 (by decide) (by decide) ?_
    refine mg_istore_n (pc := 21) C (lv' := [(2, .int (v_t_s 6)), (0, .ref a_t), (1, .int x1)]) dX9_pump_21 rfl (by decide) rfl ?_
    refine mg_iload_n (pc := 22) C 0 dX9_pump_22 rfl rfl ?_
    refine mg_iload_n (pc := 23) C 2 dX9_pump_23 rfl rfl ?_
    refine mg_icmp_ne (pc := 24) (tgt := 30) C dX9_pump_24 (by decide) hf (fun hf => ?_) (fun hf => ?_)
    · refine mg_aload_n (pc := 30) C 1 dX9_pump_30 rfl rfl ?_
      obtain ⟨q3, h4, hf⟩ := mg_b hf
      refine mg_callV (pc := 31) C (w2 := w_X9_pump k a_t a_t_s a_t_past a_t_aside a_t_text a_t_told a_t_bottoms a_t_planned v_t_pasts v_t_typed v_t_at v_t_kind v_t_from v_t_value v_t_planLength v_t_planAmount q3 v_t_past v_t_s) (c_X9_hold z.2.1 k a_t a_t_s a_t_past a_t_aside a_t_text a_t_told a_t_bottoms a_t_planned v_t_pasts v_t_typed v_t_at v_t_kind v_t_from v_t_value v_t_planLength v_t_planAmount v_t_aside v_t_s fuel q3 h4) Y_X9_hold wm_937 (by decide) rfl 0 rfl rfl rfl [0, 1, 3] rfl (by decide) rfl [some 0, some 1, none, some 2] (by decide) rfl (Nat.le_of_ble_eq_true rfl) rfl dX9_pump_31 ?_
      refine mg_aload_n (pc := 34) C 1 dX9_pump_34 rfl rfl ?_
      refine mg_get (pc := 35) C 0 rfl rfl inX9 0 (by decide) wm_874 rfl rfl dX9_pump_35 ?_
      refine mg_bipush (pc := 38) C dX9_pump_38 (v := 6) (by decide) ?_
      refine mg_iload_n (pc := 40) C 2 dX9_pump_40 rfl rfl ?_
      refine mg_iastK (pc := 41) C (w2 := w_X9_pump k a_t a_t_s a_t_past a_t_aside a_t_text a_t_told a_t_bottoms a_t_planned v_t_pasts v_t_typed v_t_at v_t_kind v_t_from v_t_value v_t_planLength v_t_planAmount q3 v_t_past (upd v_t_s 6 x1)) 3 6 rfl dX9_pump_41 (by decide) (by decide) rfl ?_
      refine mg_aload_n (pc := 42) C 1 dX9_pump_42 rfl rfl ?_
      refine mg_iconst (pc := 43) C dX9_pump_43 (v := 5) (by decide) ?_
      refine mg_iload_n (pc := 44) C 2 dX9_pump_44 rfl rfl ?_
      obtain ⟨q5, h6, hf⟩ := mg_b hf
      refine mg_callV (pc := 45) C (w2 := w_X9_pump k a_t a_t_s a_t_past a_t_aside a_t_text a_t_told a_t_bottoms a_t_planned v_t_pasts v_t_typed v_t_at v_t_kind v_t_from v_t_value v_t_planLength v_t_planAmount q3 v_t_past q5) (c_X9_records z.2.1 k a_t a_t_s a_t_past a_t_aside a_t_text a_t_told a_t_bottoms a_t_planned v_t_pasts v_t_typed v_t_at v_t_kind v_t_from v_t_value v_t_planLength v_t_planAmount (upd v_t_s 6 x1) fuel 5 x1 q5 h6) Y_X9_records wm_1179 (by decide) rfl 0 rfl rfl rfl [0, 3] rfl (by decide) rfl [some 0, none, none, some 1] (by decide) rfl (Nat.le_of_ble_eq_true rfl) rfl dX9_pump_45 ?_
      refine mg_aload_n (pc := 48) C 1 dX9_pump_48 rfl rfl ?_
      refine mg_iload_n (pc := 49) C 0 dX9_pump_49 rfl rfl ?_
      obtain ⟨q7, h8, hf⟩ := mg_b hf
      refine mg_callV (pc := 50) C (w2 := w_X9_pump k a_t a_t_s a_t_past a_t_aside a_t_text a_t_told a_t_bottoms a_t_planned q7.2.1 v_t_typed v_t_at v_t_kind v_t_from v_t_value v_t_planLength v_t_planAmount q3 q7.2.2 q5) (c_X9_ends z.2.1 k a_t a_t_s a_t_past a_t_aside a_t_text a_t_told a_t_bottoms a_t_planned v_t_pasts v_t_typed v_t_at v_t_kind v_t_from v_t_value v_t_planLength v_t_planAmount q3 v_t_past fuel (v_t_s 6) q7 h8) Y_X9_ends wm_1004 (by decide) rfl 0 rfl rfl rfl [0, 1, 2] rfl (by decide) rfl [some 0, some 1, some 2, none] (by decide) rfl (Nat.le_of_ble_eq_true rfl) rfl dX9_pump_50 ?_
      obtain rfl := Option.some.inj hf
      exact E _ _ dX9_pump_53
    · refine mg_ldc (pc := 27) C wm_1036 dX9_pump_27 ?_
      obtain rfl := Option.some.inj hf
      exact E _ _ dX9_pump_29
  · refine mg_ldc (pc := 11) C wm_927 dX9_pump_11 ?_
    obtain rfl := Option.some.inj hf
    exact E _ _ dX9_pump_13
abbrev w_X9_record (k : mg_K) (a_t a_t_s a_t_past a_t_aside a_t_text a_t_told a_t_bottoms a_t_planned : Nat) (v_t_pasts : Int32) (v_t_typed : Int32) (v_t_at : Int32) (v_t_kind : Int32) (v_t_from : Int32) (v_t_value : Int32) (v_t_planLength : Int32) (v_t_planAmount : Int32) (v_t_s : Nat → Int32) : va_W := [(a_t, .inr (9, [.ref a_t_s, .ref a_t_past, .ref a_t_aside, .int v_t_pasts, .ref a_t_text, .int v_t_typed, .int v_t_at, .int v_t_kind, .int v_t_from, .int v_t_value, .ref a_t_told, .ref a_t_bottoms, .ref a_t_planned, .int v_t_planLength, .int v_t_planAmount])), (a_t_s, .inl (k.2.1, 227, .inl v_t_s))]
def f_X9_record (v_t_s : Nat → Int32) (x1 : Int32) (x2 : Int32) : Option (Int32) := if x1 < 0 then (some (-1000001)) else ((f_X9_in x2 0 2).bind (fun q1 => if q1 = 0 then (some (-1000001)) else (if (v_t_s 166) ≤ x1 then (some (-1000009)) else (if mg_ix ((167 + (3 * (((v_t_s 166) - 1) - x1))) + x2) 227 = true then (some (v_t_s (Int32.toNatClampNeg ((167 + (3 * (((v_t_s 166) - 1) - x1))) + x2)))) else none))))
theorem Y_X9_record : mg_Y yX9_record cX9_record 3 (some .int) 2 := ⟨wm_1212, wm_1213, wm_11, wm_1214, ⟨by decide +kernel, by decide +kernel, by decide +kernel⟩, by decide⟩
set_option maxRecDepth 100000 in
set_option maxHeartbeats 4000000 in
theorem c_X9_record (l : Launch) (k : mg_K) (a_t a_t_s a_t_past a_t_aside a_t_text a_t_told a_t_bottoms a_t_planned : Nat) (v_t_pasts : Int32) (v_t_typed : Int32) (v_t_at : Int32) (v_t_kind : Int32) (v_t_from : Int32) (v_t_value : Int32) (v_t_planLength : Int32) (v_t_planAmount : Int32) (v_t_s : Nat → Int32) (x1 : Int32) (x2 : Int32) (q : Int32) (hf : f_X9_record v_t_s x1 x2 = some q) : mg_M l yX9_record cX9_record 3 (some .int) 1 k [.ref a_t, .int x1, .int x2] (w_X9_record k a_t a_t_s a_t_past a_t_aside a_t_text a_t_told a_t_bottoms a_t_planned v_t_pasts v_t_typed v_t_at v_t_kind v_t_from v_t_value v_t_planLength v_t_planAmount v_t_s) (w_X9_record k a_t a_t_s a_t_past a_t_aside a_t_text a_t_told a_t_bottoms a_t_planned v_t_pasts v_t_typed v_t_at v_t_kind v_t_from v_t_value v_t_planLength v_t_planAmount v_t_s) (some (.int q)) := by
  refine mg_Mi RX9 [(0, .ref a_t), (1, .int x1), (2, .int x2)] (by decide +kernel) rfl rfl (Nat.le_of_ble_eq_true rfl) ?_
  intro z A Q hl C E
  subst hl
  unfold f_X9_record at hf
  refine mg_iload_n (pc := 0) C 1 dX9_record_0 rfl rfl ?_
  refine mg_if_lt (pc := 1) (tgt := 13) C dX9_record_1 (by decide) hf (fun hf => ?_) (fun hf => ?_)
  · refine mg_ldc (pc := 13) C wm_927 dX9_record_13 ?_
    obtain rfl := Option.some.inj hf
    exact E _ _ dX9_record_15
  · refine mg_iload_n (pc := 4) C 2 dX9_record_4 rfl rfl ?_
    refine mg_iconst (pc := 5) C dX9_record_5 (v := 0) (by decide) ?_
    refine mg_iconst (pc := 6) C dX9_record_6 (v := 2) (by decide) ?_
    obtain ⟨q1, h2, hf⟩ := mg_b hf
    refine mg_callS (pc := 7) C (w2 := w_X9_record k a_t a_t_s a_t_past a_t_aside a_t_text a_t_told a_t_bottoms a_t_planned v_t_pasts v_t_typed v_t_at v_t_kind v_t_from v_t_value v_t_planLength v_t_planAmount v_t_s) (c_X9_in z.2.1 k x2 0 2 q1 h2) Y_X9_in wm_924 (by decide) rfl [] rfl (by decide) rfl [none, none] (by decide) rfl (Nat.le_of_ble_eq_true rfl) rfl dX9_record_7 ?_
    refine mg_if_ne (pc := 10) (tgt := 16) C dX9_record_10 (by decide) hf (fun hf => ?_) (fun hf => ?_)
    · refine mg_iload_n (pc := 16) C 1 dX9_record_16 rfl rfl ?_
      refine mg_aload_n (pc := 17) C 0 dX9_record_17 rfl rfl ?_
      refine mg_get (pc := 18) C 0 rfl rfl inX9 0 (by decide) wm_874 rfl rfl dX9_record_18 ?_
      refine mg_sipush (pc := 21) C dX9_record_21 (v := 166) (by decide) ?_
      refine mg_ialdK (pc := 24) C 1 166 rfl dX9_record_24 (by decide) (by decide) ?_
      refine mg_icmp_ge (pc := 25) (tgt := 56) C dX9_record_25 (by decide) hf (fun hf => ?_) (fun hf => ?_)
      · refine mg_ldc (pc := 56) C wm_964 dX9_record_56 ?_
        obtain rfl := Option.some.inj hf
        exact E _ _ dX9_record_58
      · refine mg_aload_n (pc := 28) C 0 dX9_record_28 rfl rfl ?_
        refine mg_get (pc := 29) C 0 rfl rfl inX9 0 (by decide) wm_874 rfl rfl dX9_record_29 ?_
        refine mg_sipush (pc := 32) C dX9_record_32 (v := 167) (by decide) ?_
        refine mg_iconst (pc := 35) C dX9_record_35 (v := 3) (by decide) ?_
        refine mg_aload_n (pc := 36) C 0 dX9_record_36 rfl rfl ?_
        refine mg_get (pc := 37) C 0 rfl rfl inX9 0 (by decide) wm_874 rfl rfl dX9_record_37 ?_
        refine mg_sipush (pc := 40) C dX9_record_40 (v := 166) (by decide) ?_
        refine mg_ialdK (pc := 43) C 1 166 rfl dX9_record_43 (by decide) (by decide) ?_
        refine mg_iconst (pc := 44) C dX9_record_44 (v := 1) (by decide) ?_
        refine mg_isub (pc := 45) C dX9_record_45 ?_
        refine mg_iload_n (pc := 46) C 1 dX9_record_46 rfl rfl ?_
        refine mg_isub (pc := 47) C dX9_record_47 ?_
        refine mg_imul (pc := 48) C dX9_record_48 ?_
        refine mg_iadd (pc := 49) C dX9_record_49 ?_
        refine mg_iload_n (pc := 50) C 2 dX9_record_50 rfl rfl ?_
        refine mg_iadd (pc := 51) C dX9_record_51 ?_
        refine mg_iald (pc := 52) C 1 rfl dX9_record_52 hf (fun hf => ?_)
        refine mg_goto (pc := 53) (tgt := 58) C dX9_record_53 (by decide) ?_
        obtain rfl := Option.some.inj hf
        exact E _ _ dX9_record_58
    · refine mg_ldc (pc := 13) C wm_927 dX9_record_13 ?_
      obtain rfl := Option.some.inj hf
      exact E _ _ dX9_record_15
abbrev w_X9_wouldSettle (k : mg_K) (a_t a_t_s a_t_past a_t_aside a_t_text a_t_told a_t_bottoms a_t_planned : Nat) (v_t_pasts : Int32) (v_t_typed : Int32) (v_t_at : Int32) (v_t_kind : Int32) (v_t_from : Int32) (v_t_value : Int32) (v_t_planLength : Int32) (v_t_planAmount : Int32) (v_t_aside : Nat → Int32) (v_t_s : Nat → Int32) : va_W := [(a_t, .inr (9, [.ref a_t_s, .ref a_t_past, .ref a_t_aside, .int v_t_pasts, .ref a_t_text, .int v_t_typed, .int v_t_at, .int v_t_kind, .int v_t_from, .int v_t_value, .ref a_t_told, .ref a_t_bottoms, .ref a_t_planned, .int v_t_planLength, .int v_t_planAmount])), (a_t_aside, .inl (k.2.1, 227, .inl v_t_aside)), (a_t_s, .inl (k.2.1, 227, .inl v_t_s))]
def f_X9_wouldSettle_J42 (fuel : Nat) (v_t_aside : Nat → Int32) (v_t_s : Nat → Int32) (x2 : Int32) (y0 : Int32) : Option (Int32 × (Nat → Int32) × (Nat → Int32)) := if x2 = 0 then ((f_X9_restore fuel v_t_aside v_t_s).bind (fun q19 => some (y0, v_t_aside, q19))) else (if 3 ≤ x2 then ((f_X9_next fuel v_t_s).bind (fun q11 => if q11 = 2 then ((f_X9_restore fuel v_t_aside v_t_s).bind (fun q15 => some (1, v_t_aside, q15))) else ((f_X9_restore fuel v_t_aside v_t_s).bind (fun q13 => some (0, v_t_aside, q13))))) else (if mg_ix ((3 + x2) - 1) 227 = true then ((f_X9_restore fuel v_t_aside v_t_s).bind (fun q17 => some ((v_t_s (Int32.toNatClampNeg ((3 + x2) - 1))) + 10, v_t_aside, q17))) else none))
def f_X9_wouldSettle (fuel : Nat) (v_t_aside : Nat → Int32) (v_t_s : Nat → Int32) (x1 : Int32) (x2 : Int32) : Option (Int32 × (Nat → Int32) × (Nat → Int32)) := (f_X9_in x1 1 50).bind (fun q1 => if q1 = 0 then (some ((-1000001), v_t_aside, v_t_s)) else ((f_X9_in x2 0 3).bind (fun q3 => if q3 = 0 then (some ((-1000001), v_t_aside, v_t_s)) else ((f_X9_hold fuel v_t_aside v_t_s).bind (fun q5 => (f_X9_next fuel v_t_s).bind (fun q7 => if q7 = 0 then (f_X9_wouldSettle_J42 fuel q5 v_t_s x2 0) else ((f_X9_settles fuel v_t_s x1).bind (fun q9 => f_X9_wouldSettle_J42 fuel q5 q9.2 x2 q9.1))))))))
theorem Y_X9_wouldSettle : mg_Y yX9_wouldSettle cX9_wouldSettle 5 (some .int) 2 := ⟨wm_1216, wm_1217, wm_11, wm_1218, ⟨by decide +kernel, by decide +kernel, by decide +kernel⟩, by decide⟩
set_option maxRecDepth 100000 in
set_option maxHeartbeats 4000000 in
theorem c_X9_wouldSettle (l : Launch) (k : mg_K) (a_t a_t_s a_t_past a_t_aside a_t_text a_t_told a_t_bottoms a_t_planned : Nat) (v_t_pasts : Int32) (v_t_typed : Int32) (v_t_at : Int32) (v_t_kind : Int32) (v_t_from : Int32) (v_t_value : Int32) (v_t_planLength : Int32) (v_t_planAmount : Int32) (v_t_aside : Nat → Int32) (v_t_s : Nat → Int32) (fuel : Nat) (x1 : Int32) (x2 : Int32) (q : Int32 × (Nat → Int32) × (Nat → Int32)) (hf : f_X9_wouldSettle fuel v_t_aside v_t_s x1 x2 = some q) : mg_M l yX9_wouldSettle cX9_wouldSettle 5 (some .int) 9 k [.ref a_t, .int x1, .int x2] (w_X9_wouldSettle k a_t a_t_s a_t_past a_t_aside a_t_text a_t_told a_t_bottoms a_t_planned v_t_pasts v_t_typed v_t_at v_t_kind v_t_from v_t_value v_t_planLength v_t_planAmount v_t_aside v_t_s) (w_X9_wouldSettle k a_t a_t_s a_t_past a_t_aside a_t_text a_t_told a_t_bottoms a_t_planned v_t_pasts v_t_typed v_t_at v_t_kind v_t_from v_t_value v_t_planLength v_t_planAmount q.2.1 q.2.2) (some (.int q.1)) := by
  refine mg_Mi RX9 [(0, .ref a_t), (1, .int x1), (2, .int x2)] (by decide +kernel) rfl rfl (Nat.le_of_ble_eq_true rfl) ?_
  intro z A Q hl C E
  subst hl
  unfold f_X9_wouldSettle at hf
  have J42 : ∀ (x2 : Int32) (v_t_aside : Nat → Int32) (v_t_s : Nat → Int32) (y0 : Int32), f_X9_wouldSettle_J42 fuel v_t_aside v_t_s x2 y0 = some q → mg z k A 5 0 0 Q (w_X9_wouldSettle k a_t a_t_s a_t_past a_t_aside a_t_text a_t_told a_t_bottoms a_t_planned v_t_pasts v_t_typed v_t_at v_t_kind v_t_from v_t_value v_t_planLength v_t_planAmount v_t_aside v_t_s) [(0, .ref a_t), (2, .int x2)] 42 [.int y0] := by
    intro x2 v_t_aside v_t_s y0 hf
    unfold f_X9_wouldSettle_J42 at hf
    refine mg_istore_n (pc := 42) C (lv' := [(3, .int y0), (0, .ref a_t), (2, .int x2)]) dX9_wouldSettle_42 rfl (by decide) rfl ?_
    refine mg_iload_n (pc := 43) C 2 dX9_wouldSettle_43 rfl rfl ?_
    refine mg_if_ne (pc := 44) (tgt := 51) C dX9_wouldSettle_44 (by decide) hf (fun hf => ?_) (fun hf => ?_)
    · refine mg_iload_n (pc := 51) C 2 dX9_wouldSettle_51 rfl rfl ?_
      refine mg_iconst (pc := 52) C dX9_wouldSettle_52 (v := 3) (by decide) ?_
      refine mg_icmp_ge (pc := 53) (tgt := 72) C dX9_wouldSettle_53 (by decide) hf (fun hf => ?_) (fun hf => ?_)
      · refine mg_aload_n (pc := 72) C 1 dX9_wouldSettle_72 rfl rfl ?_
        obtain ⟨q11, h12, hf⟩ := mg_b hf
        refine mg_callV (pc := 73) C (w2 := w_X9_wouldSettle k a_t a_t_s a_t_past a_t_aside a_t_text a_t_told a_t_bottoms a_t_planned v_t_pasts v_t_typed v_t_at v_t_kind v_t_from v_t_value v_t_planLength v_t_planAmount v_t_aside v_t_s) (c_X9_next z.2.1 k a_t a_t_s a_t_past a_t_aside a_t_text a_t_told a_t_bottoms a_t_planned v_t_pasts v_t_typed v_t_at v_t_kind v_t_from v_t_value v_t_planLength v_t_planAmount v_t_s fuel q11 h12) Y_X9_next wm_1148 (by decide) rfl 0 rfl rfl rfl [0, 2] rfl (by decide) rfl [some 0, none, some 1] (by decide) rfl (Nat.le_of_ble_eq_true rfl) rfl dX9_wouldSettle_73 ?_
        refine mg_iconst (pc := 76) C dX9_wouldSettle_76 (v := 2) (by decide) ?_
        refine mg_icmp_ne (pc := 77) (tgt := 84) C dX9_wouldSettle_77 (by decide) hf (fun hf => ?_) (fun hf => ?_)
        · refine mg_iconst (pc := 84) C dX9_wouldSettle_84 (v := 0) (by decide) ?_
          refine mg_istore (pc := 85) C (lv' := [(4, .int 0), (3, .int y0), (0, .ref a_t), (2, .int x2)]) dX9_wouldSettle_85 (by decide) rfl ?_
          refine mg_aload_n (pc := 87) C 2 dX9_wouldSettle_87 rfl rfl ?_
          obtain ⟨q13, h14, hf⟩ := mg_b hf
          refine mg_callV (pc := 88) C (w2 := w_X9_wouldSettle k a_t a_t_s a_t_past a_t_aside a_t_text a_t_told a_t_bottoms a_t_planned v_t_pasts v_t_typed v_t_at v_t_kind v_t_from v_t_value v_t_planLength v_t_planAmount v_t_aside q13) (c_X9_restore z.2.1 k a_t a_t_s a_t_past a_t_aside a_t_text a_t_told a_t_bottoms a_t_planned v_t_pasts v_t_typed v_t_at v_t_kind v_t_from v_t_value v_t_planLength v_t_planAmount v_t_aside v_t_s fuel q13 h14) Y_X9_restore wm_1000 (by decide) rfl 0 rfl rfl rfl [0, 1, 2] rfl (by decide) rfl [some 0, some 1, some 2] (by decide) rfl (Nat.le_of_ble_eq_true rfl) rfl dX9_wouldSettle_88 ?_
          refine mg_iload (pc := 91) C 0 dX9_wouldSettle_91 rfl ?_
          obtain rfl := Option.some.inj hf
          exact E _ _ dX9_wouldSettle_93
        · refine mg_iconst (pc := 80) C dX9_wouldSettle_80 (v := 1) (by decide) ?_
          refine mg_goto (pc := 81) (tgt := 85) C dX9_wouldSettle_81 (by decide) ?_
          refine mg_istore (pc := 85) C (lv' := [(4, .int 1), (3, .int y0), (0, .ref a_t), (2, .int x2)]) dX9_wouldSettle_85 (by decide) rfl ?_
          refine mg_aload_n (pc := 87) C 2 dX9_wouldSettle_87 rfl rfl ?_
          obtain ⟨q15, h16, hf⟩ := mg_b hf
          refine mg_callV (pc := 88) C (w2 := w_X9_wouldSettle k a_t a_t_s a_t_past a_t_aside a_t_text a_t_told a_t_bottoms a_t_planned v_t_pasts v_t_typed v_t_at v_t_kind v_t_from v_t_value v_t_planLength v_t_planAmount v_t_aside q15) (c_X9_restore z.2.1 k a_t a_t_s a_t_past a_t_aside a_t_text a_t_told a_t_bottoms a_t_planned v_t_pasts v_t_typed v_t_at v_t_kind v_t_from v_t_value v_t_planLength v_t_planAmount v_t_aside v_t_s fuel q15 h16) Y_X9_restore wm_1000 (by decide) rfl 0 rfl rfl rfl [0, 1, 2] rfl (by decide) rfl [some 0, some 1, some 2] (by decide) rfl (Nat.le_of_ble_eq_true rfl) rfl dX9_wouldSettle_88 ?_
          refine mg_iload (pc := 91) C 0 dX9_wouldSettle_91 rfl ?_
          obtain rfl := Option.some.inj hf
          exact E _ _ dX9_wouldSettle_93
      · refine mg_aload_n (pc := 56) C 1 dX9_wouldSettle_56 rfl rfl ?_
        refine mg_get (pc := 57) C 0 rfl rfl inX9 0 (by decide) wm_874 rfl rfl dX9_wouldSettle_57 ?_
        refine mg_iconst (pc := 60) C dX9_wouldSettle_60 (v := 3) (by decide) ?_
        refine mg_iload_n (pc := 61) C 2 dX9_wouldSettle_61 rfl rfl ?_
        refine mg_iadd (pc := 62) C dX9_wouldSettle_62 ?_
        refine mg_iconst (pc := 63) C dX9_wouldSettle_63 (v := 1) (by decide) ?_
        refine mg_isub (pc := 64) C dX9_wouldSettle_64 ?_
        refine mg_iald (pc := 65) C 2 rfl dX9_wouldSettle_65 hf (fun hf => ?_)
        refine mg_bipush (pc := 66) C dX9_wouldSettle_66 (v := 10) (by decide) ?_
        refine mg_iadd (pc := 68) C dX9_wouldSettle_68 ?_
        refine mg_goto (pc := 69) (tgt := 85) C dX9_wouldSettle_69 (by decide) ?_
        refine mg_istore (pc := 85) C (lv' := [(4, .int ((v_t_s (Int32.toNatClampNeg ((3 + x2) - 1))) + 10)), (3, .int y0), (0, .ref a_t), (2, .int x2)]) dX9_wouldSettle_85 (by decide) rfl ?_
        refine mg_aload_n (pc := 87) C 2 dX9_wouldSettle_87 rfl rfl ?_
        obtain ⟨q17, h18, hf⟩ := mg_b hf
        refine mg_callV (pc := 88) C (w2 := w_X9_wouldSettle k a_t a_t_s a_t_past a_t_aside a_t_text a_t_told a_t_bottoms a_t_planned v_t_pasts v_t_typed v_t_at v_t_kind v_t_from v_t_value v_t_planLength v_t_planAmount v_t_aside q17) (c_X9_restore z.2.1 k a_t a_t_s a_t_past a_t_aside a_t_text a_t_told a_t_bottoms a_t_planned v_t_pasts v_t_typed v_t_at v_t_kind v_t_from v_t_value v_t_planLength v_t_planAmount v_t_aside v_t_s fuel q17 h18) Y_X9_restore wm_1000 (by decide) rfl 0 rfl rfl rfl [0, 1, 2] rfl (by decide) rfl [some 0, some 1, some 2] (by decide) rfl (Nat.le_of_ble_eq_true rfl) rfl dX9_wouldSettle_88 ?_
        refine mg_iload (pc := 91) C 0 dX9_wouldSettle_91 rfl ?_
        obtain rfl := Option.some.inj hf
        exact E _ _ dX9_wouldSettle_93
    · refine mg_iload_n (pc := 47) C 0 dX9_wouldSettle_47 rfl rfl ?_
      refine mg_goto (pc := 48) (tgt := 85) C dX9_wouldSettle_48 (by decide) ?_
      refine mg_istore (pc := 85) C (lv' := [(4, .int y0), (3, .int y0), (0, .ref a_t), (2, .int x2)]) dX9_wouldSettle_85 (by decide) rfl ?_
      refine mg_aload_n (pc := 87) C 2 dX9_wouldSettle_87 rfl rfl ?_
      obtain ⟨q19, h20, hf⟩ := mg_b hf
      refine mg_callV (pc := 88) C (w2 := w_X9_wouldSettle k a_t a_t_s a_t_past a_t_aside a_t_text a_t_told a_t_bottoms a_t_planned v_t_pasts v_t_typed v_t_at v_t_kind v_t_from v_t_value v_t_planLength v_t_planAmount v_t_aside q19) (c_X9_restore z.2.1 k a_t a_t_s a_t_past a_t_aside a_t_text a_t_told a_t_bottoms a_t_planned v_t_pasts v_t_typed v_t_at v_t_kind v_t_from v_t_value v_t_planLength v_t_planAmount v_t_aside v_t_s fuel q19 h20) Y_X9_restore wm_1000 (by decide) rfl 0 rfl rfl rfl [0, 1, 2] rfl (by decide) rfl [some 0, some 1, some 2] (by decide) rfl (Nat.le_of_ble_eq_true rfl) rfl dX9_wouldSettle_88 ?_
      refine mg_iload (pc := 91) C 0 dX9_wouldSettle_91 rfl ?_
      obtain rfl := Option.some.inj hf
      exact E _ _ dX9_wouldSettle_93
  refine mg_iload_n (pc := 0) C 1 dX9_wouldSettle_0 rfl rfl ?_
  refine mg_iconst (pc := 1) C dX9_wouldSettle_1 (v := 1) (by decide) ?_
  refine mg_bipush (pc := 2) C dX9_wouldSettle_2 (v := 50) (by decide) ?_
  obtain ⟨q1, h2, hf⟩ := mg_b hf
  refine mg_callS (pc := 4) C (w2 := w_X9_wouldSettle k a_t a_t_s a_t_past a_t_aside a_t_text a_t_told a_t_bottoms a_t_planned v_t_pasts v_t_typed v_t_at v_t_kind v_t_from v_t_value v_t_planLength v_t_planAmount v_t_aside v_t_s) (c_X9_in z.2.1 k x1 1 50 q1 h2) Y_X9_in wm_924 (by decide) rfl [] rfl (by decide) rfl [none, none, none] (by decide) rfl (Nat.le_of_ble_eq_true rfl) rfl dX9_wouldSettle_4 ?_
  refine mg_if_eq (pc := 7) (tgt := 19) C dX9_wouldSettle_7 (by decide) hf (fun hf => ?_) (fun hf => ?_)
  · refine mg_ldc (pc := 19) C wm_927 dX9_wouldSettle_19 ?_
    obtain rfl := Option.some.inj hf
    exact E _ _ dX9_wouldSettle_21
  · refine mg_iload_n (pc := 10) C 2 dX9_wouldSettle_10 rfl rfl ?_
    refine mg_iconst (pc := 11) C dX9_wouldSettle_11 (v := 0) (by decide) ?_
    refine mg_iconst (pc := 12) C dX9_wouldSettle_12 (v := 3) (by decide) ?_
    obtain ⟨q3, h4, hf⟩ := mg_b hf
    refine mg_callS (pc := 13) C (w2 := w_X9_wouldSettle k a_t a_t_s a_t_past a_t_aside a_t_text a_t_told a_t_bottoms a_t_planned v_t_pasts v_t_typed v_t_at v_t_kind v_t_from v_t_value v_t_planLength v_t_planAmount v_t_aside v_t_s) (c_X9_in z.2.1 k x2 0 3 q3 h4) Y_X9_in wm_924 (by decide) rfl [] rfl (by decide) rfl [none, none, none] (by decide) rfl (Nat.le_of_ble_eq_true rfl) rfl dX9_wouldSettle_13 ?_
    refine mg_if_ne (pc := 16) (tgt := 22) C dX9_wouldSettle_16 (by decide) hf (fun hf => ?_) (fun hf => ?_)
    · refine mg_aload_n (pc := 22) C 0 dX9_wouldSettle_22 rfl rfl ?_
      obtain ⟨q5, h6, hf⟩ := mg_b hf
      refine mg_callV (pc := 23) C (w2 := w_X9_wouldSettle k a_t a_t_s a_t_past a_t_aside a_t_text a_t_told a_t_bottoms a_t_planned v_t_pasts v_t_typed v_t_at v_t_kind v_t_from v_t_value v_t_planLength v_t_planAmount q5 v_t_s) (c_X9_hold z.2.1 k a_t a_t_s a_t_past a_t_aside a_t_text a_t_told a_t_bottoms a_t_planned v_t_pasts v_t_typed v_t_at v_t_kind v_t_from v_t_value v_t_planLength v_t_planAmount v_t_aside v_t_s fuel q5 h6) Y_X9_hold wm_937 (by decide) rfl 0 rfl rfl rfl [0, 1, 2] rfl (by decide) rfl [some 0, some 1, some 2] (by decide) rfl (Nat.le_of_ble_eq_true rfl) rfl dX9_wouldSettle_23 ?_
      refine mg_aload_n (pc := 26) C 0 dX9_wouldSettle_26 rfl rfl ?_
      obtain ⟨q7, h8, hf⟩ := mg_b hf
      refine mg_callV (pc := 27) C (w2 := w_X9_wouldSettle k a_t a_t_s a_t_past a_t_aside a_t_text a_t_told a_t_bottoms a_t_planned v_t_pasts v_t_typed v_t_at v_t_kind v_t_from v_t_value v_t_planLength v_t_planAmount q5 v_t_s) (c_X9_next z.2.1 k a_t a_t_s a_t_past a_t_aside a_t_text a_t_told a_t_bottoms a_t_planned v_t_pasts v_t_typed v_t_at v_t_kind v_t_from v_t_value v_t_planLength v_t_planAmount v_t_s fuel q7 h8) Y_X9_next wm_1148 (by decide) rfl 0 rfl rfl rfl [0, 2] rfl (by decide) rfl [some 0, none, some 1] (by decide) rfl (Nat.le_of_ble_eq_true rfl) rfl dX9_wouldSettle_27 ?_
      refine mg_if_ne (pc := 30) (tgt := 37) C dX9_wouldSettle_30 (by decide) hf (fun hf => ?_) (fun hf => ?_)
      · refine mg_aload_n (pc := 37) C 0 dX9_wouldSettle_37 rfl rfl ?_
        refine mg_iload_n (pc := 38) C 1 dX9_wouldSettle_38 rfl rfl ?_
        obtain ⟨q9, h10, hf⟩ := mg_b hf
        refine mg_callV (pc := 39) C (w2 := w_X9_wouldSettle k a_t a_t_s a_t_past a_t_aside a_t_text a_t_told a_t_bottoms a_t_planned v_t_pasts v_t_typed v_t_at v_t_kind v_t_from v_t_value v_t_planLength v_t_planAmount q5 q9.2) (c_X9_settles z.2.1 k a_t a_t_s a_t_past a_t_aside a_t_text a_t_told a_t_bottoms a_t_planned v_t_pasts v_t_typed v_t_at v_t_kind v_t_from v_t_value v_t_planLength v_t_planAmount v_t_s fuel x1 q9 h10) Y_X9_settles wm_1187 (by decide) rfl 0 rfl rfl rfl [0, 2] rfl (by decide) rfl [some 0, none, some 1] (by decide) rfl (Nat.le_of_ble_eq_true rfl) rfl dX9_wouldSettle_39 ?_
        refine mg_lv [0, 2] rfl ?_
        exact J42 x2 q5 q9.2 q9.1 hf
      · refine mg_iconst (pc := 33) C dX9_wouldSettle_33 (v := 0) (by decide) ?_
        refine mg_goto (pc := 34) (tgt := 42) C dX9_wouldSettle_34 (by decide) ?_
        refine mg_lv [0, 2] rfl ?_
        exact J42 x2 q5 v_t_s 0 hf
    · refine mg_ldc (pc := 19) C wm_927 dX9_wouldSettle_19 ?_
      obtain rfl := Option.some.inj hf
      exact E _ _ dX9_wouldSettle_21
abbrev w_X9_tilted (k : mg_K) (a_t a_t_s a_t_past a_t_aside a_t_text a_t_told a_t_bottoms a_t_planned : Nat) (v_t_pasts : Int32) (v_t_typed : Int32) (v_t_at : Int32) (v_t_kind : Int32) (v_t_from : Int32) (v_t_value : Int32) (v_t_planLength : Int32) (v_t_planAmount : Int32) (v_t_s : Nat → Int32) : va_W := [(a_t, .inr (9, [.ref a_t_s, .ref a_t_past, .ref a_t_aside, .int v_t_pasts, .ref a_t_text, .int v_t_typed, .int v_t_at, .int v_t_kind, .int v_t_from, .int v_t_value, .ref a_t_told, .ref a_t_bottoms, .ref a_t_planned, .int v_t_planLength, .int v_t_planAmount])), (a_t_s, .inl (k.2.1, 227, .inl v_t_s))]
def f_X9_tilted (v_t_s : Nat → Int32) : Option (Int32) := (f_X9_size (v_t_s 3)).bind (fun q1 => (f_X9_size (v_t_s 4)).bind (fun q3 => some (q1 + q3)))
theorem Y_X9_tilted : mg_Y yX9_tilted cX9_tilted 1 (some .int) 0 := ⟨wm_1237, wp_65, wm_11, wm_1238, ⟨by decide +kernel, by decide +kernel, by decide +kernel⟩, by decide⟩
set_option maxRecDepth 100000 in
set_option maxHeartbeats 4000000 in
theorem c_X9_tilted (l : Launch) (k : mg_K) (a_t a_t_s a_t_past a_t_aside a_t_text a_t_told a_t_bottoms a_t_planned : Nat) (v_t_pasts : Int32) (v_t_typed : Int32) (v_t_at : Int32) (v_t_kind : Int32) (v_t_from : Int32) (v_t_value : Int32) (v_t_planLength : Int32) (v_t_planAmount : Int32) (v_t_s : Nat → Int32) (q : Int32) (hf : f_X9_tilted v_t_s = some q) : mg_M l yX9_tilted cX9_tilted 1 (some .int) 1 k [.ref a_t] (w_X9_tilted k a_t a_t_s a_t_past a_t_aside a_t_text a_t_told a_t_bottoms a_t_planned v_t_pasts v_t_typed v_t_at v_t_kind v_t_from v_t_value v_t_planLength v_t_planAmount v_t_s) (w_X9_tilted k a_t a_t_s a_t_past a_t_aside a_t_text a_t_told a_t_bottoms a_t_planned v_t_pasts v_t_typed v_t_at v_t_kind v_t_from v_t_value v_t_planLength v_t_planAmount v_t_s) (some (.int q)) := by
  refine mg_Mi RX9 [(0, .ref a_t)] (by decide +kernel) rfl rfl (Nat.le_of_ble_eq_true rfl) ?_
  intro z A Q hl C E
  subst hl
  unfold f_X9_tilted at hf
  refine mg_aload_n (pc := 0) C 0 dX9_tilted_0 rfl rfl ?_
  refine mg_get (pc := 1) C 0 rfl rfl inX9 0 (by decide) wm_874 rfl rfl dX9_tilted_1 ?_
  refine mg_iconst (pc := 4) C dX9_tilted_4 (v := 3) (by decide) ?_
  refine mg_ialdK (pc := 5) C 1 3 rfl dX9_tilted_5 (by decide) (by decide) ?_
  obtain ⟨q1, h2, hf⟩ := mg_b hf
  refine mg_callS (pc := 6) C (w2 := w_X9_tilted k a_t a_t_s a_t_past a_t_aside a_t_text a_t_told a_t_bottoms a_t_planned v_t_pasts v_t_typed v_t_at v_t_kind v_t_from v_t_value v_t_planLength v_t_planAmount v_t_s) (c_X9_size z.2.1 k (v_t_s 3) q1 h2) Y_X9_size wm_1156 (by decide) rfl [] rfl (by decide) rfl [none, none] (by decide) rfl (Nat.le_of_ble_eq_true rfl) rfl dX9_tilted_6 ?_
  refine mg_aload_n (pc := 9) C 0 dX9_tilted_9 rfl rfl ?_
  refine mg_get (pc := 10) C 0 rfl rfl inX9 0 (by decide) wm_874 rfl rfl dX9_tilted_10 ?_
  refine mg_iconst (pc := 13) C dX9_tilted_13 (v := 4) (by decide) ?_
  refine mg_ialdK (pc := 14) C 1 4 rfl dX9_tilted_14 (by decide) (by decide) ?_
  obtain ⟨q3, h4, hf⟩ := mg_b hf
  refine mg_callS (pc := 15) C (w2 := w_X9_tilted k a_t a_t_s a_t_past a_t_aside a_t_text a_t_told a_t_bottoms a_t_planned v_t_pasts v_t_typed v_t_at v_t_kind v_t_from v_t_value v_t_planLength v_t_planAmount v_t_s) (c_X9_size z.2.1 k (v_t_s 4) q3 h4) Y_X9_size wm_1156 (by decide) rfl [] rfl (by decide) rfl [none, none] (by decide) rfl (Nat.le_of_ble_eq_true rfl) rfl dX9_tilted_15 ?_
  refine mg_iadd (pc := 18) C dX9_tilted_18 ?_
  obtain rfl := Option.some.inj hf
  exact E _ _ dX9_tilted_19
abbrev w_X9_keeps (k : mg_K) (a_t a_t_s a_t_past a_t_aside a_t_text a_t_told a_t_bottoms a_t_planned : Nat) (v_t_pasts : Int32) (v_t_typed : Int32) (v_t_at : Int32) (v_t_kind : Int32) (v_t_from : Int32) (v_t_value : Int32) (v_t_planLength : Int32) (v_t_planAmount : Int32) (v_t_bottoms : Nat → Int32) (v_t_s : Nat → Int32) : va_W := [(a_t, .inr (9, [.ref a_t_s, .ref a_t_past, .ref a_t_aside, .int v_t_pasts, .ref a_t_text, .int v_t_typed, .int v_t_at, .int v_t_kind, .int v_t_from, .int v_t_value, .ref a_t_told, .ref a_t_bottoms, .ref a_t_planned, .int v_t_planLength, .int v_t_planAmount])), (a_t_bottoms, .inl (k.2.1, 53, .inl v_t_bottoms)), (a_t_s, .inl (k.2.1, 227, .inl v_t_s))]
def f_X9_keeps_L2 (v_t_s : Nat → Int32) : Nat → Int32 → (Nat → Int32) → Option (Int32 × (Nat → Int32))
  | 0, _, _ => none
  | n_ + 1, x1, v_t_bottoms => if 49 ≤ x1 then (some ((x1, v_t_bottoms))) else (if mg_ix (117 + x1) 227 = true then (if mg_ix x1 53 = true then (f_X9_keeps_L2 v_t_s n_ (x1 + 1) (upd v_t_bottoms (Int32.toNatClampNeg x1) (v_t_s (Int32.toNatClampNeg (117 + x1))))) else none) else none)
def f_X9_keeps_L31 (v_t_s : Nat → Int32) : Nat → Int32 → (Nat → Int32) → Option (Int32 × (Nat → Int32))
  | 0, _, _ => none
  | n_ + 1, x1, v_t_bottoms => if 3 ≤ x1 then (some ((x1, v_t_bottoms))) else (if mg_ix (2 + x1) 227 = true then (if mg_ix (49 + x1) 53 = true then (f_X9_keeps_L31 v_t_s n_ (x1 + 1) (upd v_t_bottoms (Int32.toNatClampNeg (49 + x1)) (v_t_s (Int32.toNatClampNeg (2 + x1))))) else none) else none)
def f_X9_keeps (fuel : Nat) (v_t_bottoms : Nat → Int32) (v_t_s : Nat → Int32) : Option ((Nat → Int32)) := (f_X9_keeps_L2 v_t_s fuel 0 v_t_bottoms).bind (fun q1 => (f_X9_keeps_L31 v_t_s fuel 0 q1.2).bind (fun q3 => some q3.2))
theorem Y_X9_keeps : mg_Y yX9_keeps cX9_keeps 2 none 0 := ⟨wm_1229, wp_63, wm_11, wm_1230, ⟨by decide +kernel, by decide +kernel, by decide +kernel⟩, by decide⟩
set_option maxRecDepth 100000 in
set_option maxHeartbeats 4000000 in
theorem c_X9_keeps (l : Launch) (k : mg_K) (a_t a_t_s a_t_past a_t_aside a_t_text a_t_told a_t_bottoms a_t_planned : Nat) (v_t_pasts : Int32) (v_t_typed : Int32) (v_t_at : Int32) (v_t_kind : Int32) (v_t_from : Int32) (v_t_value : Int32) (v_t_planLength : Int32) (v_t_planAmount : Int32) (v_t_bottoms : Nat → Int32) (v_t_s : Nat → Int32) (fuel : Nat) (q : (Nat → Int32)) (hf : f_X9_keeps fuel v_t_bottoms v_t_s = some q) : mg_M l yX9_keeps cX9_keeps 2 none 0 k [.ref a_t] (w_X9_keeps k a_t a_t_s a_t_past a_t_aside a_t_text a_t_told a_t_bottoms a_t_planned v_t_pasts v_t_typed v_t_at v_t_kind v_t_from v_t_value v_t_planLength v_t_planAmount v_t_bottoms v_t_s) (w_X9_keeps k a_t a_t_s a_t_past a_t_aside a_t_text a_t_told a_t_bottoms a_t_planned v_t_pasts v_t_typed v_t_at v_t_kind v_t_from v_t_value v_t_planLength v_t_planAmount q v_t_s) none := by
  refine mg_Mv RX9 [(0, .ref a_t)] (by decide +kernel) rfl rfl (Nat.le_of_ble_eq_true rfl) ?_
  intro z A Q hl C E
  subst hl
  unfold f_X9_keeps at hf
  have L2 : ∀ (n_ : Nat) (x1 : Int32) (v_t_bottoms : Nat → Int32) (q_ : Int32 × (Nat → Int32)), f_X9_keeps_L2 v_t_s n_ x1 v_t_bottoms = some q_ → (mg z k A 2 0 0 Q (w_X9_keeps k a_t a_t_s a_t_past a_t_aside a_t_text a_t_told a_t_bottoms a_t_planned v_t_pasts v_t_typed v_t_at v_t_kind v_t_from v_t_value v_t_planLength v_t_planAmount q_.2 v_t_s) [(0, .ref a_t)] 29 []) → mg z k A 2 0 0 Q (w_X9_keeps k a_t a_t_s a_t_past a_t_aside a_t_text a_t_told a_t_bottoms a_t_planned v_t_pasts v_t_typed v_t_at v_t_kind v_t_from v_t_value v_t_planLength v_t_planAmount v_t_bottoms v_t_s) [(0, .ref a_t), (1, .int x1)] 2 [] := by
    intro n_
    induction n_ with
    | zero => intro x1 v_t_bottoms q_ hf; exact mg_no (show none = some q_ from hf)
    | succ n_ ih =>
      intro x1 v_t_bottoms q_ hf X0
      rw [f_X9_keeps_L2] at hf
      refine mg_iload_n (pc := 2) C 1 dX9_keeps_2 rfl rfl ?_
      refine mg_bipush (pc := 3) C dX9_keeps_3 (v := 49) (by decide) ?_
      refine mg_icmp_ge (pc := 5) (tgt := 29) C dX9_keeps_5 (by decide) hf (fun hf => ?_) (fun hf => ?_)
      · obtain rfl := Option.some.inj hf
        refine mg_lv [0] rfl ?_
        exact X0
      · refine mg_aload_n (pc := 8) C 0 dX9_keeps_8 rfl rfl ?_
        refine mg_get (pc := 9) C 0 rfl rfl inX9 11 (by decide) wm_885 rfl rfl dX9_keeps_9 ?_
        refine mg_iload_n (pc := 12) C 1 dX9_keeps_12 rfl rfl ?_
        refine mg_aload_n (pc := 13) C 0 dX9_keeps_13 rfl rfl ?_
        refine mg_get (pc := 14) C 0 rfl rfl inX9 0 (by decide) wm_874 rfl rfl dX9_keeps_14 ?_
        refine mg_bipush (pc := 17) C dX9_keeps_17 (v := 117) (by decide) ?_
        refine mg_iload_n (pc := 19) C 1 dX9_keeps_19 rfl rfl ?_
        refine mg_iadd (pc := 20) C dX9_keeps_20 ?_
        refine mg_iald (pc := 21) C 2 rfl dX9_keeps_21 hf (fun hf => ?_)
        refine mg_iast (pc := 22) C (w2 := w_X9_keeps k a_t a_t_s a_t_past a_t_aside a_t_text a_t_told a_t_bottoms a_t_planned v_t_pasts v_t_typed v_t_at v_t_kind v_t_from v_t_value v_t_planLength v_t_planAmount (upd v_t_bottoms (Int32.toNatClampNeg x1) (v_t_s (Int32.toNatClampNeg (117 + x1)))) v_t_s) 1 rfl dX9_keeps_22 hf rfl (fun hf => ?_)
        refine mg_iinc (pc := 23) C (c := 1) (lv' := [(1, .int (x1 + 1)), (0, .ref a_t)]) 1 dX9_keeps_23 rfl (by decide) (by decide) rfl ?_
        refine mg_goto (pc := 26) (tgt := 2) C dX9_keeps_26 (by decide) ?_
        refine mg_lv [1, 0] rfl ?_
        exact ih (x1 + 1) (upd v_t_bottoms (Int32.toNatClampNeg x1) (v_t_s (Int32.toNatClampNeg (117 + x1)))) _ hf X0
  have L31 : ∀ (n_ : Nat) (x1 : Int32) (v_t_bottoms : Nat → Int32) (q_ : Int32 × (Nat → Int32)), f_X9_keeps_L31 v_t_s n_ x1 v_t_bottoms = some q_ → (mg z k A 2 0 0 Q (w_X9_keeps k a_t a_t_s a_t_past a_t_aside a_t_text a_t_told a_t_bottoms a_t_planned v_t_pasts v_t_typed v_t_at v_t_kind v_t_from v_t_value v_t_planLength v_t_planAmount q_.2 v_t_s) [] 59 []) → mg z k A 2 0 0 Q (w_X9_keeps k a_t a_t_s a_t_past a_t_aside a_t_text a_t_told a_t_bottoms a_t_planned v_t_pasts v_t_typed v_t_at v_t_kind v_t_from v_t_value v_t_planLength v_t_planAmount v_t_bottoms v_t_s) [(0, .ref a_t), (1, .int x1)] 31 [] := by
    intro n_
    induction n_ with
    | zero => intro x1 v_t_bottoms q_ hf; exact mg_no (show none = some q_ from hf)
    | succ n_ ih =>
      intro x1 v_t_bottoms q_ hf X0
      rw [f_X9_keeps_L31] at hf
      refine mg_iload_n (pc := 31) C 1 dX9_keeps_31 rfl rfl ?_
      refine mg_iconst (pc := 32) C dX9_keeps_32 (v := 3) (by decide) ?_
      refine mg_icmp_ge (pc := 33) (tgt := 59) C dX9_keeps_33 (by decide) hf (fun hf => ?_) (fun hf => ?_)
      · obtain rfl := Option.some.inj hf
        refine mg_lv [] rfl ?_
        exact X0
      · refine mg_aload_n (pc := 36) C 0 dX9_keeps_36 rfl rfl ?_
        refine mg_get (pc := 37) C 0 rfl rfl inX9 11 (by decide) wm_885 rfl rfl dX9_keeps_37 ?_
        refine mg_bipush (pc := 40) C dX9_keeps_40 (v := 49) (by decide) ?_
        refine mg_iload_n (pc := 42) C 1 dX9_keeps_42 rfl rfl ?_
        refine mg_iadd (pc := 43) C dX9_keeps_43 ?_
        refine mg_aload_n (pc := 44) C 0 dX9_keeps_44 rfl rfl ?_
        refine mg_get (pc := 45) C 0 rfl rfl inX9 0 (by decide) wm_874 rfl rfl dX9_keeps_45 ?_
        refine mg_iconst (pc := 48) C dX9_keeps_48 (v := 2) (by decide) ?_
        refine mg_iload_n (pc := 49) C 1 dX9_keeps_49 rfl rfl ?_
        refine mg_iadd (pc := 50) C dX9_keeps_50 ?_
        refine mg_iald (pc := 51) C 2 rfl dX9_keeps_51 hf (fun hf => ?_)
        refine mg_iast (pc := 52) C (w2 := w_X9_keeps k a_t a_t_s a_t_past a_t_aside a_t_text a_t_told a_t_bottoms a_t_planned v_t_pasts v_t_typed v_t_at v_t_kind v_t_from v_t_value v_t_planLength v_t_planAmount (upd v_t_bottoms (Int32.toNatClampNeg (49 + x1)) (v_t_s (Int32.toNatClampNeg (2 + x1)))) v_t_s) 1 rfl dX9_keeps_52 hf rfl (fun hf => ?_)
        refine mg_iinc (pc := 53) C (c := 1) (lv' := [(1, .int (x1 + 1)), (0, .ref a_t)]) 1 dX9_keeps_53 rfl (by decide) (by decide) rfl ?_
        refine mg_goto (pc := 56) (tgt := 31) C dX9_keeps_56 (by decide) ?_
        refine mg_lv [1, 0] rfl ?_
        exact ih (x1 + 1) (upd v_t_bottoms (Int32.toNatClampNeg (49 + x1)) (v_t_s (Int32.toNatClampNeg (2 + x1)))) _ hf X0
  refine mg_iconst (pc := 0) C dX9_keeps_0 (v := 0) (by decide) ?_
  refine mg_istore_n (pc := 1) C (lv' := [(1, .int 0), (0, .ref a_t)]) dX9_keeps_1 rfl (by decide) rfl ?_
  obtain ⟨q1, h2, hf⟩ := mg_b hf
  refine mg_lv [1, 0] rfl ?_
  refine L2  fuel 0 v_t_bottoms q1 h2 ?_
  refine mg_iconst (pc := 29) C dX9_keeps_29 (v := 0) (by decide) ?_
  refine mg_istore_n (pc := 30) C (lv' := [(1, .int 0), (0, .ref a_t)]) dX9_keeps_30 rfl (by decide) rfl ?_
  obtain ⟨q3, h4, hf⟩ := mg_b hf
  refine mg_lv [1, 0] rfl ?_
  refine L31  fuel 0 q1.2 q3 h4 ?_
  obtain rfl := Option.some.inj hf
  exact E _ _ dX9_keeps_59
abbrev w_X9_returns (k : mg_K) (a_t a_t_s a_t_past a_t_aside a_t_text a_t_told a_t_bottoms a_t_planned : Nat) (v_t_pasts : Int32) (v_t_typed : Int32) (v_t_at : Int32) (v_t_kind : Int32) (v_t_from : Int32) (v_t_value : Int32) (v_t_planLength : Int32) (v_t_planAmount : Int32) (v_t_bottoms : Nat → Int32) (v_t_s : Nat → Int32) : va_W := [(a_t, .inr (9, [.ref a_t_s, .ref a_t_past, .ref a_t_aside, .int v_t_pasts, .ref a_t_text, .int v_t_typed, .int v_t_at, .int v_t_kind, .int v_t_from, .int v_t_value, .ref a_t_told, .ref a_t_bottoms, .ref a_t_planned, .int v_t_planLength, .int v_t_planAmount])), (a_t_bottoms, .inl (k.2.1, 53, .inl v_t_bottoms)), (a_t_s, .inl (k.2.1, 227, .inl v_t_s))]
def f_X9_returns_L2 (v_t_bottoms : Nat → Int32) : Nat → Int32 → (Nat → Int32) → Option (Int32 × (Nat → Int32))
  | 0, _, _ => none
  | n_ + 1, x1, v_t_s => if 49 ≤ x1 then (some ((x1, v_t_s))) else (if mg_ix x1 53 = true then (if mg_ix (117 + x1) 227 = true then (f_X9_returns_L2 v_t_bottoms n_ (x1 + 1) (upd v_t_s (Int32.toNatClampNeg (117 + x1)) (v_t_bottoms (Int32.toNatClampNeg x1)))) else none) else none)
def f_X9_returns_L31 (v_t_bottoms : Nat → Int32) : Nat → Int32 → (Nat → Int32) → Option (Int32 × (Nat → Int32))
  | 0, _, _ => none
  | n_ + 1, x1, v_t_s => if 3 ≤ x1 then (some ((x1, v_t_s))) else (if mg_ix (49 + x1) 53 = true then (if mg_ix (2 + x1) 227 = true then (f_X9_returns_L31 v_t_bottoms n_ (x1 + 1) (upd v_t_s (Int32.toNatClampNeg (2 + x1)) (v_t_bottoms (Int32.toNatClampNeg (49 + x1))))) else none) else none)
def f_X9_returns (fuel : Nat) (v_t_bottoms : Nat → Int32) (v_t_s : Nat → Int32) : Option ((Nat → Int32)) := (f_X9_returns_L2 v_t_bottoms fuel 0 v_t_s).bind (fun q1 => (f_X9_returns_L31 v_t_bottoms fuel 0 q1.2).bind (fun q3 => some q3.2))
theorem Y_X9_returns : mg_Y yX9_returns cX9_returns 2 none 0 := ⟨wm_1241, wp_66, wm_11, wm_1242, ⟨by decide +kernel, by decide +kernel, by decide +kernel⟩, by decide⟩
set_option maxRecDepth 100000 in
set_option maxHeartbeats 4000000 in
theorem c_X9_returns (l : Launch) (k : mg_K) (a_t a_t_s a_t_past a_t_aside a_t_text a_t_told a_t_bottoms a_t_planned : Nat) (v_t_pasts : Int32) (v_t_typed : Int32) (v_t_at : Int32) (v_t_kind : Int32) (v_t_from : Int32) (v_t_value : Int32) (v_t_planLength : Int32) (v_t_planAmount : Int32) (v_t_bottoms : Nat → Int32) (v_t_s : Nat → Int32) (fuel : Nat) (q : (Nat → Int32)) (hf : f_X9_returns fuel v_t_bottoms v_t_s = some q) : mg_M l yX9_returns cX9_returns 2 none 0 k [.ref a_t] (w_X9_returns k a_t a_t_s a_t_past a_t_aside a_t_text a_t_told a_t_bottoms a_t_planned v_t_pasts v_t_typed v_t_at v_t_kind v_t_from v_t_value v_t_planLength v_t_planAmount v_t_bottoms v_t_s) (w_X9_returns k a_t a_t_s a_t_past a_t_aside a_t_text a_t_told a_t_bottoms a_t_planned v_t_pasts v_t_typed v_t_at v_t_kind v_t_from v_t_value v_t_planLength v_t_planAmount v_t_bottoms q) none := by
  refine mg_Mv RX9 [(0, .ref a_t)] (by decide +kernel) rfl rfl (Nat.le_of_ble_eq_true rfl) ?_
  intro z A Q hl C E
  subst hl
  unfold f_X9_returns at hf
  have L2 : ∀ (n_ : Nat) (x1 : Int32) (v_t_s : Nat → Int32) (q_ : Int32 × (Nat → Int32)), f_X9_returns_L2 v_t_bottoms n_ x1 v_t_s = some q_ → (mg z k A 2 0 0 Q (w_X9_returns k a_t a_t_s a_t_past a_t_aside a_t_text a_t_told a_t_bottoms a_t_planned v_t_pasts v_t_typed v_t_at v_t_kind v_t_from v_t_value v_t_planLength v_t_planAmount v_t_bottoms q_.2) [(0, .ref a_t)] 29 []) → mg z k A 2 0 0 Q (w_X9_returns k a_t a_t_s a_t_past a_t_aside a_t_text a_t_told a_t_bottoms a_t_planned v_t_pasts v_t_typed v_t_at v_t_kind v_t_from v_t_value v_t_planLength v_t_planAmount v_t_bottoms v_t_s) [(0, .ref a_t), (1, .int x1)] 2 [] := by
    intro n_
    induction n_ with
    | zero => intro x1 v_t_s q_ hf; exact mg_no (show none = some q_ from hf)
    | succ n_ ih =>
      intro x1 v_t_s q_ hf X0
      rw [f_X9_returns_L2] at hf
      refine mg_iload_n (pc := 2) C 1 dX9_returns_2 rfl rfl ?_
      refine mg_bipush (pc := 3) C dX9_returns_3 (v := 49) (by decide) ?_
      refine mg_icmp_ge (pc := 5) (tgt := 29) C dX9_returns_5 (by decide) hf (fun hf => ?_) (fun hf => ?_)
      · obtain rfl := Option.some.inj hf
        refine mg_lv [0] rfl ?_
        exact X0
      · refine mg_aload_n (pc := 8) C 0 dX9_returns_8 rfl rfl ?_
        refine mg_get (pc := 9) C 0 rfl rfl inX9 0 (by decide) wm_874 rfl rfl dX9_returns_9 ?_
        refine mg_bipush (pc := 12) C dX9_returns_12 (v := 117) (by decide) ?_
        refine mg_iload_n (pc := 14) C 1 dX9_returns_14 rfl rfl ?_
        refine mg_iadd (pc := 15) C dX9_returns_15 ?_
        refine mg_aload_n (pc := 16) C 0 dX9_returns_16 rfl rfl ?_
        refine mg_get (pc := 17) C 0 rfl rfl inX9 11 (by decide) wm_885 rfl rfl dX9_returns_17 ?_
        refine mg_iload_n (pc := 20) C 1 dX9_returns_20 rfl rfl ?_
        refine mg_iald (pc := 21) C 1 rfl dX9_returns_21 hf (fun hf => ?_)
        refine mg_iast (pc := 22) C (w2 := w_X9_returns k a_t a_t_s a_t_past a_t_aside a_t_text a_t_told a_t_bottoms a_t_planned v_t_pasts v_t_typed v_t_at v_t_kind v_t_from v_t_value v_t_planLength v_t_planAmount v_t_bottoms (upd v_t_s (Int32.toNatClampNeg (117 + x1)) (v_t_bottoms (Int32.toNatClampNeg x1)))) 2 rfl dX9_returns_22 hf rfl (fun hf => ?_)
        refine mg_iinc (pc := 23) C (c := 1) (lv' := [(1, .int (x1 + 1)), (0, .ref a_t)]) 1 dX9_returns_23 rfl (by decide) (by decide) rfl ?_
        refine mg_goto (pc := 26) (tgt := 2) C dX9_returns_26 (by decide) ?_
        refine mg_lv [1, 0] rfl ?_
        exact ih (x1 + 1) (upd v_t_s (Int32.toNatClampNeg (117 + x1)) (v_t_bottoms (Int32.toNatClampNeg x1))) _ hf X0
  have L31 : ∀ (n_ : Nat) (x1 : Int32) (v_t_s : Nat → Int32) (q_ : Int32 × (Nat → Int32)), f_X9_returns_L31 v_t_bottoms n_ x1 v_t_s = some q_ → (mg z k A 2 0 0 Q (w_X9_returns k a_t a_t_s a_t_past a_t_aside a_t_text a_t_told a_t_bottoms a_t_planned v_t_pasts v_t_typed v_t_at v_t_kind v_t_from v_t_value v_t_planLength v_t_planAmount v_t_bottoms q_.2) [] 59 []) → mg z k A 2 0 0 Q (w_X9_returns k a_t a_t_s a_t_past a_t_aside a_t_text a_t_told a_t_bottoms a_t_planned v_t_pasts v_t_typed v_t_at v_t_kind v_t_from v_t_value v_t_planLength v_t_planAmount v_t_bottoms v_t_s) [(0, .ref a_t), (1, .int x1)] 31 [] := by
    intro n_
    induction n_ with
    | zero => intro x1 v_t_s q_ hf; exact mg_no (show none = some q_ from hf)
    | succ n_ ih =>
      intro x1 v_t_s q_ hf X0
      rw [f_X9_returns_L31] at hf
      refine mg_iload_n (pc := 31) C 1 dX9_returns_31 rfl rfl ?_
      refine mg_iconst (pc := 32) C dX9_returns_32 (v := 3) (by decide) ?_
      refine mg_icmp_ge (pc := 33) (tgt := 59) C dX9_returns_33 (by decide) hf (fun hf => ?_) (fun hf => ?_)
      · obtain rfl := Option.some.inj hf
        refine mg_lv [] rfl ?_
        exact X0
      · refine mg_aload_n (pc := 36) C 0 dX9_returns_36 rfl rfl ?_
        refine mg_get (pc := 37) C 0 rfl rfl inX9 0 (by decide) wm_874 rfl rfl dX9_returns_37 ?_
        refine mg_iconst (pc := 40) C dX9_returns_40 (v := 2) (by decide) ?_
        refine mg_iload_n (pc := 41) C 1 dX9_returns_41 rfl rfl ?_
        refine mg_iadd (pc := 42) C dX9_returns_42 ?_
        refine mg_aload_n (pc := 43) C 0 dX9_returns_43 rfl rfl ?_
        refine mg_get (pc := 44) C 0 rfl rfl inX9 11 (by decide) wm_885 rfl rfl dX9_returns_44 ?_
        refine mg_bipush (pc := 47) C dX9_returns_47 (v := 49) (by decide) ?_
        refine mg_iload_n (pc := 49) C 1 dX9_returns_49 rfl rfl ?_
        refine mg_iadd (pc := 50) C dX9_returns_50 ?_
        refine mg_iald (pc := 51) C 1 rfl dX9_returns_51 hf (fun hf => ?_)
        refine mg_iast (pc := 52) C (w2 := w_X9_returns k a_t a_t_s a_t_past a_t_aside a_t_text a_t_told a_t_bottoms a_t_planned v_t_pasts v_t_typed v_t_at v_t_kind v_t_from v_t_value v_t_planLength v_t_planAmount v_t_bottoms (upd v_t_s (Int32.toNatClampNeg (2 + x1)) (v_t_bottoms (Int32.toNatClampNeg (49 + x1))))) 2 rfl dX9_returns_52 hf rfl (fun hf => ?_)
        refine mg_iinc (pc := 53) C (c := 1) (lv' := [(1, .int (x1 + 1)), (0, .ref a_t)]) 1 dX9_returns_53 rfl (by decide) (by decide) rfl ?_
        refine mg_goto (pc := 56) (tgt := 31) C dX9_returns_56 (by decide) ?_
        refine mg_lv [1, 0] rfl ?_
        exact ih (x1 + 1) (upd v_t_s (Int32.toNatClampNeg (2 + x1)) (v_t_bottoms (Int32.toNatClampNeg (49 + x1)))) _ hf X0
  refine mg_iconst (pc := 0) C dX9_returns_0 (v := 0) (by decide) ?_
  refine mg_istore_n (pc := 1) C (lv' := [(1, .int 0), (0, .ref a_t)]) dX9_returns_1 rfl (by decide) rfl ?_
  obtain ⟨q1, h2, hf⟩ := mg_b hf
  refine mg_lv [1, 0] rfl ?_
  refine L2  fuel 0 v_t_s q1 h2 ?_
  refine mg_iconst (pc := 29) C dX9_returns_29 (v := 0) (by decide) ?_
  refine mg_istore_n (pc := 30) C (lv' := [(1, .int 0), (0, .ref a_t)]) dX9_returns_30 rfl (by decide) rfl ?_
  obtain ⟨q3, h4, hf⟩ := mg_b hf
  refine mg_lv [1, 0] rfl ?_
  refine L31  fuel 0 q1.2 q3 h4 ?_
  obtain rfl := Option.some.inj hf
  exact E _ _ dX9_returns_59
abbrev w_X9_best (k : mg_K) (a_t a_t_s a_t_past a_t_aside a_t_text a_t_told a_t_bottoms a_t_planned : Nat) (v_t_pasts : Int32) (v_t_typed : Int32) (v_t_at : Int32) (v_t_kind : Int32) (v_t_from : Int32) (v_t_value : Int32) (v_t_planLength : Int32) (v_t_planAmount : Int32) (v_t_bottoms : Nat → Int32) (v_t_s : Nat → Int32) : va_W := [(a_t, .inr (9, [.ref a_t_s, .ref a_t_past, .ref a_t_aside, .int v_t_pasts, .ref a_t_text, .int v_t_typed, .int v_t_at, .int v_t_kind, .int v_t_from, .int v_t_value, .ref a_t_told, .ref a_t_bottoms, .ref a_t_planned, .int v_t_planLength, .int v_t_planAmount])), (a_t_bottoms, .inl (k.2.1, 53, .inl v_t_bottoms)), (a_t_s, .inl (k.2.1, 227, .inl v_t_s))]
def f_X9_best_J101 (rec_ : Int32 → Int32 → Int32 → Int32 → (Nat → Int32) → Option (Int32 × Int32 × Int32 × Int32 × (Nat → Int32))) (fuel : Nat) (v_t_bottoms : Nat → Int32) (v_t_s : Nat → Int32) (x5 : Int32) : Option (Int32 × Int32 × Int32 × Int32 × (Nat → Int32)) := (f_X9_tilted v_t_s).bind (fun q9 => (f_X9_returns fuel v_t_bottoms v_t_s).bind (fun q11 => rec_ x5 q9 (v_t_s 2) (x5 + 1) q11))
def f_X9_best_J44 (rec_ : Int32 → Int32 → Int32 → Int32 → (Nat → Int32) → Option (Int32 × Int32 × Int32 × Int32 × (Nat → Int32))) (fuel : Nat) (v_t_bottoms : Nat → Int32) (v_t_s : Nat → Int32) (x2 : Int32) (x3 : Int32) (x4 : Int32) (x5 : Int32) (y0 : Int32) : Option (Int32 × Int32 × Int32 × Int32 × (Nat → Int32)) := if y0 ≤ 0 then (rec_ x2 x3 x4 (x5 + 1) v_t_s) else (if mg_ix (117 + x5) 227 = true then (if mg_ix (117 + x5) 227 = true then ((f_X9_settlesIfLoose fuel (upd v_t_s (Int32.toNatClampNeg (117 + x5)) ((v_t_s (Int32.toNatClampNeg (117 + x5))) + y0))).bind (fun q7 => if x2 < 0 then (f_X9_best_J101 (rec_) fuel v_t_bottoms q7 x5) else ((f_X9_tilted q7).bind (fun q13 => if q13 < x3 then (f_X9_best_J101 (rec_) fuel v_t_bottoms q7 x5) else ((f_X9_tilted q7).bind (fun q15 => if q15 = x3 then (if (q7 2) ≤ x4 then ((f_X9_returns fuel v_t_bottoms q7).bind (fun q19 => rec_ x2 x3 x4 (x5 + 1) q19)) else (f_X9_best_J101 (rec_) fuel v_t_bottoms q7 x5)) else ((f_X9_returns fuel v_t_bottoms q7).bind (fun q17 => rec_ x2 x3 x4 (x5 + 1) q17)))))))) else none) else none)
def f_X9_best_L15 (fuel : Nat) (v_t_bottoms : Nat → Int32) (x1 : Int32) : Nat → Int32 → Int32 → Int32 → Int32 → (Nat → Int32) → Option (Int32 × Int32 × Int32 × Int32 × (Nat → Int32))
  | 0, _, _, _, _, _ => none
  | n_ + 1, x2, x3, x4, x5, v_t_s => (f_X9_cells v_t_s).bind (fun q3 => if q3 ≤ x5 then (some ((x2, x3, x4, x5, v_t_s))) else ((f_X9_isWell v_t_s x5).bind (fun q5 => if q5 = 0 then (f_X9_best_J44 (f_X9_best_L15 fuel v_t_bottoms x1 n_) fuel v_t_bottoms v_t_s x2 x3 x4 x5 0) else ((f_X9_sinkable fuel v_t_s x5 x1).bind (fun q21 => f_X9_best_J44 (f_X9_best_L15 fuel v_t_bottoms x1 n_) fuel v_t_bottoms v_t_s x2 x3 x4 x5 q21)))))
def f_X9_best (fuel : Nat) (v_t_bottoms : Nat → Int32) (v_t_s : Nat → Int32) (x1 : Int32) : Option (Int32 × (Nat → Int32) × (Nat → Int32)) := (f_X9_keeps fuel v_t_bottoms v_t_s).bind (fun q1 => (f_X9_best_L15 fuel q1 x1 fuel (-1000009) 0 0 0 v_t_s).bind (fun q23 => some (q23.1, q1, q23.2.2.2.2)))
theorem Y_X9_best : mg_Y yX9_best cX9_best 7 (some .int) 1 := ⟨wm_1225, wp_62, wm_11, wm_1226, ⟨by decide +kernel, by decide +kernel, by decide +kernel⟩, by decide⟩
set_option maxRecDepth 100000 in
set_option maxHeartbeats 4000000 in
theorem c_X9_best (l : Launch) (k : mg_K) (a_t a_t_s a_t_past a_t_aside a_t_text a_t_told a_t_bottoms a_t_planned : Nat) (v_t_pasts : Int32) (v_t_typed : Int32) (v_t_at : Int32) (v_t_kind : Int32) (v_t_from : Int32) (v_t_value : Int32) (v_t_planLength : Int32) (v_t_planAmount : Int32) (v_t_bottoms : Nat → Int32) (v_t_s : Nat → Int32) (fuel : Nat) (x1 : Int32) (q : Int32 × (Nat → Int32) × (Nat → Int32)) (hf : f_X9_best fuel v_t_bottoms v_t_s x1 = some q) : mg_M l yX9_best cX9_best 7 (some .int) 10 k [.ref a_t, .int x1] (w_X9_best k a_t a_t_s a_t_past a_t_aside a_t_text a_t_told a_t_bottoms a_t_planned v_t_pasts v_t_typed v_t_at v_t_kind v_t_from v_t_value v_t_planLength v_t_planAmount v_t_bottoms v_t_s) (w_X9_best k a_t a_t_s a_t_past a_t_aside a_t_text a_t_told a_t_bottoms a_t_planned v_t_pasts v_t_typed v_t_at v_t_kind v_t_from v_t_value v_t_planLength v_t_planAmount q.2.1 q.2.2) (some (.int q.1)) := by
  refine mg_Mi RX9 [(0, .ref a_t), (1, .int x1)] (by decide +kernel) rfl rfl (Nat.le_of_ble_eq_true rfl) ?_
  intro z A Q hl C E
  subst hl
  unfold f_X9_best at hf
  have L15 : ∀ (x1 : Int32) (v_t_bottoms : Nat → Int32) (n_ : Nat) (x2 : Int32) (x3 : Int32) (x4 : Int32) (x5 : Int32) (v_t_s : Nat → Int32) (q_ : Int32 × Int32 × Int32 × Int32 × (Nat → Int32)), f_X9_best_L15 fuel v_t_bottoms x1 n_ x2 x3 x4 x5 v_t_s = some q_ → (mg z k A 7 0 0 Q (w_X9_best k a_t a_t_s a_t_past a_t_aside a_t_text a_t_told a_t_bottoms a_t_planned v_t_pasts v_t_typed v_t_at v_t_kind v_t_from v_t_value v_t_planLength v_t_planAmount v_t_bottoms q_.2.2.2.2) [(2, .int q_.1)] 127 []) → mg z k A 7 0 0 Q (w_X9_best k a_t a_t_s a_t_past a_t_aside a_t_text a_t_told a_t_bottoms a_t_planned v_t_pasts v_t_typed v_t_at v_t_kind v_t_from v_t_value v_t_planLength v_t_planAmount v_t_bottoms v_t_s) [(0, .ref a_t), (1, .int x1), (2, .int x2), (3, .int x3), (4, .int x4), (5, .int x5)] 15 [] := by
    intro x1 v_t_bottoms n_
    induction n_ with
    | zero => intro x2 x3 x4 x5 v_t_s q_ hf; exact mg_no (show none = some q_ from hf)
    | succ n_ ih =>
      intro x2 x3 x4 x5 v_t_s q_ hf X0
      rw [f_X9_best_L15] at hf
      have J101 : ∀ (x5 : Int32) (v_t_s : Nat → Int32), f_X9_best_J101 (f_X9_best_L15 fuel v_t_bottoms x1 n_) fuel v_t_bottoms v_t_s x5 = some q_ → mg z k A 7 0 0 Q (w_X9_best k a_t a_t_s a_t_past a_t_aside a_t_text a_t_told a_t_bottoms a_t_planned v_t_pasts v_t_typed v_t_at v_t_kind v_t_from v_t_value v_t_planLength v_t_planAmount v_t_bottoms v_t_s) [(0, .ref a_t), (1, .int x1), (5, .int x5)] 101 [] := by
        intro x5 v_t_s hf
        unfold f_X9_best_J101 at hf
        refine mg_iload (pc := 101) C 2 dX9_best_101 rfl ?_
        refine mg_istore_n (pc := 103) C (lv' := [(2, .int x5), (0, .ref a_t), (1, .int x1), (5, .int x5)]) dX9_best_103 rfl (by decide) rfl ?_
        refine mg_aload_n (pc := 104) C 1 dX9_best_104 rfl rfl ?_
        obtain ⟨q9, h10, hf⟩ := mg_b hf
        refine mg_callV (pc := 105) C (w2 := w_X9_best k a_t a_t_s a_t_past a_t_aside a_t_text a_t_told a_t_bottoms a_t_planned v_t_pasts v_t_typed v_t_at v_t_kind v_t_from v_t_value v_t_planLength v_t_planAmount v_t_bottoms v_t_s) (c_X9_tilted z.2.1 k a_t a_t_s a_t_past a_t_aside a_t_text a_t_told a_t_bottoms a_t_planned v_t_pasts v_t_typed v_t_at v_t_kind v_t_from v_t_value v_t_planLength v_t_planAmount v_t_s q9 h10) Y_X9_tilted wm_1235 (by decide) rfl 0 rfl rfl rfl [0, 2] rfl (by decide) rfl [some 0, none, some 1] (by decide) rfl (Nat.le_of_ble_eq_true rfl) rfl dX9_best_105 ?_
        refine mg_istore_n (pc := 108) C (lv' := [(3, .int q9), (2, .int x5), (0, .ref a_t), (1, .int x1), (5, .int x5)]) dX9_best_108 rfl (by decide) rfl ?_
        refine mg_aload_n (pc := 109) C 2 dX9_best_109 rfl rfl ?_
        refine mg_get (pc := 110) C 0 rfl rfl inX9 0 (by decide) wm_874 rfl rfl dX9_best_110 ?_
        refine mg_iconst (pc := 113) C dX9_best_113 (v := 2) (by decide) ?_
        refine mg_ialdK (pc := 114) C 2 2 rfl dX9_best_114 (by decide) (by decide) ?_
        refine mg_istore (pc := 115) C (lv' := [(4, .int (v_t_s 2)), (3, .int q9), (2, .int x5), (0, .ref a_t), (1, .int x1), (5, .int x5)]) dX9_best_115 (by decide) rfl ?_
        refine mg_aload_n (pc := 117) C 3 dX9_best_117 rfl rfl ?_
        obtain ⟨q11, h12, hf⟩ := mg_b hf
        refine mg_callV (pc := 118) C (w2 := w_X9_best k a_t a_t_s a_t_past a_t_aside a_t_text a_t_told a_t_bottoms a_t_planned v_t_pasts v_t_typed v_t_at v_t_kind v_t_from v_t_value v_t_planLength v_t_planAmount v_t_bottoms q11) (c_X9_returns z.2.1 k a_t a_t_s a_t_past a_t_aside a_t_text a_t_told a_t_bottoms a_t_planned v_t_pasts v_t_typed v_t_at v_t_kind v_t_from v_t_value v_t_planLength v_t_planAmount v_t_bottoms v_t_s fuel q11 h12) Y_X9_returns wm_1239 (by decide) rfl 0 rfl rfl rfl [0, 1, 2] rfl (by decide) rfl [some 0, some 1, some 2] (by decide) rfl (Nat.le_of_ble_eq_true rfl) rfl dX9_best_118 ?_
        refine mg_iinc (pc := 121) C (c := 1) (lv' := [(5, .int (x5 + 1)), (4, .int (v_t_s 2)), (3, .int q9), (2, .int x5), (0, .ref a_t), (1, .int x1)]) 5 dX9_best_121 rfl (by decide) (by decide) rfl ?_
        refine mg_goto (pc := 124) (tgt := 15) C dX9_best_124 (by decide) ?_
        refine mg_lv [4, 5, 3, 2, 1, 0] rfl ?_
        exact ih x5 q9 (v_t_s 2) (x5 + 1) q11 _ hf X0
      have J44 : ∀ (x2 : Int32) (x3 : Int32) (x4 : Int32) (x5 : Int32) (v_t_s : Nat → Int32) (y0 : Int32), f_X9_best_J44 (f_X9_best_L15 fuel v_t_bottoms x1 n_) fuel v_t_bottoms v_t_s x2 x3 x4 x5 y0 = some q_ → mg z k A 7 0 0 Q (w_X9_best k a_t a_t_s a_t_past a_t_aside a_t_text a_t_told a_t_bottoms a_t_planned v_t_pasts v_t_typed v_t_at v_t_kind v_t_from v_t_value v_t_planLength v_t_planAmount v_t_bottoms v_t_s) [(0, .ref a_t), (1, .int x1), (2, .int x2), (3, .int x3), (4, .int x4), (5, .int x5)] 44 [.int y0] := by
        intro x2 x3 x4 x5 v_t_s y0 hf
        unfold f_X9_best_J44 at hf
        refine mg_istore (pc := 44) C (lv' := [(6, .int y0), (0, .ref a_t), (1, .int x1), (2, .int x2), (3, .int x3), (4, .int x4), (5, .int x5)]) dX9_best_44 (by decide) rfl ?_
        refine mg_iload (pc := 46) C 0 dX9_best_46 rfl ?_
        refine mg_if_le (pc := 48) (tgt := 121) C dX9_best_48 (by decide) hf (fun hf => ?_) (fun hf => ?_)
        · refine mg_iinc (pc := 121) C (c := 1) (lv' := [(5, .int (x5 + 1)), (6, .int y0), (0, .ref a_t), (1, .int x1), (2, .int x2), (3, .int x3), (4, .int x4)]) 6 dX9_best_121 rfl (by decide) (by decide) rfl ?_
          refine mg_goto (pc := 124) (tgt := 15) C dX9_best_124 (by decide) ?_
          refine mg_lv [2, 3, 4, 5, 6, 0] rfl ?_
          exact ih x2 x3 x4 (x5 + 1) v_t_s _ hf X0
        · refine mg_aload_n (pc := 51) C 1 dX9_best_51 rfl rfl ?_
          refine mg_get (pc := 52) C 0 rfl rfl inX9 0 (by decide) wm_874 rfl rfl dX9_best_52 ?_
          refine mg_bipush (pc := 55) C dX9_best_55 (v := 117) (by decide) ?_
          refine mg_iload (pc := 57) C 6 dX9_best_57 rfl ?_
          refine mg_iadd (pc := 59) C dX9_best_59 ?_
          refine mg_dup2 (pc := 60) C dX9_best_60 rfl rfl ?_
          refine mg_iald (pc := 61) C 2 rfl dX9_best_61 hf (fun hf => ?_)
          refine mg_iload (pc := 62) C 0 dX9_best_62 rfl ?_
          refine mg_iadd (pc := 64) C dX9_best_64 ?_
          refine mg_iast (pc := 65) C (w2 := w_X9_best k a_t a_t_s a_t_past a_t_aside a_t_text a_t_told a_t_bottoms a_t_planned v_t_pasts v_t_typed v_t_at v_t_kind v_t_from v_t_value v_t_planLength v_t_planAmount v_t_bottoms (upd v_t_s (Int32.toNatClampNeg (117 + x5)) ((v_t_s (Int32.toNatClampNeg (117 + x5))) + y0))) 2 rfl dX9_best_65 hf rfl (fun hf => ?_)
          refine mg_aload_n (pc := 66) C 1 dX9_best_66 rfl rfl ?_
          obtain ⟨q7, h8, hf⟩ := mg_b hf
          refine mg_callV (pc := 67) C (w2 := w_X9_best k a_t a_t_s a_t_past a_t_aside a_t_text a_t_told a_t_bottoms a_t_planned v_t_pasts v_t_typed v_t_at v_t_kind v_t_from v_t_value v_t_planLength v_t_planAmount v_t_bottoms q7) (c_X9_settlesIfLoose z.2.1 k a_t a_t_s a_t_past a_t_aside a_t_text a_t_told a_t_bottoms a_t_planned v_t_pasts v_t_typed v_t_at v_t_kind v_t_from v_t_value v_t_planLength v_t_planAmount (upd v_t_s (Int32.toNatClampNeg (117 + x5)) ((v_t_s (Int32.toNatClampNeg (117 + x5))) + y0)) fuel q7 h8) Y_X9_settlesIfLoose wm_1231 (by decide) rfl 0 rfl rfl rfl [0, 2] rfl (by decide) rfl [some 0, none, some 1] (by decide) rfl (Nat.le_of_ble_eq_true rfl) rfl dX9_best_67 ?_
          refine mg_iload_n (pc := 70) C 3 dX9_best_70 rfl rfl ?_
          refine mg_if_lt (pc := 71) (tgt := 101) C dX9_best_71 (by decide) hf (fun hf => ?_) (fun hf => ?_)
          · refine mg_lv [1, 2, 6] rfl ?_
            exact J101 x5 q7 hf
          · refine mg_aload_n (pc := 74) C 1 dX9_best_74 rfl rfl ?_
            obtain ⟨q13, h14, hf⟩ := mg_b hf
            refine mg_callV (pc := 75) C (w2 := w_X9_best k a_t a_t_s a_t_past a_t_aside a_t_text a_t_told a_t_bottoms a_t_planned v_t_pasts v_t_typed v_t_at v_t_kind v_t_from v_t_value v_t_planLength v_t_planAmount v_t_bottoms q7) (c_X9_tilted z.2.1 k a_t a_t_s a_t_past a_t_aside a_t_text a_t_told a_t_bottoms a_t_planned v_t_pasts v_t_typed v_t_at v_t_kind v_t_from v_t_value v_t_planLength v_t_planAmount q7 q13 h14) Y_X9_tilted wm_1235 (by decide) rfl 0 rfl rfl rfl [0, 2] rfl (by decide) rfl [some 0, none, some 1] (by decide) rfl (Nat.le_of_ble_eq_true rfl) rfl dX9_best_75 ?_
            refine mg_iload_n (pc := 78) C 4 dX9_best_78 rfl rfl ?_
            refine mg_icmp_lt (pc := 79) (tgt := 101) C dX9_best_79 (by decide) hf (fun hf => ?_) (fun hf => ?_)
            · refine mg_lv [1, 2, 6] rfl ?_
              exact J101 x5 q7 hf
            · refine mg_aload_n (pc := 82) C 1 dX9_best_82 rfl rfl ?_
              obtain ⟨q15, h16, hf⟩ := mg_b hf
              refine mg_callV (pc := 83) C (w2 := w_X9_best k a_t a_t_s a_t_past a_t_aside a_t_text a_t_told a_t_bottoms a_t_planned v_t_pasts v_t_typed v_t_at v_t_kind v_t_from v_t_value v_t_planLength v_t_planAmount v_t_bottoms q7) (c_X9_tilted z.2.1 k a_t a_t_s a_t_past a_t_aside a_t_text a_t_told a_t_bottoms a_t_planned v_t_pasts v_t_typed v_t_at v_t_kind v_t_from v_t_value v_t_planLength v_t_planAmount q7 q15 h16) Y_X9_tilted wm_1235 (by decide) rfl 0 rfl rfl rfl [0, 2] rfl (by decide) rfl [some 0, none, some 1] (by decide) rfl (Nat.le_of_ble_eq_true rfl) rfl dX9_best_83 ?_
              refine mg_iload_n (pc := 86) C 4 dX9_best_86 rfl rfl ?_
              refine mg_icmp_ne (pc := 87) (tgt := 117) C dX9_best_87 (by decide) hf (fun hf => ?_) (fun hf => ?_)
              · refine mg_aload_n (pc := 117) C 1 dX9_best_117 rfl rfl ?_
                obtain ⟨q17, h18, hf⟩ := mg_b hf
                refine mg_callV (pc := 118) C (w2 := w_X9_best k a_t a_t_s a_t_past a_t_aside a_t_text a_t_told a_t_bottoms a_t_planned v_t_pasts v_t_typed v_t_at v_t_kind v_t_from v_t_value v_t_planLength v_t_planAmount v_t_bottoms q17) (c_X9_returns z.2.1 k a_t a_t_s a_t_past a_t_aside a_t_text a_t_told a_t_bottoms a_t_planned v_t_pasts v_t_typed v_t_at v_t_kind v_t_from v_t_value v_t_planLength v_t_planAmount v_t_bottoms q7 fuel q17 h18) Y_X9_returns wm_1239 (by decide) rfl 0 rfl rfl rfl [0, 1, 2] rfl (by decide) rfl [some 0, some 1, some 2] (by decide) rfl (Nat.le_of_ble_eq_true rfl) rfl dX9_best_118 ?_
                refine mg_iinc (pc := 121) C (c := 1) (lv' := [(5, .int (x5 + 1)), (6, .int y0), (0, .ref a_t), (1, .int x1), (2, .int x2), (3, .int x3), (4, .int x4)]) 6 dX9_best_121 rfl (by decide) (by decide) rfl ?_
                refine mg_goto (pc := 124) (tgt := 15) C dX9_best_124 (by decide) ?_
                refine mg_lv [2, 3, 4, 5, 6, 0] rfl ?_
                exact ih x2 x3 x4 (x5 + 1) q17 _ hf X0
              · refine mg_aload_n (pc := 90) C 1 dX9_best_90 rfl rfl ?_
                refine mg_get (pc := 91) C 0 rfl rfl inX9 0 (by decide) wm_874 rfl rfl dX9_best_91 ?_
                refine mg_iconst (pc := 94) C dX9_best_94 (v := 2) (by decide) ?_
                refine mg_ialdK (pc := 95) C 2 2 rfl dX9_best_95 (by decide) (by decide) ?_
                refine mg_iload (pc := 96) C 5 dX9_best_96 rfl ?_
                refine mg_icmp_le (pc := 98) (tgt := 117) C dX9_best_98 (by decide) hf (fun hf => ?_) (fun hf => ?_)
                · refine mg_aload_n (pc := 117) C 1 dX9_best_117 rfl rfl ?_
                  obtain ⟨q19, h20, hf⟩ := mg_b hf
                  refine mg_callV (pc := 118) C (w2 := w_X9_best k a_t a_t_s a_t_past a_t_aside a_t_text a_t_told a_t_bottoms a_t_planned v_t_pasts v_t_typed v_t_at v_t_kind v_t_from v_t_value v_t_planLength v_t_planAmount v_t_bottoms q19) (c_X9_returns z.2.1 k a_t a_t_s a_t_past a_t_aside a_t_text a_t_told a_t_bottoms a_t_planned v_t_pasts v_t_typed v_t_at v_t_kind v_t_from v_t_value v_t_planLength v_t_planAmount v_t_bottoms q7 fuel q19 h20) Y_X9_returns wm_1239 (by decide) rfl 0 rfl rfl rfl [0, 1, 2] rfl (by decide) rfl [some 0, some 1, some 2] (by decide) rfl (Nat.le_of_ble_eq_true rfl) rfl dX9_best_118 ?_
                  refine mg_iinc (pc := 121) C (c := 1) (lv' := [(5, .int (x5 + 1)), (6, .int y0), (0, .ref a_t), (1, .int x1), (2, .int x2), (3, .int x3), (4, .int x4)]) 6 dX9_best_121 rfl (by decide) (by decide) rfl ?_
                  refine mg_goto (pc := 124) (tgt := 15) C dX9_best_124 (by decide) ?_
                  refine mg_lv [2, 3, 4, 5, 6, 0] rfl ?_
                  exact ih x2 x3 x4 (x5 + 1) q19 _ hf X0
                · refine mg_lv [1, 2, 6] rfl ?_
                  exact J101 x5 q7 hf
      refine mg_iload (pc := 15) C 5 dX9_best_15 rfl ?_
      refine mg_aload_n (pc := 17) C 0 dX9_best_17 rfl rfl ?_
      obtain ⟨q3, h4, hf⟩ := mg_b hf
      refine mg_callV (pc := 18) C (w2 := w_X9_best k a_t a_t_s a_t_past a_t_aside a_t_text a_t_told a_t_bottoms a_t_planned v_t_pasts v_t_typed v_t_at v_t_kind v_t_from v_t_value v_t_planLength v_t_planAmount v_t_bottoms v_t_s) (c_X9_cells z.2.1 k a_t a_t_s a_t_past a_t_aside a_t_text a_t_told a_t_bottoms a_t_planned v_t_pasts v_t_typed v_t_at v_t_kind v_t_from v_t_value v_t_planLength v_t_planAmount v_t_s q3 h4) Y_X9_cells wm_1061 (by decide) rfl 0 rfl rfl rfl [0, 2] rfl (by decide) rfl [some 0, none, some 1] (by decide) rfl (Nat.le_of_ble_eq_true rfl) rfl dX9_best_18 ?_
      refine mg_icmp_ge (pc := 21) (tgt := 127) C dX9_best_21 (by decide) hf (fun hf => ?_) (fun hf => ?_)
      · obtain rfl := Option.some.inj hf
        refine mg_lv [2] rfl ?_
        exact X0
      · refine mg_aload_n (pc := 24) C 0 dX9_best_24 rfl rfl ?_
        refine mg_iload (pc := 25) C 5 dX9_best_25 rfl ?_
        obtain ⟨q5, h6, hf⟩ := mg_b hf
        refine mg_callV (pc := 27) C (w2 := w_X9_best k a_t a_t_s a_t_past a_t_aside a_t_text a_t_told a_t_bottoms a_t_planned v_t_pasts v_t_typed v_t_at v_t_kind v_t_from v_t_value v_t_planLength v_t_planAmount v_t_bottoms v_t_s) (c_X9_isWell z.2.1 k a_t a_t_s a_t_past a_t_aside a_t_text a_t_told a_t_bottoms a_t_planned v_t_pasts v_t_typed v_t_at v_t_kind v_t_from v_t_value v_t_planLength v_t_planAmount v_t_s x5 q5 h6) Y_X9_isWell wm_1120 (by decide) rfl 0 rfl rfl rfl [0, 2] rfl (by decide) rfl [some 0, none, some 1] (by decide) rfl (Nat.le_of_ble_eq_true rfl) rfl dX9_best_27 ?_
        refine mg_if_eq (pc := 30) (tgt := 43) C dX9_best_30 (by decide) hf (fun hf => ?_) (fun hf => ?_)
        · refine mg_iconst (pc := 43) C dX9_best_43 (v := 0) (by decide) ?_
          exact J44 x2 x3 x4 x5 v_t_s 0 hf
        · refine mg_aload_n (pc := 33) C 0 dX9_best_33 rfl rfl ?_
          refine mg_iload (pc := 34) C 5 dX9_best_34 rfl ?_
          refine mg_iload_n (pc := 36) C 1 dX9_best_36 rfl rfl ?_
          obtain ⟨q21, h22, hf⟩ := mg_b hf
          refine mg_callV (pc := 37) C (w2 := w_X9_best k a_t a_t_s a_t_past a_t_aside a_t_text a_t_told a_t_bottoms a_t_planned v_t_pasts v_t_typed v_t_at v_t_kind v_t_from v_t_value v_t_planLength v_t_planAmount v_t_bottoms v_t_s) (c_X9_sinkable z.2.1 k a_t a_t_s a_t_past a_t_aside a_t_text a_t_told a_t_bottoms a_t_planned v_t_pasts v_t_typed v_t_at v_t_kind v_t_from v_t_value v_t_planLength v_t_planAmount v_t_s fuel x5 x1 q21 h22) Y_X9_sinkable wm_1175 (by decide) rfl 0 rfl rfl rfl [0, 2] rfl (by decide) rfl [some 0, none, some 1] (by decide) rfl (Nat.le_of_ble_eq_true rfl) rfl dX9_best_37 ?_
          refine mg_goto (pc := 40) (tgt := 44) C dX9_best_40 (by decide) ?_
          exact J44 x2 x3 x4 x5 v_t_s q21 hf
  refine mg_ldc (pc := 0) C wm_964 dX9_best_0 ?_
  refine mg_istore_n (pc := 2) C (lv' := [(2, .int (-1000009)), (0, .ref a_t), (1, .int x1)]) dX9_best_2 rfl (by decide) rfl ?_
  refine mg_iconst (pc := 3) C dX9_best_3 (v := 0) (by decide) ?_
  refine mg_istore_n (pc := 4) C (lv' := [(3, .int 0), (2, .int (-1000009)), (0, .ref a_t), (1, .int x1)]) dX9_best_4 rfl (by decide) rfl ?_
  refine mg_iconst (pc := 5) C dX9_best_5 (v := 0) (by decide) ?_
  refine mg_istore (pc := 6) C (lv' := [(4, .int 0), (3, .int 0), (2, .int (-1000009)), (0, .ref a_t), (1, .int x1)]) dX9_best_6 (by decide) rfl ?_
  refine mg_aload_n (pc := 8) C 3 dX9_best_8 rfl rfl ?_
  obtain ⟨q1, h2, hf⟩ := mg_b hf
  refine mg_callV (pc := 9) C (w2 := w_X9_best k a_t a_t_s a_t_past a_t_aside a_t_text a_t_told a_t_bottoms a_t_planned v_t_pasts v_t_typed v_t_at v_t_kind v_t_from v_t_value v_t_planLength v_t_planAmount q1 v_t_s) (c_X9_keeps z.2.1 k a_t a_t_s a_t_past a_t_aside a_t_text a_t_told a_t_bottoms a_t_planned v_t_pasts v_t_typed v_t_at v_t_kind v_t_from v_t_value v_t_planLength v_t_planAmount v_t_bottoms v_t_s fuel q1 h2) Y_X9_keeps wm_1227 (by decide) rfl 0 rfl rfl rfl [0, 1, 2] rfl (by decide) rfl [some 0, some 1, some 2] (by decide) rfl (Nat.le_of_ble_eq_true rfl) rfl dX9_best_9 ?_
  refine mg_iconst (pc := 12) C dX9_best_12 (v := 0) (by decide) ?_
  refine mg_istore (pc := 13) C (lv' := [(5, .int 0), (4, .int 0), (3, .int 0), (2, .int (-1000009)), (0, .ref a_t), (1, .int x1)]) dX9_best_13 (by decide) rfl ?_
  obtain ⟨q23, h24, hf⟩ := mg_b hf
  refine mg_lv [4, 5, 3, 2, 1, 0] rfl ?_
  refine L15 x1 q1 fuel (-1000009) 0 0 0 v_t_s q23 h24 ?_
  refine mg_iload_n (pc := 127) C 0 dX9_best_127 rfl rfl ?_
  obtain rfl := Option.some.inj hf
  exact E _ _ dX9_best_128
abbrev w_X9_bestWell (k : mg_K) (a_t a_t_s a_t_past a_t_aside a_t_text a_t_told a_t_bottoms a_t_planned : Nat) (v_t_pasts : Int32) (v_t_typed : Int32) (v_t_at : Int32) (v_t_kind : Int32) (v_t_from : Int32) (v_t_value : Int32) (v_t_planLength : Int32) (v_t_planAmount : Int32) (v_t_bottoms : Nat → Int32) (v_t_s : Nat → Int32) : va_W := [(a_t, .inr (9, [.ref a_t_s, .ref a_t_past, .ref a_t_aside, .int v_t_pasts, .ref a_t_text, .int v_t_typed, .int v_t_at, .int v_t_kind, .int v_t_from, .int v_t_value, .ref a_t_told, .ref a_t_bottoms, .ref a_t_planned, .int v_t_planLength, .int v_t_planAmount])), (a_t_bottoms, .inl (k.2.1, 53, .inl v_t_bottoms)), (a_t_s, .inl (k.2.1, 227, .inl v_t_s))]
def f_X9_bestWell (fuel : Nat) (v_t_bottoms : Nat → Int32) (v_t_s : Nat → Int32) (x1 : Int32) : Option (Int32 × (Nat → Int32) × (Nat → Int32)) := (f_X9_in x1 1 10).bind (fun q1 => if q1 = 0 then (some ((-1000001), v_t_bottoms, v_t_s)) else ((f_X9_best fuel v_t_bottoms v_t_s x1).bind (fun q3 => some (q3.1, q3.2.1, q3.2.2))))
theorem Y_X9_bestWell : mg_Y yX9_bestWell cX9_bestWell 2 (some .int) 1 := ⟨wm_1220, wm_1221, wm_11, wm_1222, ⟨by decide +kernel, by decide +kernel, by decide +kernel⟩, by decide⟩
set_option maxRecDepth 100000 in
set_option maxHeartbeats 4000000 in
theorem c_X9_bestWell (l : Launch) (k : mg_K) (a_t a_t_s a_t_past a_t_aside a_t_text a_t_told a_t_bottoms a_t_planned : Nat) (v_t_pasts : Int32) (v_t_typed : Int32) (v_t_at : Int32) (v_t_kind : Int32) (v_t_from : Int32) (v_t_value : Int32) (v_t_planLength : Int32) (v_t_planAmount : Int32) (v_t_bottoms : Nat → Int32) (v_t_s : Nat → Int32) (fuel : Nat) (x1 : Int32) (q : Int32 × (Nat → Int32) × (Nat → Int32)) (hf : f_X9_bestWell fuel v_t_bottoms v_t_s x1 = some q) : mg_M l yX9_bestWell cX9_bestWell 2 (some .int) 11 k [.ref a_t, .int x1] (w_X9_bestWell k a_t a_t_s a_t_past a_t_aside a_t_text a_t_told a_t_bottoms a_t_planned v_t_pasts v_t_typed v_t_at v_t_kind v_t_from v_t_value v_t_planLength v_t_planAmount v_t_bottoms v_t_s) (w_X9_bestWell k a_t a_t_s a_t_past a_t_aside a_t_text a_t_told a_t_bottoms a_t_planned v_t_pasts v_t_typed v_t_at v_t_kind v_t_from v_t_value v_t_planLength v_t_planAmount q.2.1 q.2.2) (some (.int q.1)) := by
  refine mg_Mi RX9 [(0, .ref a_t), (1, .int x1)] (by decide +kernel) rfl rfl (Nat.le_of_ble_eq_true rfl) ?_
  intro z A Q hl C E
  subst hl
  unfold f_X9_bestWell at hf
  refine mg_iload_n (pc := 0) C 1 dX9_bestWell_0 rfl rfl ?_
  refine mg_iconst (pc := 1) C dX9_bestWell_1 (v := 1) (by decide) ?_
  refine mg_bipush (pc := 2) C dX9_bestWell_2 (v := 10) (by decide) ?_
  obtain ⟨q1, h2, hf⟩ := mg_b hf
  refine mg_callS (pc := 4) C (w2 := w_X9_bestWell k a_t a_t_s a_t_past a_t_aside a_t_text a_t_told a_t_bottoms a_t_planned v_t_pasts v_t_typed v_t_at v_t_kind v_t_from v_t_value v_t_planLength v_t_planAmount v_t_bottoms v_t_s) (c_X9_in z.2.1 k x1 1 10 q1 h2) Y_X9_in wm_924 (by decide) rfl [] rfl (by decide) rfl [none, none, none] (by decide) rfl (Nat.le_of_ble_eq_true rfl) rfl dX9_bestWell_4 ?_
  refine mg_if_eq (pc := 7) (tgt := 18) C dX9_bestWell_7 (by decide) hf (fun hf => ?_) (fun hf => ?_)
  · refine mg_ldc (pc := 18) C wm_927 dX9_bestWell_18 ?_
    obtain rfl := Option.some.inj hf
    exact E _ _ dX9_bestWell_20
  · refine mg_aload_n (pc := 10) C 0 dX9_bestWell_10 rfl rfl ?_
    refine mg_iload_n (pc := 11) C 1 dX9_bestWell_11 rfl rfl ?_
    obtain ⟨q3, h4, hf⟩ := mg_b hf
    refine mg_callV (pc := 12) C (w2 := w_X9_bestWell k a_t a_t_s a_t_past a_t_aside a_t_text a_t_told a_t_bottoms a_t_planned v_t_pasts v_t_typed v_t_at v_t_kind v_t_from v_t_value v_t_planLength v_t_planAmount q3.2.1 q3.2.2) (c_X9_best z.2.1 k a_t a_t_s a_t_past a_t_aside a_t_text a_t_told a_t_bottoms a_t_planned v_t_pasts v_t_typed v_t_at v_t_kind v_t_from v_t_value v_t_planLength v_t_planAmount v_t_bottoms v_t_s fuel x1 q3 h4) Y_X9_best wm_1223 (by decide) rfl 0 rfl rfl rfl [0, 1, 2] rfl (by decide) rfl [some 0, some 1, some 2] (by decide) rfl (Nat.le_of_ble_eq_true rfl) rfl dX9_bestWell_12 ?_
    refine mg_goto (pc := 15) (tgt := 20) C dX9_bestWell_15 (by decide) ?_
    obtain rfl := Option.some.inj hf
    exact E _ _ dX9_bestWell_20
abbrev w_X9_makePlan (k : mg_K) (a_t a_t_s a_t_past a_t_aside a_t_text a_t_told a_t_bottoms a_t_planned : Nat) (v_t_pasts : Int32) (v_t_typed : Int32) (v_t_at : Int32) (v_t_kind : Int32) (v_t_from : Int32) (v_t_value : Int32) (v_t_planLength : Int32) (v_t_planAmount : Int32) (v_t_aside : Nat → Int32) (v_t_bottoms : Nat → Int32) (v_t_planned : Nat → Int32) (v_t_s : Nat → Int32) : va_W := [(a_t, .inr (9, [.ref a_t_s, .ref a_t_past, .ref a_t_aside, .int v_t_pasts, .ref a_t_text, .int v_t_typed, .int v_t_at, .int v_t_kind, .int v_t_from, .int v_t_value, .ref a_t_told, .ref a_t_bottoms, .ref a_t_planned, .int v_t_planLength, .int v_t_planAmount])), (a_t_aside, .inl (k.2.1, 227, .inl v_t_aside)), (a_t_bottoms, .inl (k.2.1, 53, .inl v_t_bottoms)), (a_t_planned, .inl (k.2.1, 36, .inl v_t_planned)), (a_t_s, .inl (k.2.1, 227, .inl v_t_s))]
def f_X9_makePlan_L57 (fuel : Nat) (x1 : Int32) (x2 : Int32) : Nat → Int32 → Int32 → (Nat → Int32) → (Nat → Int32) → (Nat → Int32) → Option (Int32 × Int32 × (Nat → Int32) × (Nat → Int32) × (Nat → Int32))
  | 0, _, _, _, _, _ => none
  | n_ + 1, x3, v_t_planLength, v_t_bottoms, v_t_planned, v_t_s => if x3 < 0 then (some ((x3, v_t_planLength, v_t_bottoms, v_t_planned, v_t_s))) else (if mg_ix (117 + x3) 227 = true then ((f_X9_sinkable fuel v_t_s x3 x2).bind (fun q9 => if mg_ix (117 + x3) 227 = true then ((f_X9_settlesIfLoose fuel (upd v_t_s (Int32.toNatClampNeg (117 + x3)) ((v_t_s (Int32.toNatClampNeg (117 + x3))) + q9))).bind (fun q11 => if mg_ix (3 * v_t_planLength) 36 = true then (if mg_ix ((3 * v_t_planLength) + 1) 36 = true then ((f_X9_tilted q11).bind (fun q13 => if mg_ix ((3 * v_t_planLength) + 2) 36 = true then (if x1 ≤ (q11 2) then (f_X9_makePlan_L57 fuel x1 x2 n_ (-1000009) (v_t_planLength + 1) v_t_bottoms (upd (upd (upd v_t_planned (Int32.toNatClampNeg (3 * v_t_planLength)) x3) (Int32.toNatClampNeg ((3 * v_t_planLength) + 1)) (q11 2)) (Int32.toNatClampNeg ((3 * v_t_planLength) + 2)) q13) q11) else (if (v_t_planLength + 1) = 12 then (f_X9_makePlan_L57 fuel x1 x2 n_ (-1000009) (v_t_planLength + 1) v_t_bottoms (upd (upd (upd v_t_planned (Int32.toNatClampNeg (3 * v_t_planLength)) x3) (Int32.toNatClampNeg ((3 * v_t_planLength) + 1)) (q11 2)) (Int32.toNatClampNeg ((3 * v_t_planLength) + 2)) q13) q11) else ((f_X9_best fuel v_t_bottoms q11 x2).bind (fun q15 => f_X9_makePlan_L57 fuel x1 x2 n_ q15.1 (v_t_planLength + 1) q15.2.1 (upd (upd (upd v_t_planned (Int32.toNatClampNeg (3 * v_t_planLength)) x3) (Int32.toNatClampNeg ((3 * v_t_planLength) + 1)) (q11 2)) (Int32.toNatClampNeg ((3 * v_t_planLength) + 2)) q13) q15.2.2)))) else none)) else none) else none)) else none)) else none)
def f_X9_makePlan (fuel : Nat) (v_t_planLength : Int32) (v_t_planAmount : Int32) (v_t_aside : Nat → Int32) (v_t_bottoms : Nat → Int32) (v_t_planned : Nat → Int32) (v_t_s : Nat → Int32) (x1 : Int32) (x2 : Int32) : Option (Int32 × Int32 × Int32 × (Nat → Int32) × (Nat → Int32) × (Nat → Int32) × (Nat → Int32)) := (f_X9_in x1 1 200).bind (fun q1 => if q1 = 0 then (some ((-1000001), v_t_planLength, v_t_planAmount, v_t_aside, v_t_bottoms, v_t_planned, v_t_s)) else ((f_X9_in x2 1 10).bind (fun q3 => if q3 = 0 then (some ((-1000001), v_t_planLength, v_t_planAmount, v_t_aside, v_t_bottoms, v_t_planned, v_t_s)) else (if (v_t_s 2) < x1 then ((f_X9_hold fuel v_t_aside v_t_s).bind (fun q5 => (f_X9_best fuel v_t_bottoms v_t_s x2).bind (fun q7 => (f_X9_makePlan_L57 fuel x1 x2 fuel q7.1 0 q7.2.1 v_t_planned q7.2.2).bind (fun q17 => (f_X9_restore fuel q5 q17.2.2.2.2).bind (fun q19 => some (q17.2.1, q17.2.1, x2, q5, q17.2.2.1, q17.2.2.2.1, q19)))))) else (some ((-1000002), v_t_planLength, v_t_planAmount, v_t_aside, v_t_bottoms, v_t_planned, v_t_s))))))
theorem Y_X9_makePlan : mg_Y yX9_makePlan cX9_makePlan 4 (some .int) 2 := ⟨wm_1244, wm_1245, wm_11, wm_1246, ⟨by decide +kernel, by decide +kernel, by decide +kernel⟩, by decide⟩
set_option maxRecDepth 100000 in
set_option maxHeartbeats 4000000 in
theorem c_X9_makePlan (l : Launch) (k : mg_K) (a_t a_t_s a_t_past a_t_aside a_t_text a_t_told a_t_bottoms a_t_planned : Nat) (v_t_pasts : Int32) (v_t_typed : Int32) (v_t_at : Int32) (v_t_kind : Int32) (v_t_from : Int32) (v_t_value : Int32) (v_t_planLength : Int32) (v_t_planAmount : Int32) (v_t_aside : Nat → Int32) (v_t_bottoms : Nat → Int32) (v_t_planned : Nat → Int32) (v_t_s : Nat → Int32) (fuel : Nat) (x1 : Int32) (x2 : Int32) (q : Int32 × Int32 × Int32 × (Nat → Int32) × (Nat → Int32) × (Nat → Int32) × (Nat → Int32)) (hf : f_X9_makePlan fuel v_t_planLength v_t_planAmount v_t_aside v_t_bottoms v_t_planned v_t_s x1 x2 = some q) : mg_M l yX9_makePlan cX9_makePlan 4 (some .int) 11 k [.ref a_t, .int x1, .int x2] (w_X9_makePlan k a_t a_t_s a_t_past a_t_aside a_t_text a_t_told a_t_bottoms a_t_planned v_t_pasts v_t_typed v_t_at v_t_kind v_t_from v_t_value v_t_planLength v_t_planAmount v_t_aside v_t_bottoms v_t_planned v_t_s) (w_X9_makePlan k a_t a_t_s a_t_past a_t_aside a_t_text a_t_told a_t_bottoms a_t_planned v_t_pasts v_t_typed v_t_at v_t_kind v_t_from v_t_value q.2.1 q.2.2.1 q.2.2.2.1 q.2.2.2.2.1 q.2.2.2.2.2.1 q.2.2.2.2.2.2) (some (.int q.1)) := by
  refine mg_Mi RX9 [(0, .ref a_t), (1, .int x1), (2, .int x2)] (by decide +kernel) rfl rfl (Nat.le_of_ble_eq_true rfl) ?_
  intro z A Q hl C E
  subst hl
  unfold f_X9_makePlan at hf
  have L57 : ∀ (x1 : Int32) (x2 : Int32) (v_t_planAmount : Int32) (v_t_aside : Nat → Int32) (n_ : Nat) (x3 : Int32) (v_t_planLength : Int32) (v_t_bottoms : Nat → Int32) (v_t_planned : Nat → Int32) (v_t_s : Nat → Int32) (q_ : Int32 × Int32 × (Nat → Int32) × (Nat → Int32) × (Nat → Int32)), f_X9_makePlan_L57 fuel x1 x2 n_ x3 v_t_planLength v_t_bottoms v_t_planned v_t_s = some q_ → (mg z k A 4 0 0 Q (w_X9_makePlan k a_t a_t_s a_t_past a_t_aside a_t_text a_t_told a_t_bottoms a_t_planned v_t_pasts v_t_typed v_t_at v_t_kind v_t_from v_t_value q_.2.1 v_t_planAmount v_t_aside q_.2.2.1 q_.2.2.2.1 q_.2.2.2.2) [(0, .ref a_t)] 174 []) → mg z k A 4 0 0 Q (w_X9_makePlan k a_t a_t_s a_t_past a_t_aside a_t_text a_t_told a_t_bottoms a_t_planned v_t_pasts v_t_typed v_t_at v_t_kind v_t_from v_t_value v_t_planLength v_t_planAmount v_t_aside v_t_bottoms v_t_planned v_t_s) [(0, .ref a_t), (1, .int x1), (2, .int x2), (3, .int x3)] 57 [] := by
    intro x1 x2 v_t_planAmount v_t_aside n_
    induction n_ with
    | zero => intro x3 v_t_planLength v_t_bottoms v_t_planned v_t_s q_ hf; exact mg_no (show none = some q_ from hf)
    | succ n_ ih =>
      intro x3 v_t_planLength v_t_bottoms v_t_planned v_t_s q_ hf X0
      rw [f_X9_makePlan_L57] at hf
      refine mg_iload_n (pc := 57) C 3 dX9_makePlan_57 rfl rfl ?_
      refine mg_if_lt (pc := 58) (tgt := 174) C dX9_makePlan_58 (by decide) hf (fun hf => ?_) (fun hf => ?_)
      · obtain rfl := Option.some.inj hf
        refine mg_lv [0] rfl ?_
        exact X0
      · refine mg_aload_n (pc := 61) C 0 dX9_makePlan_61 rfl rfl ?_
        refine mg_get (pc := 62) C 0 rfl rfl inX9 0 (by decide) wm_874 rfl rfl dX9_makePlan_62 ?_
        refine mg_bipush (pc := 65) C dX9_makePlan_65 (v := 117) (by decide) ?_
        refine mg_iload_n (pc := 67) C 3 dX9_makePlan_67 rfl rfl ?_
        refine mg_iadd (pc := 68) C dX9_makePlan_68 ?_
        refine mg_dup2 (pc := 69) C dX9_makePlan_69 rfl rfl ?_
        refine mg_iald (pc := 70) C 4 rfl dX9_makePlan_70 hf (fun hf => ?_)
        refine mg_aload_n (pc := 71) C 0 dX9_makePlan_71 rfl rfl ?_
        refine mg_iload_n (pc := 72) C 3 dX9_makePlan_72 rfl rfl ?_
        refine mg_iload_n (pc := 73) C 2 dX9_makePlan_73 rfl rfl ?_
        obtain ⟨q9, h10, hf⟩ := mg_b hf
        refine mg_callV (pc := 74) C (w2 := w_X9_makePlan k a_t a_t_s a_t_past a_t_aside a_t_text a_t_told a_t_bottoms a_t_planned v_t_pasts v_t_typed v_t_at v_t_kind v_t_from v_t_value v_t_planLength v_t_planAmount v_t_aside v_t_bottoms v_t_planned v_t_s) (c_X9_sinkable z.2.1 k a_t a_t_s a_t_past a_t_aside a_t_text a_t_told a_t_bottoms a_t_planned v_t_pasts v_t_typed v_t_at v_t_kind v_t_from v_t_value v_t_planLength v_t_planAmount v_t_s fuel x3 x2 q9 h10) Y_X9_sinkable wm_1175 (by decide) rfl 0 rfl rfl rfl [0, 4] rfl (by decide) rfl [some 0, none, none, none, some 1] (by decide) rfl (Nat.le_of_ble_eq_true rfl) rfl dX9_makePlan_74 ?_
        refine mg_iadd (pc := 77) C dX9_makePlan_77 ?_
        refine mg_iast (pc := 78) C (w2 := w_X9_makePlan k a_t a_t_s a_t_past a_t_aside a_t_text a_t_told a_t_bottoms a_t_planned v_t_pasts v_t_typed v_t_at v_t_kind v_t_from v_t_value v_t_planLength v_t_planAmount v_t_aside v_t_bottoms v_t_planned (upd v_t_s (Int32.toNatClampNeg (117 + x3)) ((v_t_s (Int32.toNatClampNeg (117 + x3))) + q9))) 4 rfl dX9_makePlan_78 hf rfl (fun hf => ?_)
        refine mg_aload_n (pc := 79) C 0 dX9_makePlan_79 rfl rfl ?_
        obtain ⟨q11, h12, hf⟩ := mg_b hf
        refine mg_callV (pc := 80) C (w2 := w_X9_makePlan k a_t a_t_s a_t_past a_t_aside a_t_text a_t_told a_t_bottoms a_t_planned v_t_pasts v_t_typed v_t_at v_t_kind v_t_from v_t_value v_t_planLength v_t_planAmount v_t_aside v_t_bottoms v_t_planned q11) (c_X9_settlesIfLoose z.2.1 k a_t a_t_s a_t_past a_t_aside a_t_text a_t_told a_t_bottoms a_t_planned v_t_pasts v_t_typed v_t_at v_t_kind v_t_from v_t_value v_t_planLength v_t_planAmount (upd v_t_s (Int32.toNatClampNeg (117 + x3)) ((v_t_s (Int32.toNatClampNeg (117 + x3))) + q9)) fuel q11 h12) Y_X9_settlesIfLoose wm_1231 (by decide) rfl 0 rfl rfl rfl [0, 4] rfl (by decide) rfl [some 0, none, none, none, some 1] (by decide) rfl (Nat.le_of_ble_eq_true rfl) rfl dX9_makePlan_80 ?_
        refine mg_aload_n (pc := 83) C 0 dX9_makePlan_83 rfl rfl ?_
        refine mg_get (pc := 84) C 0 rfl rfl inX9 12 (by decide) wm_886 rfl rfl dX9_makePlan_84 ?_
        refine mg_iconst (pc := 87) C dX9_makePlan_87 (v := 3) (by decide) ?_
        refine mg_aload_n (pc := 88) C 0 dX9_makePlan_88 rfl rfl ?_
        refine mg_get (pc := 89) C 0 rfl rfl inX9 13 (by decide) wm_887 rfl rfl dX9_makePlan_89 ?_
        refine mg_imul (pc := 92) C dX9_makePlan_92 ?_
        refine mg_iload_n (pc := 93) C 3 dX9_makePlan_93 rfl rfl ?_
        refine mg_iast (pc := 94) C (w2 := w_X9_makePlan k a_t a_t_s a_t_past a_t_aside a_t_text a_t_told a_t_bottoms a_t_planned v_t_pasts v_t_typed v_t_at v_t_kind v_t_from v_t_value v_t_planLength v_t_planAmount v_t_aside v_t_bottoms (upd v_t_planned (Int32.toNatClampNeg (3 * v_t_planLength)) x3) q11) 3 rfl dX9_makePlan_94 hf rfl (fun hf => ?_)
        refine mg_aload_n (pc := 95) C 0 dX9_makePlan_95 rfl rfl ?_
        refine mg_get (pc := 96) C 0 rfl rfl inX9 12 (by decide) wm_886 rfl rfl dX9_makePlan_96 ?_
        refine mg_iconst (pc := 99) C dX9_makePlan_99 (v := 3) (by decide) ?_
        refine mg_aload_n (pc := 100) C 0 dX9_makePlan_100 rfl rfl ?_
        refine mg_get (pc := 101) C 0 rfl rfl inX9 13 (by decide) wm_887 rfl rfl dX9_makePlan_101 ?_
        refine mg_imul (pc := 104) C dX9_makePlan_104 ?_
        refine mg_iconst (pc := 105) C dX9_makePlan_105 (v := 1) (by decide) ?_
        refine mg_iadd (pc := 106) C dX9_makePlan_106 ?_
        refine mg_aload_n (pc := 107) C 0 dX9_makePlan_107 rfl rfl ?_
        refine mg_get (pc := 108) C 0 rfl rfl inX9 0 (by decide) wm_874 rfl rfl dX9_makePlan_108 ?_
        refine mg_iconst (pc := 111) C dX9_makePlan_111 (v := 2) (by decide) ?_
        refine mg_ialdK (pc := 112) C 4 2 rfl dX9_makePlan_112 (by decide) (by decide) ?_
        refine mg_iast (pc := 113) C (w2 := w_X9_makePlan k a_t a_t_s a_t_past a_t_aside a_t_text a_t_told a_t_bottoms a_t_planned v_t_pasts v_t_typed v_t_at v_t_kind v_t_from v_t_value v_t_planLength v_t_planAmount v_t_aside v_t_bottoms (upd (upd v_t_planned (Int32.toNatClampNeg (3 * v_t_planLength)) x3) (Int32.toNatClampNeg ((3 * v_t_planLength) + 1)) (q11 2)) q11) 3 rfl dX9_makePlan_113 hf rfl (fun hf => ?_)
        refine mg_aload_n (pc := 114) C 0 dX9_makePlan_114 rfl rfl ?_
        refine mg_get (pc := 115) C 0 rfl rfl inX9 12 (by decide) wm_886 rfl rfl dX9_makePlan_115 ?_
        refine mg_iconst (pc := 118) C dX9_makePlan_118 (v := 3) (by decide) ?_
        refine mg_aload_n (pc := 119) C 0 dX9_makePlan_119 rfl rfl ?_
        refine mg_get (pc := 120) C 0 rfl rfl inX9 13 (by decide) wm_887 rfl rfl dX9_makePlan_120 ?_
        refine mg_imul (pc := 123) C dX9_makePlan_123 ?_
        refine mg_iconst (pc := 124) C dX9_makePlan_124 (v := 2) (by decide) ?_
        refine mg_iadd (pc := 125) C dX9_makePlan_125 ?_
        refine mg_aload_n (pc := 126) C 0 dX9_makePlan_126 rfl rfl ?_
        obtain ⟨q13, h14, hf⟩ := mg_b hf
        refine mg_callV (pc := 127) C (w2 := w_X9_makePlan k a_t a_t_s a_t_past a_t_aside a_t_text a_t_told a_t_bottoms a_t_planned v_t_pasts v_t_typed v_t_at v_t_kind v_t_from v_t_value v_t_planLength v_t_planAmount v_t_aside v_t_bottoms (upd (upd v_t_planned (Int32.toNatClampNeg (3 * v_t_planLength)) x3) (Int32.toNatClampNeg ((3 * v_t_planLength) + 1)) (q11 2)) q11) (c_X9_tilted z.2.1 k a_t a_t_s a_t_past a_t_aside a_t_text a_t_told a_t_bottoms a_t_planned v_t_pasts v_t_typed v_t_at v_t_kind v_t_from v_t_value v_t_planLength v_t_planAmount q11 q13 h14) Y_X9_tilted wm_1235 (by decide) rfl 0 rfl rfl rfl [0, 4] rfl (by decide) rfl [some 0, none, none, none, some 1] (by decide) rfl (Nat.le_of_ble_eq_true rfl) rfl dX9_makePlan_127 ?_
        refine mg_iast (pc := 130) C (w2 := w_X9_makePlan k a_t a_t_s a_t_past a_t_aside a_t_text a_t_told a_t_bottoms a_t_planned v_t_pasts v_t_typed v_t_at v_t_kind v_t_from v_t_value v_t_planLength v_t_planAmount v_t_aside v_t_bottoms (upd (upd (upd v_t_planned (Int32.toNatClampNeg (3 * v_t_planLength)) x3) (Int32.toNatClampNeg ((3 * v_t_planLength) + 1)) (q11 2)) (Int32.toNatClampNeg ((3 * v_t_planLength) + 2)) q13) q11) 3 rfl dX9_makePlan_130 hf rfl (fun hf => ?_)
        refine mg_aload_n (pc := 131) C 0 dX9_makePlan_131 rfl rfl ?_
        refine mg_dup (pc := 132) C dX9_makePlan_132 rfl ?_
        refine mg_get (pc := 133) C 0 rfl rfl inX9 13 (by decide) wm_887 rfl rfl dX9_makePlan_133 ?_
        refine mg_iconst (pc := 136) C dX9_makePlan_136 (v := 1) (by decide) ?_
        refine mg_iadd (pc := 137) C dX9_makePlan_137 ?_
        refine mg_puti (pc := 138) C (w2 := w_X9_makePlan k a_t a_t_s a_t_past a_t_aside a_t_text a_t_told a_t_bottoms a_t_planned v_t_pasts v_t_typed v_t_at v_t_kind v_t_from v_t_value (v_t_planLength + 1) v_t_planAmount v_t_aside v_t_bottoms (upd (upd (upd v_t_planned (Int32.toNatClampNeg (3 * v_t_planLength)) x3) (Int32.toNatClampNeg ((3 * v_t_planLength) + 1)) (q11 2)) (Int32.toNatClampNeg ((3 * v_t_planLength) + 2)) q13) q11) 0 rfl rfl inX9 13 (by decide) wm_887 rfl tyX9 tyX9_ok nmX9 rfl (by decide +kernel) (Nat.le_of_ble_eq_true rfl) rfl dX9_makePlan_138 ?_
        refine mg_aload_n (pc := 141) C 0 dX9_makePlan_141 rfl rfl ?_
        refine mg_get (pc := 142) C 0 rfl rfl inX9 0 (by decide) wm_874 rfl rfl dX9_makePlan_142 ?_
        refine mg_iconst (pc := 145) C dX9_makePlan_145 (v := 2) (by decide) ?_
        refine mg_ialdK (pc := 146) C 4 2 rfl dX9_makePlan_146 (by decide) (by decide) ?_
        refine mg_iload_n (pc := 147) C 1 dX9_makePlan_147 rfl rfl ?_
        refine mg_icmp_ge (pc := 148) (tgt := 160) C dX9_makePlan_148 (by decide) hf (fun hf => ?_) (fun hf => ?_)
        · refine mg_ldc (pc := 160) C wm_964 dX9_makePlan_160 ?_
          refine mg_goto (pc := 162) (tgt := 170) C dX9_makePlan_162 (by decide) ?_
          refine mg_istore_n (pc := 170) C (lv' := [(3, .int (-1000009)), (0, .ref a_t), (1, .int x1), (2, .int x2)]) dX9_makePlan_170 rfl (by decide) rfl ?_
          refine mg_goto (pc := 171) (tgt := 57) C dX9_makePlan_171 (by decide) ?_
          refine mg_lv [1, 2, 3, 0] rfl ?_
          exact ih (-1000009) (v_t_planLength + 1) v_t_bottoms (upd (upd (upd v_t_planned (Int32.toNatClampNeg (3 * v_t_planLength)) x3) (Int32.toNatClampNeg ((3 * v_t_planLength) + 1)) (q11 2)) (Int32.toNatClampNeg ((3 * v_t_planLength) + 2)) q13) q11 _ hf X0
        · refine mg_aload_n (pc := 151) C 0 dX9_makePlan_151 rfl rfl ?_
          refine mg_get (pc := 152) C 0 rfl rfl inX9 13 (by decide) wm_887 rfl rfl dX9_makePlan_152 ?_
          refine mg_bipush (pc := 155) C dX9_makePlan_155 (v := 12) (by decide) ?_
          refine mg_icmp_ne (pc := 157) (tgt := 165) C dX9_makePlan_157 (by decide) hf (fun hf => ?_) (fun hf => ?_)
          · refine mg_aload_n (pc := 165) C 0 dX9_makePlan_165 rfl rfl ?_
            refine mg_iload_n (pc := 166) C 2 dX9_makePlan_166 rfl rfl ?_
            obtain ⟨q15, h16, hf⟩ := mg_b hf
            refine mg_callV (pc := 167) C (w2 := w_X9_makePlan k a_t a_t_s a_t_past a_t_aside a_t_text a_t_told a_t_bottoms a_t_planned v_t_pasts v_t_typed v_t_at v_t_kind v_t_from v_t_value (v_t_planLength + 1) v_t_planAmount v_t_aside q15.2.1 (upd (upd (upd v_t_planned (Int32.toNatClampNeg (3 * v_t_planLength)) x3) (Int32.toNatClampNeg ((3 * v_t_planLength) + 1)) (q11 2)) (Int32.toNatClampNeg ((3 * v_t_planLength) + 2)) q13) q15.2.2) (c_X9_best z.2.1 k a_t a_t_s a_t_past a_t_aside a_t_text a_t_told a_t_bottoms a_t_planned v_t_pasts v_t_typed v_t_at v_t_kind v_t_from v_t_value (v_t_planLength + 1) v_t_planAmount v_t_bottoms q11 fuel x2 q15 h16) Y_X9_best wm_1223 (by decide) rfl 0 rfl rfl rfl [0, 2, 4] rfl (by decide) rfl [some 0, none, some 1, none, some 2] (by decide) rfl (Nat.le_of_ble_eq_true rfl) rfl dX9_makePlan_167 ?_
            refine mg_istore_n (pc := 170) C (lv' := [(3, .int q15.1), (0, .ref a_t), (1, .int x1), (2, .int x2)]) dX9_makePlan_170 rfl (by decide) rfl ?_
            refine mg_goto (pc := 171) (tgt := 57) C dX9_makePlan_171 (by decide) ?_
            refine mg_lv [1, 2, 3, 0] rfl ?_
            exact ih q15.1 (v_t_planLength + 1) q15.2.1 (upd (upd (upd v_t_planned (Int32.toNatClampNeg (3 * v_t_planLength)) x3) (Int32.toNatClampNeg ((3 * v_t_planLength) + 1)) (q11 2)) (Int32.toNatClampNeg ((3 * v_t_planLength) + 2)) q13) q15.2.2 _ hf X0
          · refine mg_ldc (pc := 160) C wm_964 dX9_makePlan_160 ?_
            refine mg_goto (pc := 162) (tgt := 170) C dX9_makePlan_162 (by decide) ?_
            refine mg_istore_n (pc := 170) C (lv' := [(3, .int (-1000009)), (0, .ref a_t), (1, .int x1), (2, .int x2)]) dX9_makePlan_170 rfl (by decide) rfl ?_
            refine mg_goto (pc := 171) (tgt := 57) C dX9_makePlan_171 (by decide) ?_
            refine mg_lv [1, 2, 3, 0] rfl ?_
            exact ih (-1000009) (v_t_planLength + 1) v_t_bottoms (upd (upd (upd v_t_planned (Int32.toNatClampNeg (3 * v_t_planLength)) x3) (Int32.toNatClampNeg ((3 * v_t_planLength) + 1)) (q11 2)) (Int32.toNatClampNeg ((3 * v_t_planLength) + 2)) q13) q11 _ hf X0
  refine mg_iload_n (pc := 0) C 1 dX9_makePlan_0 rfl rfl ?_
  refine mg_iconst (pc := 1) C dX9_makePlan_1 (v := 1) (by decide) ?_
  refine mg_sipush (pc := 2) C dX9_makePlan_2 (v := 200) (by decide) ?_
  obtain ⟨q1, h2, hf⟩ := mg_b hf
  refine mg_callS (pc := 5) C (w2 := w_X9_makePlan k a_t a_t_s a_t_past a_t_aside a_t_text a_t_told a_t_bottoms a_t_planned v_t_pasts v_t_typed v_t_at v_t_kind v_t_from v_t_value v_t_planLength v_t_planAmount v_t_aside v_t_bottoms v_t_planned v_t_s) (c_X9_in z.2.1 k x1 1 200 q1 h2) Y_X9_in wm_924 (by decide) rfl [] rfl (by decide) rfl [none, none, none, none, none] (by decide) rfl (Nat.le_of_ble_eq_true rfl) rfl dX9_makePlan_5 ?_
  refine mg_if_eq (pc := 8) (tgt := 21) C dX9_makePlan_8 (by decide) hf (fun hf => ?_) (fun hf => ?_)
  · refine mg_ldc (pc := 21) C wm_927 dX9_makePlan_21 ?_
    obtain rfl := Option.some.inj hf
    exact E _ _ dX9_makePlan_23
  · refine mg_iload_n (pc := 11) C 2 dX9_makePlan_11 rfl rfl ?_
    refine mg_iconst (pc := 12) C dX9_makePlan_12 (v := 1) (by decide) ?_
    refine mg_bipush (pc := 13) C dX9_makePlan_13 (v := 10) (by decide) ?_
    obtain ⟨q3, h4, hf⟩ := mg_b hf
    refine mg_callS (pc := 15) C (w2 := w_X9_makePlan k a_t a_t_s a_t_past a_t_aside a_t_text a_t_told a_t_bottoms a_t_planned v_t_pasts v_t_typed v_t_at v_t_kind v_t_from v_t_value v_t_planLength v_t_planAmount v_t_aside v_t_bottoms v_t_planned v_t_s) (c_X9_in z.2.1 k x2 1 10 q3 h4) Y_X9_in wm_924 (by decide) rfl [] rfl (by decide) rfl [none, none, none, none, none] (by decide) rfl (Nat.le_of_ble_eq_true rfl) rfl dX9_makePlan_15 ?_
    refine mg_if_ne (pc := 18) (tgt := 24) C dX9_makePlan_18 (by decide) hf (fun hf => ?_) (fun hf => ?_)
    · refine mg_aload_n (pc := 24) C 0 dX9_makePlan_24 rfl rfl ?_
      refine mg_get (pc := 25) C 0 rfl rfl inX9 0 (by decide) wm_874 rfl rfl dX9_makePlan_25 ?_
      refine mg_iconst (pc := 28) C dX9_makePlan_28 (v := 2) (by decide) ?_
      refine mg_ialdK (pc := 29) C 4 2 rfl dX9_makePlan_29 (by decide) (by decide) ?_
      refine mg_iload_n (pc := 30) C 1 dX9_makePlan_30 rfl rfl ?_
      refine mg_icmp_lt (pc := 31) (tgt := 37) C dX9_makePlan_31 (by decide) hf (fun hf => ?_) (fun hf => ?_)
      · refine mg_aload_n (pc := 37) C 0 dX9_makePlan_37 rfl rfl ?_
        obtain ⟨q5, h6, hf⟩ := mg_b hf
        refine mg_callV (pc := 38) C (w2 := w_X9_makePlan k a_t a_t_s a_t_past a_t_aside a_t_text a_t_told a_t_bottoms a_t_planned v_t_pasts v_t_typed v_t_at v_t_kind v_t_from v_t_value v_t_planLength v_t_planAmount q5 v_t_bottoms v_t_planned v_t_s) (c_X9_hold z.2.1 k a_t a_t_s a_t_past a_t_aside a_t_text a_t_told a_t_bottoms a_t_planned v_t_pasts v_t_typed v_t_at v_t_kind v_t_from v_t_value v_t_planLength v_t_planAmount v_t_aside v_t_s fuel q5 h6) Y_X9_hold wm_937 (by decide) rfl 0 rfl rfl rfl [0, 1, 4] rfl (by decide) rfl [some 0, some 1, none, none, some 2] (by decide) rfl (Nat.le_of_ble_eq_true rfl) rfl dX9_makePlan_38 ?_
        refine mg_aload_n (pc := 41) C 0 dX9_makePlan_41 rfl rfl ?_
        refine mg_iconst (pc := 42) C dX9_makePlan_42 (v := 0) (by decide) ?_
        refine mg_puti (pc := 43) C (w2 := w_X9_makePlan k a_t a_t_s a_t_past a_t_aside a_t_text a_t_told a_t_bottoms a_t_planned v_t_pasts v_t_typed v_t_at v_t_kind v_t_from v_t_value 0 v_t_planAmount q5 v_t_bottoms v_t_planned v_t_s) 0 rfl rfl inX9 13 (by decide) wm_887 rfl tyX9 tyX9_ok nmX9 rfl (by decide +kernel) (Nat.le_of_ble_eq_true rfl) rfl dX9_makePlan_43 ?_
        refine mg_aload_n (pc := 46) C 0 dX9_makePlan_46 rfl rfl ?_
        refine mg_iload_n (pc := 47) C 2 dX9_makePlan_47 rfl rfl ?_
        refine mg_puti (pc := 48) C (w2 := w_X9_makePlan k a_t a_t_s a_t_past a_t_aside a_t_text a_t_told a_t_bottoms a_t_planned v_t_pasts v_t_typed v_t_at v_t_kind v_t_from v_t_value 0 x2 q5 v_t_bottoms v_t_planned v_t_s) 0 rfl rfl inX9 14 (by decide) wm_888 rfl tyX9 tyX9_ok nmX9 rfl (by decide +kernel) (Nat.le_of_ble_eq_true rfl) rfl dX9_makePlan_48 ?_
        refine mg_aload_n (pc := 51) C 0 dX9_makePlan_51 rfl rfl ?_
        refine mg_iload_n (pc := 52) C 2 dX9_makePlan_52 rfl rfl ?_
        obtain ⟨q7, h8, hf⟩ := mg_b hf
        refine mg_callV (pc := 53) C (w2 := w_X9_makePlan k a_t a_t_s a_t_past a_t_aside a_t_text a_t_told a_t_bottoms a_t_planned v_t_pasts v_t_typed v_t_at v_t_kind v_t_from v_t_value 0 x2 q5 q7.2.1 v_t_planned q7.2.2) (c_X9_best z.2.1 k a_t a_t_s a_t_past a_t_aside a_t_text a_t_told a_t_bottoms a_t_planned v_t_pasts v_t_typed v_t_at v_t_kind v_t_from v_t_value 0 x2 v_t_bottoms v_t_s fuel x2 q7 h8) Y_X9_best wm_1223 (by decide) rfl 0 rfl rfl rfl [0, 2, 4] rfl (by decide) rfl [some 0, none, some 1, none, some 2] (by decide) rfl (Nat.le_of_ble_eq_true rfl) rfl dX9_makePlan_53 ?_
        refine mg_istore_n (pc := 56) C (lv' := [(3, .int q7.1), (0, .ref a_t), (1, .int x1), (2, .int x2)]) dX9_makePlan_56 rfl (by decide) rfl ?_
        obtain ⟨q17, h18, hf⟩ := mg_b hf
        refine mg_lv [1, 2, 3, 0] rfl ?_
        refine L57 x1 x2 x2 q5 fuel q7.1 0 q7.2.1 v_t_planned q7.2.2 q17 h18 ?_
        refine mg_aload_n (pc := 174) C 0 dX9_makePlan_174 rfl rfl ?_
        obtain ⟨q19, h20, hf⟩ := mg_b hf
        refine mg_callV (pc := 175) C (w2 := w_X9_makePlan k a_t a_t_s a_t_past a_t_aside a_t_text a_t_told a_t_bottoms a_t_planned v_t_pasts v_t_typed v_t_at v_t_kind v_t_from v_t_value q17.2.1 x2 q5 q17.2.2.1 q17.2.2.2.1 q19) (c_X9_restore z.2.1 k a_t a_t_s a_t_past a_t_aside a_t_text a_t_told a_t_bottoms a_t_planned v_t_pasts v_t_typed v_t_at v_t_kind v_t_from v_t_value q17.2.1 x2 q5 q17.2.2.2.2 fuel q19 h20) Y_X9_restore wm_1000 (by decide) rfl 0 rfl rfl rfl [0, 1, 4] rfl (by decide) rfl [some 0, some 1, none, none, some 2] (by decide) rfl (Nat.le_of_ble_eq_true rfl) rfl dX9_makePlan_175 ?_
        refine mg_aload_n (pc := 178) C 0 dX9_makePlan_178 rfl rfl ?_
        refine mg_get (pc := 179) C 0 rfl rfl inX9 13 (by decide) wm_887 rfl rfl dX9_makePlan_179 ?_
        obtain rfl := Option.some.inj hf
        exact E _ _ dX9_makePlan_182
      · refine mg_ldc (pc := 34) C wm_1036 dX9_makePlan_34 ?_
        obtain rfl := Option.some.inj hf
        exact E _ _ dX9_makePlan_36
    · refine mg_ldc (pc := 21) C wm_927 dX9_makePlan_21 ?_
      obtain rfl := Option.some.inj hf
      exact E _ _ dX9_makePlan_23
abbrev w_X9_plan (k : mg_K) (a_t a_t_s a_t_past a_t_aside a_t_text a_t_told a_t_bottoms a_t_planned : Nat) (v_t_pasts : Int32) (v_t_typed : Int32) (v_t_at : Int32) (v_t_kind : Int32) (v_t_from : Int32) (v_t_value : Int32) (v_t_planLength : Int32) (v_t_planAmount : Int32) (v_t_planned : Nat → Int32) : va_W := [(a_t, .inr (9, [.ref a_t_s, .ref a_t_past, .ref a_t_aside, .int v_t_pasts, .ref a_t_text, .int v_t_typed, .int v_t_at, .int v_t_kind, .int v_t_from, .int v_t_value, .ref a_t_told, .ref a_t_bottoms, .ref a_t_planned, .int v_t_planLength, .int v_t_planAmount])), (a_t_planned, .inl (k.2.1, 36, .inl v_t_planned))]
def f_X9_plan (v_t_planLength : Int32) (v_t_planned : Nat → Int32) (x1 : Int32) (x2 : Int32) : Option (Int32) := if x1 < 0 then (some (-1000001)) else ((f_X9_in x2 0 2).bind (fun q1 => if q1 = 0 then (some (-1000001)) else (if v_t_planLength ≤ x1 then (some (-1000009)) else (if mg_ix ((3 * x1) + x2) 36 = true then (some (v_t_planned (Int32.toNatClampNeg ((3 * x1) + x2)))) else none))))
theorem Y_X9_plan : mg_Y yX9_plan cX9_plan 3 (some .int) 2 := ⟨wm_1248, wm_1249, wm_11, wm_1250, ⟨by decide +kernel, by decide +kernel, by decide +kernel⟩, by decide⟩
set_option maxRecDepth 100000 in
set_option maxHeartbeats 4000000 in
theorem c_X9_plan (l : Launch) (k : mg_K) (a_t a_t_s a_t_past a_t_aside a_t_text a_t_told a_t_bottoms a_t_planned : Nat) (v_t_pasts : Int32) (v_t_typed : Int32) (v_t_at : Int32) (v_t_kind : Int32) (v_t_from : Int32) (v_t_value : Int32) (v_t_planLength : Int32) (v_t_planAmount : Int32) (v_t_planned : Nat → Int32) (x1 : Int32) (x2 : Int32) (q : Int32) (hf : f_X9_plan v_t_planLength v_t_planned x1 x2 = some q) : mg_M l yX9_plan cX9_plan 3 (some .int) 1 k [.ref a_t, .int x1, .int x2] (w_X9_plan k a_t a_t_s a_t_past a_t_aside a_t_text a_t_told a_t_bottoms a_t_planned v_t_pasts v_t_typed v_t_at v_t_kind v_t_from v_t_value v_t_planLength v_t_planAmount v_t_planned) (w_X9_plan k a_t a_t_s a_t_past a_t_aside a_t_text a_t_told a_t_bottoms a_t_planned v_t_pasts v_t_typed v_t_at v_t_kind v_t_from v_t_value v_t_planLength v_t_planAmount v_t_planned) (some (.int q)) := by
  refine mg_Mi RX9 [(0, .ref a_t), (1, .int x1), (2, .int x2)] (by decide +kernel) rfl rfl (Nat.le_of_ble_eq_true rfl) ?_
  intro z A Q hl C E
  subst hl
  unfold f_X9_plan at hf
  refine mg_iload_n (pc := 0) C 1 dX9_plan_0 rfl rfl ?_
  refine mg_if_lt (pc := 1) (tgt := 13) C dX9_plan_1 (by decide) hf (fun hf => ?_) (fun hf => ?_)
  · refine mg_ldc (pc := 13) C wm_927 dX9_plan_13 ?_
    obtain rfl := Option.some.inj hf
    exact E _ _ dX9_plan_15
  · refine mg_iload_n (pc := 4) C 2 dX9_plan_4 rfl rfl ?_
    refine mg_iconst (pc := 5) C dX9_plan_5 (v := 0) (by decide) ?_
    refine mg_iconst (pc := 6) C dX9_plan_6 (v := 2) (by decide) ?_
    obtain ⟨q1, h2, hf⟩ := mg_b hf
    refine mg_callS (pc := 7) C (w2 := w_X9_plan k a_t a_t_s a_t_past a_t_aside a_t_text a_t_told a_t_bottoms a_t_planned v_t_pasts v_t_typed v_t_at v_t_kind v_t_from v_t_value v_t_planLength v_t_planAmount v_t_planned) (c_X9_in z.2.1 k x2 0 2 q1 h2) Y_X9_in wm_924 (by decide) rfl [] rfl (by decide) rfl [none, none] (by decide) rfl (Nat.le_of_ble_eq_true rfl) rfl dX9_plan_7 ?_
    refine mg_if_ne (pc := 10) (tgt := 16) C dX9_plan_10 (by decide) hf (fun hf => ?_) (fun hf => ?_)
    · refine mg_iload_n (pc := 16) C 1 dX9_plan_16 rfl rfl ?_
      refine mg_aload_n (pc := 17) C 0 dX9_plan_17 rfl rfl ?_
      refine mg_get (pc := 18) C 0 rfl rfl inX9 13 (by decide) wm_887 rfl rfl dX9_plan_18 ?_
      refine mg_icmp_ge (pc := 21) (tgt := 37) C dX9_plan_21 (by decide) hf (fun hf => ?_) (fun hf => ?_)
      · refine mg_ldc (pc := 37) C wm_964 dX9_plan_37 ?_
        obtain rfl := Option.some.inj hf
        exact E _ _ dX9_plan_39
      · refine mg_aload_n (pc := 24) C 0 dX9_plan_24 rfl rfl ?_
        refine mg_get (pc := 25) C 0 rfl rfl inX9 12 (by decide) wm_886 rfl rfl dX9_plan_25 ?_
        refine mg_iconst (pc := 28) C dX9_plan_28 (v := 3) (by decide) ?_
        refine mg_iload_n (pc := 29) C 1 dX9_plan_29 rfl rfl ?_
        refine mg_imul (pc := 30) C dX9_plan_30 ?_
        refine mg_iload_n (pc := 31) C 2 dX9_plan_31 rfl rfl ?_
        refine mg_iadd (pc := 32) C dX9_plan_32 ?_
        refine mg_iald (pc := 33) C 1 rfl dX9_plan_33 hf (fun hf => ?_)
        refine mg_goto (pc := 34) (tgt := 39) C dX9_plan_34 (by decide) ?_
        obtain rfl := Option.some.inj hf
        exact E _ _ dX9_plan_39
    · refine mg_ldc (pc := 13) C wm_927 dX9_plan_13 ?_
      obtain rfl := Option.some.inj hf
      exact E _ _ dX9_plan_15
abbrev w_X9_carryOut (k : mg_K) (a_t a_t_s a_t_past a_t_aside a_t_text a_t_told a_t_bottoms a_t_planned : Nat) (v_t_pasts : Int32) (v_t_typed : Int32) (v_t_at : Int32) (v_t_kind : Int32) (v_t_from : Int32) (v_t_value : Int32) (v_t_planLength : Int32) (v_t_planAmount : Int32) (v_t_aside : Nat → Int32) (v_t_past : Nat → Int32) (v_t_planned : Nat → Int32) (v_t_s : Nat → Int32) : va_W := [(a_t, .inr (9, [.ref a_t_s, .ref a_t_past, .ref a_t_aside, .int v_t_pasts, .ref a_t_text, .int v_t_typed, .int v_t_at, .int v_t_kind, .int v_t_from, .int v_t_value, .ref a_t_told, .ref a_t_bottoms, .ref a_t_planned, .int v_t_planLength, .int v_t_planAmount])), (a_t_aside, .inl (k.2.1, 227, .inl v_t_aside)), (a_t_past, .inl (k.2.1, 1362, .inl v_t_past)), (a_t_planned, .inl (k.2.1, 36, .inl v_t_planned)), (a_t_s, .inl (k.2.1, 227, .inl v_t_s))]
def f_X9_carryOut_L21 (fuel : Nat) (v_t_planAmount : Int32) (v_t_planned : Nat → Int32) (x1 : Int32) : Nat → Int32 → (Nat → Int32) → Option (Int32 × (Nat → Int32))
  | 0, _, _ => none
  | n_ + 1, x2, v_t_s => if x1 ≤ x2 then (some ((x2, v_t_s))) else (if mg_ix (3 * x2) 36 = true then (if mg_ix (117 + (v_t_planned (Int32.toNatClampNeg (3 * x2)))) 227 = true then ((f_X9_isWell v_t_s (v_t_planned (Int32.toNatClampNeg (3 * x2)))).bind (fun q5 => if q5 = 0 then (if mg_ix (117 + (v_t_planned (Int32.toNatClampNeg (3 * x2)))) 227 = true then ((f_X9_settlesIfLoose fuel (upd v_t_s (Int32.toNatClampNeg (117 + (v_t_planned (Int32.toNatClampNeg (3 * x2))))) ((v_t_s (Int32.toNatClampNeg (117 + (v_t_planned (Int32.toNatClampNeg (3 * x2)))))) + 0))).bind (fun q7 => f_X9_carryOut_L21 fuel v_t_planAmount v_t_planned x1 n_ (x2 + 1) q7)) else none) else ((f_X9_sinkable fuel v_t_s (v_t_planned (Int32.toNatClampNeg (3 * x2))) v_t_planAmount).bind (fun q9 => if mg_ix (117 + (v_t_planned (Int32.toNatClampNeg (3 * x2)))) 227 = true then ((f_X9_settlesIfLoose fuel (upd v_t_s (Int32.toNatClampNeg (117 + (v_t_planned (Int32.toNatClampNeg (3 * x2))))) ((v_t_s (Int32.toNatClampNeg (117 + (v_t_planned (Int32.toNatClampNeg (3 * x2)))))) + q9))).bind (fun q11 => f_X9_carryOut_L21 fuel v_t_planAmount v_t_planned x1 n_ (x2 + 1) q11)) else none)))) else none) else none)
def f_X9_carryOut (fuel : Nat) (v_t_pasts : Int32) (v_t_planLength : Int32) (v_t_planAmount : Int32) (v_t_aside : Nat → Int32) (v_t_past : Nat → Int32) (v_t_planned : Nat → Int32) (v_t_s : Nat → Int32) (x1 : Int32) : Option (Int32 × Int32 × (Nat → Int32) × (Nat → Int32) × (Nat → Int32)) := (f_X9_in x1 1 v_t_planLength).bind (fun q1 => if q1 = 0 then (some ((-1000001), v_t_pasts, v_t_aside, v_t_past, v_t_s)) else ((f_X9_hold fuel v_t_aside v_t_s).bind (fun q3 => (f_X9_carryOut_L21 fuel v_t_planAmount v_t_planned x1 fuel 0 v_t_s).bind (fun q13 => (f_X9_ends fuel v_t_pasts q3 v_t_past (q13.2 2)).bind (fun q15 => some (q15.1, q15.2.1, q3, q15.2.2, q13.2))))))
theorem Y_X9_carryOut : mg_Y yX9_carryOut cX9_carryOut 4 (some .int) 1 := ⟨wm_1252, wm_1253, wm_11, wm_1254, ⟨by decide +kernel, by decide +kernel, by decide +kernel⟩, by decide⟩
set_option maxRecDepth 100000 in
set_option maxHeartbeats 4000000 in
theorem c_X9_carryOut (l : Launch) (k : mg_K) (a_t a_t_s a_t_past a_t_aside a_t_text a_t_told a_t_bottoms a_t_planned : Nat) (v_t_pasts : Int32) (v_t_typed : Int32) (v_t_at : Int32) (v_t_kind : Int32) (v_t_from : Int32) (v_t_value : Int32) (v_t_planLength : Int32) (v_t_planAmount : Int32) (v_t_aside : Nat → Int32) (v_t_past : Nat → Int32) (v_t_planned : Nat → Int32) (v_t_s : Nat → Int32) (fuel : Nat) (x1 : Int32) (q : Int32 × Int32 × (Nat → Int32) × (Nat → Int32) × (Nat → Int32)) (hf : f_X9_carryOut fuel v_t_pasts v_t_planLength v_t_planAmount v_t_aside v_t_past v_t_planned v_t_s x1 = some q) : mg_M l yX9_carryOut cX9_carryOut 4 (some .int) 10 k [.ref a_t, .int x1] (w_X9_carryOut k a_t a_t_s a_t_past a_t_aside a_t_text a_t_told a_t_bottoms a_t_planned v_t_pasts v_t_typed v_t_at v_t_kind v_t_from v_t_value v_t_planLength v_t_planAmount v_t_aside v_t_past v_t_planned v_t_s) (w_X9_carryOut k a_t a_t_s a_t_past a_t_aside a_t_text a_t_told a_t_bottoms a_t_planned q.2.1 v_t_typed v_t_at v_t_kind v_t_from v_t_value v_t_planLength v_t_planAmount q.2.2.1 q.2.2.2.1 v_t_planned q.2.2.2.2) (some (.int q.1)) := by
  refine mg_Mi RX9 [(0, .ref a_t), (1, .int x1)] (by decide +kernel) rfl rfl (Nat.le_of_ble_eq_true rfl) ?_
  intro z A Q hl C E
  subst hl
  unfold f_X9_carryOut at hf
  have L21 : ∀ (x1 : Int32) (v_t_pasts : Int32) (v_t_aside : Nat → Int32) (v_t_past : Nat → Int32) (n_ : Nat) (x2 : Int32) (v_t_s : Nat → Int32) (q_ : Int32 × (Nat → Int32)), f_X9_carryOut_L21 fuel v_t_planAmount v_t_planned x1 n_ x2 v_t_s = some q_ → (mg z k A 4 0 0 Q (w_X9_carryOut k a_t a_t_s a_t_past a_t_aside a_t_text a_t_told a_t_bottoms a_t_planned v_t_pasts v_t_typed v_t_at v_t_kind v_t_from v_t_value v_t_planLength v_t_planAmount v_t_aside v_t_past v_t_planned q_.2) [(0, .ref a_t)] 78 []) → mg z k A 4 0 0 Q (w_X9_carryOut k a_t a_t_s a_t_past a_t_aside a_t_text a_t_told a_t_bottoms a_t_planned v_t_pasts v_t_typed v_t_at v_t_kind v_t_from v_t_value v_t_planLength v_t_planAmount v_t_aside v_t_past v_t_planned v_t_s) [(0, .ref a_t), (1, .int x1), (2, .int x2)] 21 [] := by
    intro x1 v_t_pasts v_t_aside v_t_past n_
    induction n_ with
    | zero => intro x2 v_t_s q_ hf; exact mg_no (show none = some q_ from hf)
    | succ n_ ih =>
      intro x2 v_t_s q_ hf X0
      rw [f_X9_carryOut_L21] at hf
      refine mg_iload_n (pc := 21) C 2 dX9_carryOut_21 rfl rfl ?_
      refine mg_iload_n (pc := 22) C 1 dX9_carryOut_22 rfl rfl ?_
      refine mg_icmp_ge (pc := 23) (tgt := 78) C dX9_carryOut_23 (by decide) hf (fun hf => ?_) (fun hf => ?_)
      · obtain rfl := Option.some.inj hf
        refine mg_lv [0] rfl ?_
        exact X0
      · refine mg_aload_n (pc := 26) C 0 dX9_carryOut_26 rfl rfl ?_
        refine mg_get (pc := 27) C 0 rfl rfl inX9 12 (by decide) wm_886 rfl rfl dX9_carryOut_27 ?_
        refine mg_iconst (pc := 30) C dX9_carryOut_30 (v := 3) (by decide) ?_
        refine mg_iload_n (pc := 31) C 2 dX9_carryOut_31 rfl rfl ?_
        refine mg_imul (pc := 32) C dX9_carryOut_32 ?_
        refine mg_iald (pc := 33) C 3 rfl dX9_carryOut_33 hf (fun hf => ?_)
        refine mg_istore_n (pc := 34) C (lv' := [(3, .int (v_t_planned (Int32.toNatClampNeg (3 * x2)))), (0, .ref a_t), (1, .int x1), (2, .int x2)]) dX9_carryOut_34 rfl (by decide) rfl ?_
        refine mg_aload_n (pc := 35) C 1 dX9_carryOut_35 rfl rfl ?_
        refine mg_get (pc := 36) C 0 rfl rfl inX9 0 (by decide) wm_874 rfl rfl dX9_carryOut_36 ?_
        refine mg_bipush (pc := 39) C dX9_carryOut_39 (v := 117) (by decide) ?_
        refine mg_iload_n (pc := 41) C 0 dX9_carryOut_41 rfl rfl ?_
        refine mg_iadd (pc := 42) C dX9_carryOut_42 ?_
        refine mg_dup2 (pc := 43) C dX9_carryOut_43 rfl rfl ?_
        refine mg_iald (pc := 44) C 4 rfl dX9_carryOut_44 hf (fun hf => ?_)
        refine mg_aload_n (pc := 45) C 1 dX9_carryOut_45 rfl rfl ?_
        refine mg_iload_n (pc := 46) C 0 dX9_carryOut_46 rfl rfl ?_
        obtain ⟨q5, h6, hf⟩ := mg_b hf
        refine mg_callV (pc := 47) C (w2 := w_X9_carryOut k a_t a_t_s a_t_past a_t_aside a_t_text a_t_told a_t_bottoms a_t_planned v_t_pasts v_t_typed v_t_at v_t_kind v_t_from v_t_value v_t_planLength v_t_planAmount v_t_aside v_t_past v_t_planned v_t_s) (c_X9_isWell z.2.1 k a_t a_t_s a_t_past a_t_aside a_t_text a_t_told a_t_bottoms a_t_planned v_t_pasts v_t_typed v_t_at v_t_kind v_t_from v_t_value v_t_planLength v_t_planAmount v_t_s (v_t_planned (Int32.toNatClampNeg (3 * x2))) q5 h6) Y_X9_isWell wm_1120 (by decide) rfl 0 rfl rfl rfl [0, 4] rfl (by decide) rfl [some 0, none, none, none, some 1] (by decide) rfl (Nat.le_of_ble_eq_true rfl) rfl dX9_carryOut_47 ?_
        refine mg_if_eq (pc := 50) (tgt := 65) C dX9_carryOut_50 (by decide) hf (fun hf => ?_) (fun hf => ?_)
        · refine mg_iconst (pc := 65) C dX9_carryOut_65 (v := 0) (by decide) ?_
          refine mg_iadd (pc := 66) C dX9_carryOut_66 ?_
          refine mg_iast (pc := 67) C (w2 := w_X9_carryOut k a_t a_t_s a_t_past a_t_aside a_t_text a_t_told a_t_bottoms a_t_planned v_t_pasts v_t_typed v_t_at v_t_kind v_t_from v_t_value v_t_planLength v_t_planAmount v_t_aside v_t_past v_t_planned (upd v_t_s (Int32.toNatClampNeg (117 + (v_t_planned (Int32.toNatClampNeg (3 * x2))))) ((v_t_s (Int32.toNatClampNeg (117 + (v_t_planned (Int32.toNatClampNeg (3 * x2)))))) + 0))) 4 rfl dX9_carryOut_67 hf rfl (fun hf => ?_)
          refine mg_aload_n (pc := 68) C 1 dX9_carryOut_68 rfl rfl ?_
          obtain ⟨q7, h8, hf⟩ := mg_b hf
          refine mg_callV (pc := 69) C (w2 := w_X9_carryOut k a_t a_t_s a_t_past a_t_aside a_t_text a_t_told a_t_bottoms a_t_planned v_t_pasts v_t_typed v_t_at v_t_kind v_t_from v_t_value v_t_planLength v_t_planAmount v_t_aside v_t_past v_t_planned q7) (c_X9_settlesIfLoose z.2.1 k a_t a_t_s a_t_past a_t_aside a_t_text a_t_told a_t_bottoms a_t_planned v_t_pasts v_t_typed v_t_at v_t_kind v_t_from v_t_value v_t_planLength v_t_planAmount (upd v_t_s (Int32.toNatClampNeg (117 + (v_t_planned (Int32.toNatClampNeg (3 * x2))))) ((v_t_s (Int32.toNatClampNeg (117 + (v_t_planned (Int32.toNatClampNeg (3 * x2)))))) + 0)) fuel q7 h8) Y_X9_settlesIfLoose wm_1231 (by decide) rfl 0 rfl rfl rfl [0, 4] rfl (by decide) rfl [some 0, none, none, none, some 1] (by decide) rfl (Nat.le_of_ble_eq_true rfl) rfl dX9_carryOut_69 ?_
          refine mg_iinc (pc := 72) C (c := 1) (lv' := [(2, .int (x2 + 1)), (3, .int (v_t_planned (Int32.toNatClampNeg (3 * x2)))), (0, .ref a_t), (1, .int x1)]) 3 dX9_carryOut_72 rfl (by decide) (by decide) rfl ?_
          refine mg_goto (pc := 75) (tgt := 21) C dX9_carryOut_75 (by decide) ?_
          refine mg_lv [2, 3, 0] rfl ?_
          exact ih (x2 + 1) q7 _ hf X0
        · refine mg_aload_n (pc := 53) C 1 dX9_carryOut_53 rfl rfl ?_
          refine mg_iload_n (pc := 54) C 0 dX9_carryOut_54 rfl rfl ?_
          refine mg_aload_n (pc := 55) C 1 dX9_carryOut_55 rfl rfl ?_
          refine mg_get (pc := 56) C 0 rfl rfl inX9 14 (by decide) wm_888 rfl rfl dX9_carryOut_56 ?_
          obtain ⟨q9, h10, hf⟩ := mg_b hf
          refine mg_callV (pc := 59) C (w2 := w_X9_carryOut k a_t a_t_s a_t_past a_t_aside a_t_text a_t_told a_t_bottoms a_t_planned v_t_pasts v_t_typed v_t_at v_t_kind v_t_from v_t_value v_t_planLength v_t_planAmount v_t_aside v_t_past v_t_planned v_t_s) (c_X9_sinkable z.2.1 k a_t a_t_s a_t_past a_t_aside a_t_text a_t_told a_t_bottoms a_t_planned v_t_pasts v_t_typed v_t_at v_t_kind v_t_from v_t_value v_t_planLength v_t_planAmount v_t_s fuel (v_t_planned (Int32.toNatClampNeg (3 * x2))) v_t_planAmount q9 h10) Y_X9_sinkable wm_1175 (by decide) rfl 0 rfl rfl rfl [0, 4] rfl (by decide) rfl [some 0, none, none, none, some 1] (by decide) rfl (Nat.le_of_ble_eq_true rfl) rfl dX9_carryOut_59 ?_
          refine mg_goto (pc := 62) (tgt := 66) C dX9_carryOut_62 (by decide) ?_
          refine mg_iadd (pc := 66) C dX9_carryOut_66 ?_
          refine mg_iast (pc := 67) C (w2 := w_X9_carryOut k a_t a_t_s a_t_past a_t_aside a_t_text a_t_told a_t_bottoms a_t_planned v_t_pasts v_t_typed v_t_at v_t_kind v_t_from v_t_value v_t_planLength v_t_planAmount v_t_aside v_t_past v_t_planned (upd v_t_s (Int32.toNatClampNeg (117 + (v_t_planned (Int32.toNatClampNeg (3 * x2))))) ((v_t_s (Int32.toNatClampNeg (117 + (v_t_planned (Int32.toNatClampNeg (3 * x2)))))) + q9))) 4 rfl dX9_carryOut_67 hf rfl (fun hf => ?_)
          refine mg_aload_n (pc := 68) C 1 dX9_carryOut_68 rfl rfl ?_
          obtain ⟨q11, h12, hf⟩ := mg_b hf
          refine mg_callV (pc := 69) C (w2 := w_X9_carryOut k a_t a_t_s a_t_past a_t_aside a_t_text a_t_told a_t_bottoms a_t_planned v_t_pasts v_t_typed v_t_at v_t_kind v_t_from v_t_value v_t_planLength v_t_planAmount v_t_aside v_t_past v_t_planned q11) (c_X9_settlesIfLoose z.2.1 k a_t a_t_s a_t_past a_t_aside a_t_text a_t_told a_t_bottoms a_t_planned v_t_pasts v_t_typed v_t_at v_t_kind v_t_from v_t_value v_t_planLength v_t_planAmount (upd v_t_s (Int32.toNatClampNeg (117 + (v_t_planned (Int32.toNatClampNeg (3 * x2))))) ((v_t_s (Int32.toNatClampNeg (117 + (v_t_planned (Int32.toNatClampNeg (3 * x2)))))) + q9)) fuel q11 h12) Y_X9_settlesIfLoose wm_1231 (by decide) rfl 0 rfl rfl rfl [0, 4] rfl (by decide) rfl [some 0, none, none, none, some 1] (by decide) rfl (Nat.le_of_ble_eq_true rfl) rfl dX9_carryOut_69 ?_
          refine mg_iinc (pc := 72) C (c := 1) (lv' := [(2, .int (x2 + 1)), (3, .int (v_t_planned (Int32.toNatClampNeg (3 * x2)))), (0, .ref a_t), (1, .int x1)]) 3 dX9_carryOut_72 rfl (by decide) (by decide) rfl ?_
          refine mg_goto (pc := 75) (tgt := 21) C dX9_carryOut_75 (by decide) ?_
          refine mg_lv [2, 3, 0] rfl ?_
          exact ih (x2 + 1) q11 _ hf X0
  refine mg_iload_n (pc := 0) C 1 dX9_carryOut_0 rfl rfl ?_
  refine mg_iconst (pc := 1) C dX9_carryOut_1 (v := 1) (by decide) ?_
  refine mg_aload_n (pc := 2) C 0 dX9_carryOut_2 rfl rfl ?_
  refine mg_get (pc := 3) C 0 rfl rfl inX9 13 (by decide) wm_887 rfl rfl dX9_carryOut_3 ?_
  obtain ⟨q1, h2, hf⟩ := mg_b hf
  refine mg_callS (pc := 6) C (w2 := w_X9_carryOut k a_t a_t_s a_t_past a_t_aside a_t_text a_t_told a_t_bottoms a_t_planned v_t_pasts v_t_typed v_t_at v_t_kind v_t_from v_t_value v_t_planLength v_t_planAmount v_t_aside v_t_past v_t_planned v_t_s) (c_X9_in z.2.1 k x1 1 v_t_planLength q1 h2) Y_X9_in wm_924 (by decide) rfl [] rfl (by decide) rfl [none, none, none, none, none] (by decide) rfl (Nat.le_of_ble_eq_true rfl) rfl dX9_carryOut_6 ?_
  refine mg_if_ne (pc := 9) (tgt := 15) C dX9_carryOut_9 (by decide) hf (fun hf => ?_) (fun hf => ?_)
  · refine mg_aload_n (pc := 15) C 0 dX9_carryOut_15 rfl rfl ?_
    obtain ⟨q3, h4, hf⟩ := mg_b hf
    refine mg_callV (pc := 16) C (w2 := w_X9_carryOut k a_t a_t_s a_t_past a_t_aside a_t_text a_t_told a_t_bottoms a_t_planned v_t_pasts v_t_typed v_t_at v_t_kind v_t_from v_t_value v_t_planLength v_t_planAmount q3 v_t_past v_t_planned v_t_s) (c_X9_hold z.2.1 k a_t a_t_s a_t_past a_t_aside a_t_text a_t_told a_t_bottoms a_t_planned v_t_pasts v_t_typed v_t_at v_t_kind v_t_from v_t_value v_t_planLength v_t_planAmount v_t_aside v_t_s fuel q3 h4) Y_X9_hold wm_937 (by decide) rfl 0 rfl rfl rfl [0, 1, 4] rfl (by decide) rfl [some 0, some 1, none, none, some 2] (by decide) rfl (Nat.le_of_ble_eq_true rfl) rfl dX9_carryOut_16 ?_
    refine mg_iconst (pc := 19) C dX9_carryOut_19 (v := 0) (by decide) ?_
    refine mg_istore_n (pc := 20) C (lv' := [(2, .int 0), (0, .ref a_t), (1, .int x1)]) dX9_carryOut_20 rfl (by decide) rfl ?_
    obtain ⟨q13, h14, hf⟩ := mg_b hf
    refine mg_lv [1, 2, 0] rfl ?_
    refine L21 x1 v_t_pasts q3 v_t_past fuel 0 v_t_s q13 h14 ?_
    refine mg_aload_n (pc := 78) C 0 dX9_carryOut_78 rfl rfl ?_
    refine mg_aload_n (pc := 79) C 0 dX9_carryOut_79 rfl rfl ?_
    refine mg_get (pc := 80) C 0 rfl rfl inX9 0 (by decide) wm_874 rfl rfl dX9_carryOut_80 ?_
    refine mg_iconst (pc := 83) C dX9_carryOut_83 (v := 2) (by decide) ?_
    refine mg_ialdK (pc := 84) C 4 2 rfl dX9_carryOut_84 (by decide) (by decide) ?_
    obtain ⟨q15, h16, hf⟩ := mg_b hf
    refine mg_callV (pc := 85) C (w2 := w_X9_carryOut k a_t a_t_s a_t_past a_t_aside a_t_text a_t_told a_t_bottoms a_t_planned q15.2.1 v_t_typed v_t_at v_t_kind v_t_from v_t_value v_t_planLength v_t_planAmount q3 q15.2.2 v_t_planned q13.2) (c_X9_ends z.2.1 k a_t a_t_s a_t_past a_t_aside a_t_text a_t_told a_t_bottoms a_t_planned v_t_pasts v_t_typed v_t_at v_t_kind v_t_from v_t_value v_t_planLength v_t_planAmount q3 v_t_past fuel (q13.2 2) q15 h16) Y_X9_ends wm_1004 (by decide) rfl 0 rfl rfl rfl [0, 1, 2] rfl (by decide) rfl [some 0, some 1, some 2, none, none] (by decide) rfl (Nat.le_of_ble_eq_true rfl) rfl dX9_carryOut_85 ?_
    obtain rfl := Option.some.inj hf
    exact E _ _ dX9_carryOut_88
  · refine mg_ldc (pc := 12) C wm_927 dX9_carryOut_12 ?_
    obtain rfl := Option.some.inj hf
    exact E _ _ dX9_carryOut_14
abbrev w_X9_highSide (k : mg_K) (a_t a_t_s a_t_past a_t_aside a_t_text a_t_told a_t_bottoms a_t_planned : Nat) (v_t_pasts : Int32) (v_t_typed : Int32) (v_t_at : Int32) (v_t_kind : Int32) (v_t_from : Int32) (v_t_value : Int32) (v_t_planLength : Int32) (v_t_planAmount : Int32) (v_t_s : Nat → Int32) : va_W := [(a_t, .inr (9, [.ref a_t_s, .ref a_t_past, .ref a_t_aside, .int v_t_pasts, .ref a_t_text, .int v_t_typed, .int v_t_at, .int v_t_kind, .int v_t_from, .int v_t_value, .ref a_t_told, .ref a_t_bottoms, .ref a_t_planned, .int v_t_planLength, .int v_t_planAmount])), (a_t_s, .inl (k.2.1, 227, .inl v_t_s))]
def f_X9_highSide_J78 (rec_ : Int32 → Int32 → Int32 → Option (Int32 × Int32 × Int32)) (v_t_s : Nat → Int32) (x4 : Int32) (x6 : Int32) (x7 : Int32) (y0 : Int32) (y1 : Int32) : Option (Int32 × Int32 × Int32) := (f_X9_isOn v_t_s x7 x4).bind (fun q5 => if q5 = 0 then (rec_ (y0 + y1) (x6 + 0) (x7 + 1)) else (rec_ (y0 + y1) (x6 + 1) (x7 + 1)))
def f_X9_highSide_L46 (v_t_s : Nat → Int32) (x4 : Int32) : Nat → Int32 → Int32 → Int32 → Option (Int32 × Int32 × Int32)
  | 0, _, _, _ => none
  | n_ + 1, x5, x6, x7 => (f_X9_cells v_t_s).bind (fun q1 => if q1 ≤ x7 then (some ((x5, x6, x7))) else ((f_X9_isOn v_t_s x7 x4).bind (fun q3 => if q3 = 0 then (f_X9_highSide_J78 (f_X9_highSide_L46 v_t_s x4 n_) v_t_s x4 x6 x7 x5 0) else ((f_X9_edgeDepth v_t_s x7).bind (fun q7 => f_X9_highSide_J78 (f_X9_highSide_L46 v_t_s x4 n_) v_t_s x4 x6 x7 x5 q7)))))
def f_X9_highSide_L31 (fuel : Nat) (v_t_s : Nat → Int32) : Nat → Int32 → Int32 → Int32 → Int32 → Option (Int32 × Int32 × Int32 × Int32)
  | 0, _, _, _, _ => none
  | n_ + 1, x1, x2, x3, x4 => if 4 ≤ x4 then (some ((x1, x2, x3, x4))) else ((f_X9_highSide_L46 v_t_s x4 fuel 0 0 0).bind (fun q9 => if x1 < 0 then (f_X9_highSide_L31 fuel v_t_s n_ x4 q9.1 q9.2.1 (x4 + 1)) else (if (x2 * q9.2.1) ≤ (q9.1 * x3) then (f_X9_highSide_L31 fuel v_t_s n_ x1 x2 x3 (x4 + 1)) else (f_X9_highSide_L31 fuel v_t_s n_ x4 q9.1 q9.2.1 (x4 + 1)))))
def f_X9_highSide_J21 (fuel : Nat) (v_t_s : Nat → Int32) : Option (Int32) := (f_X9_highSide_L31 fuel v_t_s fuel (-1000009) 0 1 0).bind (fun q11 => some q11.1)
def f_X9_highSide (fuel : Nat) (v_t_s : Nat → Int32) : Option (Int32) := if (v_t_s 3) = 0 then (if (v_t_s 4) = 0 then (some (-1000009)) else (f_X9_highSide_J21 fuel v_t_s)) else (f_X9_highSide_J21 fuel v_t_s)
theorem Y_X9_highSide : mg_Y yX9_highSide cX9_highSide 8 (some .int) 0 := ⟨wm_1256, wm_1257, wm_11, wm_1258, ⟨by decide +kernel, by decide +kernel, by decide +kernel⟩, by decide⟩
set_option maxRecDepth 100000 in
set_option maxHeartbeats 4000000 in
theorem c_X9_highSide (l : Launch) (k : mg_K) (a_t a_t_s a_t_past a_t_aside a_t_text a_t_told a_t_bottoms a_t_planned : Nat) (v_t_pasts : Int32) (v_t_typed : Int32) (v_t_at : Int32) (v_t_kind : Int32) (v_t_from : Int32) (v_t_value : Int32) (v_t_planLength : Int32) (v_t_planAmount : Int32) (v_t_s : Nat → Int32) (fuel : Nat) (q : Int32) (hf : f_X9_highSide fuel v_t_s = some q) : mg_M l yX9_highSide cX9_highSide 8 (some .int) 3 k [.ref a_t] (w_X9_highSide k a_t a_t_s a_t_past a_t_aside a_t_text a_t_told a_t_bottoms a_t_planned v_t_pasts v_t_typed v_t_at v_t_kind v_t_from v_t_value v_t_planLength v_t_planAmount v_t_s) (w_X9_highSide k a_t a_t_s a_t_past a_t_aside a_t_text a_t_told a_t_bottoms a_t_planned v_t_pasts v_t_typed v_t_at v_t_kind v_t_from v_t_value v_t_planLength v_t_planAmount v_t_s) (some (.int q)) := by
  refine mg_Mi RX9 [(0, .ref a_t)] (by decide +kernel) rfl rfl (Nat.le_of_ble_eq_true rfl) ?_
  intro z A Q hl C E
  subst hl
  unfold f_X9_highSide at hf
  have L31 : ∀ (n_ : Nat) (x1 : Int32) (x2 : Int32) (x3 : Int32) (x4 : Int32) (q_ : Int32 × Int32 × Int32 × Int32), f_X9_highSide_L31 fuel v_t_s n_ x1 x2 x3 x4 = some q_ → (mg z k A 8 0 0 Q (w_X9_highSide k a_t a_t_s a_t_past a_t_aside a_t_text a_t_told a_t_bottoms a_t_planned v_t_pasts v_t_typed v_t_at v_t_kind v_t_from v_t_value v_t_planLength v_t_planAmount v_t_s) [(1, .int q_.1)] 138 []) → mg z k A 8 0 0 Q (w_X9_highSide k a_t a_t_s a_t_past a_t_aside a_t_text a_t_told a_t_bottoms a_t_planned v_t_pasts v_t_typed v_t_at v_t_kind v_t_from v_t_value v_t_planLength v_t_planAmount v_t_s) [(0, .ref a_t), (1, .int x1), (2, .int x2), (3, .int x3), (4, .int x4)] 31 [] := by
    intro n_
    induction n_ with
    | zero => intro x1 x2 x3 x4 q_ hf; exact mg_no (show none = some q_ from hf)
    | succ n_ ih =>
      intro x1 x2 x3 x4 q_ hf X0
      rw [f_X9_highSide_L31] at hf
      have L46 : ∀ (x1 : Int32) (x2 : Int32) (x3 : Int32) (x4 : Int32) (n_ : Nat) (x5 : Int32) (x6 : Int32) (x7 : Int32) (q_ : Int32 × Int32 × Int32), f_X9_highSide_L46 v_t_s x4 n_ x5 x6 x7 = some q_ → (mg z k A 8 0 0 Q (w_X9_highSide k a_t a_t_s a_t_past a_t_aside a_t_text a_t_told a_t_bottoms a_t_planned v_t_pasts v_t_typed v_t_at v_t_kind v_t_from v_t_value v_t_planLength v_t_planAmount v_t_s) [(0, .ref a_t), (1, .int x1), (2, .int x2), (3, .int x3), (4, .int x4), (5, .int q_.1), (6, .int q_.2.1)] 108 []) → mg z k A 8 0 0 Q (w_X9_highSide k a_t a_t_s a_t_past a_t_aside a_t_text a_t_told a_t_bottoms a_t_planned v_t_pasts v_t_typed v_t_at v_t_kind v_t_from v_t_value v_t_planLength v_t_planAmount v_t_s) [(0, .ref a_t), (1, .int x1), (2, .int x2), (3, .int x3), (4, .int x4), (5, .int x5), (6, .int x6), (7, .int x7)] 46 [] := by
        intro x1 x2 x3 x4 n_
        induction n_ with
        | zero => intro x5 x6 x7 q_ hf; exact mg_no (show none = some q_ from hf)
        | succ n_ ih =>
          intro x5 x6 x7 q_ hf X0
          rw [f_X9_highSide_L46] at hf
          have J78 : ∀ (x6 : Int32) (x7 : Int32) (y0 : Int32) (y1 : Int32), f_X9_highSide_J78 (f_X9_highSide_L46 v_t_s x4 n_) v_t_s x4 x6 x7 y0 y1 = some q_ → mg z k A 8 0 0 Q (w_X9_highSide k a_t a_t_s a_t_past a_t_aside a_t_text a_t_told a_t_bottoms a_t_planned v_t_pasts v_t_typed v_t_at v_t_kind v_t_from v_t_value v_t_planLength v_t_planAmount v_t_s) [(0, .ref a_t), (1, .int x1), (2, .int x2), (3, .int x3), (4, .int x4), (6, .int x6), (7, .int x7)] 78 [.int y1, .int y0] := by
            intro x6 x7 y0 y1 hf
            unfold f_X9_highSide_J78 at hf
            refine mg_iadd (pc := 78) C dX9_highSide_78 ?_
            refine mg_istore (pc := 79) C (lv' := [(5, .int (y0 + y1)), (0, .ref a_t), (1, .int x1), (2, .int x2), (3, .int x3), (4, .int x4), (6, .int x6), (7, .int x7)]) dX9_highSide_79 (by decide) rfl ?_
            refine mg_iload (pc := 81) C 6 dX9_highSide_81 rfl ?_
            refine mg_aload_n (pc := 83) C 1 dX9_highSide_83 rfl rfl ?_
            refine mg_iload (pc := 84) C 7 dX9_highSide_84 rfl ?_
            refine mg_iload (pc := 86) C 5 dX9_highSide_86 rfl ?_
            obtain ⟨q5, h6, hf⟩ := mg_b hf
            refine mg_callV (pc := 88) C (w2 := w_X9_highSide k a_t a_t_s a_t_past a_t_aside a_t_text a_t_told a_t_bottoms a_t_planned v_t_pasts v_t_typed v_t_at v_t_kind v_t_from v_t_value v_t_planLength v_t_planAmount v_t_s) (c_X9_isOn z.2.1 k a_t a_t_s a_t_past a_t_aside a_t_text a_t_told a_t_bottoms a_t_planned v_t_pasts v_t_typed v_t_at v_t_kind v_t_from v_t_value v_t_planLength v_t_planAmount v_t_s x7 x4 q5 h6) Y_X9_isOn wm_1073 (by decide) rfl 0 rfl rfl rfl [0, 1] rfl (by decide) rfl [some 0, some 1] (by decide) rfl (Nat.le_of_ble_eq_true rfl) rfl dX9_highSide_88 ?_
            refine mg_if_eq (pc := 91) (tgt := 98) C dX9_highSide_91 (by decide) hf (fun hf => ?_) (fun hf => ?_)
            · refine mg_iconst (pc := 98) C dX9_highSide_98 (v := 0) (by decide) ?_
              refine mg_iadd (pc := 99) C dX9_highSide_99 ?_
              refine mg_istore (pc := 100) C (lv' := [(6, .int (x6 + 0)), (5, .int (y0 + y1)), (0, .ref a_t), (1, .int x1), (2, .int x2), (3, .int x3), (4, .int x4), (7, .int x7)]) dX9_highSide_100 (by decide) rfl ?_
              refine mg_iinc (pc := 102) C (c := 1) (lv' := [(7, .int (x7 + 1)), (6, .int (x6 + 0)), (5, .int (y0 + y1)), (0, .ref a_t), (1, .int x1), (2, .int x2), (3, .int x3), (4, .int x4)]) 7 dX9_highSide_102 rfl (by decide) (by decide) rfl ?_
              refine mg_goto (pc := 105) (tgt := 46) C dX9_highSide_105 (by decide) ?_
              refine mg_lv [3, 4, 5, 6, 7, 2, 1, 0] rfl ?_
              exact ih (y0 + y1) (x6 + 0) (x7 + 1) _ hf X0
            · refine mg_iconst (pc := 94) C dX9_highSide_94 (v := 1) (by decide) ?_
              refine mg_goto (pc := 95) (tgt := 99) C dX9_highSide_95 (by decide) ?_
              refine mg_iadd (pc := 99) C dX9_highSide_99 ?_
              refine mg_istore (pc := 100) C (lv' := [(6, .int (x6 + 1)), (5, .int (y0 + y1)), (0, .ref a_t), (1, .int x1), (2, .int x2), (3, .int x3), (4, .int x4), (7, .int x7)]) dX9_highSide_100 (by decide) rfl ?_
              refine mg_iinc (pc := 102) C (c := 1) (lv' := [(7, .int (x7 + 1)), (6, .int (x6 + 1)), (5, .int (y0 + y1)), (0, .ref a_t), (1, .int x1), (2, .int x2), (3, .int x3), (4, .int x4)]) 7 dX9_highSide_102 rfl (by decide) (by decide) rfl ?_
              refine mg_goto (pc := 105) (tgt := 46) C dX9_highSide_105 (by decide) ?_
              refine mg_lv [3, 4, 5, 6, 7, 2, 1, 0] rfl ?_
              exact ih (y0 + y1) (x6 + 1) (x7 + 1) _ hf X0
          refine mg_iload (pc := 46) C 7 dX9_highSide_46 rfl ?_
          refine mg_aload_n (pc := 48) C 0 dX9_highSide_48 rfl rfl ?_
          obtain ⟨q1, h2, hf⟩ := mg_b hf
          refine mg_callV (pc := 49) C (w2 := w_X9_highSide k a_t a_t_s a_t_past a_t_aside a_t_text a_t_told a_t_bottoms a_t_planned v_t_pasts v_t_typed v_t_at v_t_kind v_t_from v_t_value v_t_planLength v_t_planAmount v_t_s) (c_X9_cells z.2.1 k a_t a_t_s a_t_past a_t_aside a_t_text a_t_told a_t_bottoms a_t_planned v_t_pasts v_t_typed v_t_at v_t_kind v_t_from v_t_value v_t_planLength v_t_planAmount v_t_s q1 h2) Y_X9_cells wm_1061 (by decide) rfl 0 rfl rfl rfl [0, 1] rfl (by decide) rfl [some 0, some 1] (by decide) rfl (Nat.le_of_ble_eq_true rfl) rfl dX9_highSide_49 ?_
          refine mg_icmp_ge (pc := 52) (tgt := 108) C dX9_highSide_52 (by decide) hf (fun hf => ?_) (fun hf => ?_)
          · obtain rfl := Option.some.inj hf
            refine mg_lv [0, 1, 2, 3, 4, 5, 6] rfl ?_
            exact X0
          · refine mg_iload (pc := 55) C 5 dX9_highSide_55 rfl ?_
            refine mg_aload_n (pc := 57) C 0 dX9_highSide_57 rfl rfl ?_
            refine mg_iload (pc := 58) C 7 dX9_highSide_58 rfl ?_
            refine mg_iload (pc := 60) C 4 dX9_highSide_60 rfl ?_
            obtain ⟨q3, h4, hf⟩ := mg_b hf
            refine mg_callV (pc := 62) C (w2 := w_X9_highSide k a_t a_t_s a_t_past a_t_aside a_t_text a_t_told a_t_bottoms a_t_planned v_t_pasts v_t_typed v_t_at v_t_kind v_t_from v_t_value v_t_planLength v_t_planAmount v_t_s) (c_X9_isOn z.2.1 k a_t a_t_s a_t_past a_t_aside a_t_text a_t_told a_t_bottoms a_t_planned v_t_pasts v_t_typed v_t_at v_t_kind v_t_from v_t_value v_t_planLength v_t_planAmount v_t_s x7 x4 q3 h4) Y_X9_isOn wm_1073 (by decide) rfl 0 rfl rfl rfl [0, 1] rfl (by decide) rfl [some 0, some 1] (by decide) rfl (Nat.le_of_ble_eq_true rfl) rfl dX9_highSide_62 ?_
            refine mg_if_eq (pc := 65) (tgt := 77) C dX9_highSide_65 (by decide) hf (fun hf => ?_) (fun hf => ?_)
            · refine mg_iconst (pc := 77) C dX9_highSide_77 (v := 0) (by decide) ?_
              refine mg_lv [0, 1, 2, 3, 4, 6, 7] rfl ?_
              exact J78 x6 x7 x5 0 hf
            · refine mg_aload_n (pc := 68) C 0 dX9_highSide_68 rfl rfl ?_
              refine mg_iload (pc := 69) C 7 dX9_highSide_69 rfl ?_
              obtain ⟨q7, h8, hf⟩ := mg_b hf
              refine mg_callV (pc := 71) C (w2 := w_X9_highSide k a_t a_t_s a_t_past a_t_aside a_t_text a_t_told a_t_bottoms a_t_planned v_t_pasts v_t_typed v_t_at v_t_kind v_t_from v_t_value v_t_planLength v_t_planAmount v_t_s) (c_X9_edgeDepth z.2.1 k a_t a_t_s a_t_past a_t_aside a_t_text a_t_told a_t_bottoms a_t_planned v_t_pasts v_t_typed v_t_at v_t_kind v_t_from v_t_value v_t_planLength v_t_planAmount v_t_s x7 q7 h8) Y_X9_edgeDepth wm_1085 (by decide) rfl 0 rfl rfl rfl [0, 1] rfl (by decide) rfl [some 0, some 1] (by decide) rfl (Nat.le_of_ble_eq_true rfl) rfl dX9_highSide_71 ?_
              refine mg_goto (pc := 74) (tgt := 78) C dX9_highSide_74 (by decide) ?_
              refine mg_lv [0, 1, 2, 3, 4, 6, 7] rfl ?_
              exact J78 x6 x7 x5 q7 hf
      refine mg_iload (pc := 31) C 4 dX9_highSide_31 rfl ?_
      refine mg_iconst (pc := 33) C dX9_highSide_33 (v := 4) (by decide) ?_
      refine mg_icmp_ge (pc := 34) (tgt := 138) C dX9_highSide_34 (by decide) hf (fun hf => ?_) (fun hf => ?_)
      · obtain rfl := Option.some.inj hf
        refine mg_lv [1] rfl ?_
        exact X0
      · refine mg_iconst (pc := 37) C dX9_highSide_37 (v := 0) (by decide) ?_
        refine mg_istore (pc := 38) C (lv' := [(5, .int 0), (0, .ref a_t), (1, .int x1), (2, .int x2), (3, .int x3), (4, .int x4)]) dX9_highSide_38 (by decide) rfl ?_
        refine mg_iconst (pc := 40) C dX9_highSide_40 (v := 0) (by decide) ?_
        refine mg_istore (pc := 41) C (lv' := [(6, .int 0), (5, .int 0), (0, .ref a_t), (1, .int x1), (2, .int x2), (3, .int x3), (4, .int x4)]) dX9_highSide_41 (by decide) rfl ?_
        refine mg_iconst (pc := 43) C dX9_highSide_43 (v := 0) (by decide) ?_
        refine mg_istore (pc := 44) C (lv' := [(7, .int 0), (6, .int 0), (5, .int 0), (0, .ref a_t), (1, .int x1), (2, .int x2), (3, .int x3), (4, .int x4)]) dX9_highSide_44 (by decide) rfl ?_
        obtain ⟨q9, h10, hf⟩ := mg_b hf
        refine mg_lv [3, 4, 5, 6, 7, 2, 1, 0] rfl ?_
        refine L46 x1 x2 x3 x4 fuel 0 0 0 q9 h10 ?_
        refine mg_iload_n (pc := 108) C 1 dX9_highSide_108 rfl rfl ?_
        refine mg_if_lt (pc := 109) (tgt := 123) C dX9_highSide_109 (by decide) hf (fun hf => ?_) (fun hf => ?_)
        · refine mg_iload (pc := 123) C 4 dX9_highSide_123 rfl ?_
          refine mg_istore_n (pc := 125) C (lv' := [(1, .int x4), (0, .ref a_t), (2, .int x2), (3, .int x3), (4, .int x4), (5, .int q9.1), (6, .int q9.2.1)]) dX9_highSide_125 rfl (by decide) rfl ?_
          refine mg_iload (pc := 126) C 5 dX9_highSide_126 rfl ?_
          refine mg_istore_n (pc := 128) C (lv' := [(2, .int q9.1), (1, .int x4), (0, .ref a_t), (3, .int x3), (4, .int x4), (5, .int q9.1), (6, .int q9.2.1)]) dX9_highSide_128 rfl (by decide) rfl ?_
          refine mg_iload (pc := 129) C 6 dX9_highSide_129 rfl ?_
          refine mg_istore_n (pc := 131) C (lv' := [(3, .int q9.2.1), (2, .int q9.1), (1, .int x4), (0, .ref a_t), (4, .int x4), (5, .int q9.1), (6, .int q9.2.1)]) dX9_highSide_131 rfl (by decide) rfl ?_
          refine mg_iinc (pc := 132) C (c := 1) (lv' := [(4, .int (x4 + 1)), (3, .int q9.2.1), (2, .int q9.1), (1, .int x4), (0, .ref a_t), (5, .int q9.1), (6, .int q9.2.1)]) 4 dX9_highSide_132 rfl (by decide) (by decide) rfl ?_
          refine mg_goto (pc := 135) (tgt := 31) C dX9_highSide_135 (by decide) ?_
          refine mg_lv [4, 3, 2, 1, 0] rfl ?_
          exact ih x4 q9.1 q9.2.1 (x4 + 1) _ hf X0
        · refine mg_iload (pc := 112) C 5 dX9_highSide_112 rfl ?_
          refine mg_iload_n (pc := 114) C 3 dX9_highSide_114 rfl rfl ?_
          refine mg_imul (pc := 115) C dX9_highSide_115 ?_
          refine mg_iload_n (pc := 116) C 2 dX9_highSide_116 rfl rfl ?_
          refine mg_iload (pc := 117) C 6 dX9_highSide_117 rfl ?_
          refine mg_imul (pc := 119) C dX9_highSide_119 ?_
          refine mg_icmp_ge (pc := 120) (tgt := 132) C dX9_highSide_120 (by decide) hf (fun hf => ?_) (fun hf => ?_)
          · refine mg_iinc (pc := 132) C (c := 1) (lv' := [(4, .int (x4 + 1)), (0, .ref a_t), (1, .int x1), (2, .int x2), (3, .int x3), (5, .int q9.1), (6, .int q9.2.1)]) 4 dX9_highSide_132 rfl (by decide) (by decide) rfl ?_
            refine mg_goto (pc := 135) (tgt := 31) C dX9_highSide_135 (by decide) ?_
            refine mg_lv [1, 2, 3, 4, 0] rfl ?_
            exact ih x1 x2 x3 (x4 + 1) _ hf X0
          · refine mg_iload (pc := 123) C 4 dX9_highSide_123 rfl ?_
            refine mg_istore_n (pc := 125) C (lv' := [(1, .int x4), (0, .ref a_t), (2, .int x2), (3, .int x3), (4, .int x4), (5, .int q9.1), (6, .int q9.2.1)]) dX9_highSide_125 rfl (by decide) rfl ?_
            refine mg_iload (pc := 126) C 5 dX9_highSide_126 rfl ?_
            refine mg_istore_n (pc := 128) C (lv' := [(2, .int q9.1), (1, .int x4), (0, .ref a_t), (3, .int x3), (4, .int x4), (5, .int q9.1), (6, .int q9.2.1)]) dX9_highSide_128 rfl (by decide) rfl ?_
            refine mg_iload (pc := 129) C 6 dX9_highSide_129 rfl ?_
            refine mg_istore_n (pc := 131) C (lv' := [(3, .int q9.2.1), (2, .int q9.1), (1, .int x4), (0, .ref a_t), (4, .int x4), (5, .int q9.1), (6, .int q9.2.1)]) dX9_highSide_131 rfl (by decide) rfl ?_
            refine mg_iinc (pc := 132) C (c := 1) (lv' := [(4, .int (x4 + 1)), (3, .int q9.2.1), (2, .int q9.1), (1, .int x4), (0, .ref a_t), (5, .int q9.1), (6, .int q9.2.1)]) 4 dX9_highSide_132 rfl (by decide) (by decide) rfl ?_
            refine mg_goto (pc := 135) (tgt := 31) C dX9_highSide_135 (by decide) ?_
            refine mg_lv [4, 3, 2, 1, 0] rfl ?_
            exact ih x4 q9.1 q9.2.1 (x4 + 1) _ hf X0
  have J21 : ∀ (_ : Unit), f_X9_highSide_J21 fuel v_t_s = some q → mg z k A 8 0 0 Q (w_X9_highSide k a_t a_t_s a_t_past a_t_aside a_t_text a_t_told a_t_bottoms a_t_planned v_t_pasts v_t_typed v_t_at v_t_kind v_t_from v_t_value v_t_planLength v_t_planAmount v_t_s) [(0, .ref a_t)] 21 [] := by
    intro _ hf
    unfold f_X9_highSide_J21 at hf
    refine mg_ldc (pc := 21) C wm_964 dX9_highSide_21 ?_
    refine mg_istore_n (pc := 23) C (lv' := [(1, .int (-1000009)), (0, .ref a_t)]) dX9_highSide_23 rfl (by decide) rfl ?_
    refine mg_iconst (pc := 24) C dX9_highSide_24 (v := 0) (by decide) ?_
    refine mg_istore_n (pc := 25) C (lv' := [(2, .int 0), (1, .int (-1000009)), (0, .ref a_t)]) dX9_highSide_25 rfl (by decide) rfl ?_
    refine mg_iconst (pc := 26) C dX9_highSide_26 (v := 1) (by decide) ?_
    refine mg_istore_n (pc := 27) C (lv' := [(3, .int 1), (2, .int 0), (1, .int (-1000009)), (0, .ref a_t)]) dX9_highSide_27 rfl (by decide) rfl ?_
    refine mg_iconst (pc := 28) C dX9_highSide_28 (v := 0) (by decide) ?_
    refine mg_istore (pc := 29) C (lv' := [(4, .int 0), (3, .int 1), (2, .int 0), (1, .int (-1000009)), (0, .ref a_t)]) dX9_highSide_29 (by decide) rfl ?_
    obtain ⟨q11, h12, hf⟩ := mg_b hf
    refine mg_lv [4, 3, 2, 1, 0] rfl ?_
    refine L31  fuel (-1000009) 0 1 0 q11 h12 ?_
    refine mg_iload_n (pc := 138) C 0 dX9_highSide_138 rfl rfl ?_
    obtain rfl := Option.some.inj hf
    exact E _ _ dX9_highSide_139
  refine mg_aload_n (pc := 0) C 0 dX9_highSide_0 rfl rfl ?_
  refine mg_get (pc := 1) C 0 rfl rfl inX9 0 (by decide) wm_874 rfl rfl dX9_highSide_1 ?_
  refine mg_iconst (pc := 4) C dX9_highSide_4 (v := 3) (by decide) ?_
  refine mg_ialdK (pc := 5) C 1 3 rfl dX9_highSide_5 (by decide) (by decide) ?_
  refine mg_if_ne (pc := 6) (tgt := 21) C dX9_highSide_6 (by decide) hf (fun hf => ?_) (fun hf => ?_)
  · exact J21 () hf
  · refine mg_aload_n (pc := 9) C 0 dX9_highSide_9 rfl rfl ?_
    refine mg_get (pc := 10) C 0 rfl rfl inX9 0 (by decide) wm_874 rfl rfl dX9_highSide_10 ?_
    refine mg_iconst (pc := 13) C dX9_highSide_13 (v := 4) (by decide) ?_
    refine mg_ialdK (pc := 14) C 1 4 rfl dX9_highSide_14 (by decide) (by decide) ?_
    refine mg_if_ne (pc := 15) (tgt := 21) C dX9_highSide_15 (by decide) hf (fun hf => ?_) (fun hf => ?_)
    · exact J21 () hf
    · refine mg_ldc (pc := 18) C wm_964 dX9_highSide_18 ?_
      obtain rfl := Option.some.inj hf
      exact E _ _ dX9_highSide_20
abbrev w_X9_undo (k : mg_K) (a_t a_t_s a_t_past a_t_aside a_t_text a_t_told a_t_bottoms a_t_planned : Nat) (v_t_pasts : Int32) (v_t_typed : Int32) (v_t_at : Int32) (v_t_kind : Int32) (v_t_from : Int32) (v_t_value : Int32) (v_t_planLength : Int32) (v_t_planAmount : Int32) (v_t_past : Nat → Int32) (v_t_s : Nat → Int32) : va_W := [(a_t, .inr (9, [.ref a_t_s, .ref a_t_past, .ref a_t_aside, .int v_t_pasts, .ref a_t_text, .int v_t_typed, .int v_t_at, .int v_t_kind, .int v_t_from, .int v_t_value, .ref a_t_told, .ref a_t_bottoms, .ref a_t_planned, .int v_t_planLength, .int v_t_planAmount])), (a_t_past, .inl (k.2.1, 1362, .inl v_t_past)), (a_t_s, .inl (k.2.1, 227, .inl v_t_s))]
def f_X9_undo_L22 (v_t_pasts : Int32) (v_t_past : Nat → Int32) : Nat → Int32 → (Nat → Int32) → Option (Int32 × (Nat → Int32))
  | 0, _, _ => none
  | n_ + 1, x1, v_t_s => if 227 ≤ x1 then (some ((x1, v_t_s))) else (if mg_ix ((227 * v_t_pasts) + x1) 1362 = true then (if mg_ix x1 227 = true then (f_X9_undo_L22 v_t_pasts v_t_past n_ (x1 + 1) (upd v_t_s (Int32.toNatClampNeg x1) (v_t_past (Int32.toNatClampNeg ((227 * v_t_pasts) + x1))))) else none) else none)
def f_X9_undo (fuel : Nat) (v_t_pasts : Int32) (v_t_past : Nat → Int32) (v_t_s : Nat → Int32) : Option (Int32 × Int32 × (Nat → Int32)) := if v_t_pasts = 0 then (some ((-1000002), v_t_pasts, v_t_s)) else ((f_X9_undo_L22 (v_t_pasts - 1) v_t_past fuel 0 v_t_s).bind (fun q1 => some (v_t_pasts - 1, v_t_pasts - 1, q1.2)))
theorem Y_X9_undo : mg_Y yX9_undo cX9_undo 2 (some .int) 0 := ⟨wm_1260, wm_1261, wm_11, wm_1262, ⟨by decide +kernel, by decide +kernel, by decide +kernel⟩, by decide⟩
set_option maxRecDepth 100000 in
set_option maxHeartbeats 4000000 in
theorem c_X9_undo (l : Launch) (k : mg_K) (a_t a_t_s a_t_past a_t_aside a_t_text a_t_told a_t_bottoms a_t_planned : Nat) (v_t_pasts : Int32) (v_t_typed : Int32) (v_t_at : Int32) (v_t_kind : Int32) (v_t_from : Int32) (v_t_value : Int32) (v_t_planLength : Int32) (v_t_planAmount : Int32) (v_t_past : Nat → Int32) (v_t_s : Nat → Int32) (fuel : Nat) (q : Int32 × Int32 × (Nat → Int32)) (hf : f_X9_undo fuel v_t_pasts v_t_past v_t_s = some q) : mg_M l yX9_undo cX9_undo 2 (some .int) 0 k [.ref a_t] (w_X9_undo k a_t a_t_s a_t_past a_t_aside a_t_text a_t_told a_t_bottoms a_t_planned v_t_pasts v_t_typed v_t_at v_t_kind v_t_from v_t_value v_t_planLength v_t_planAmount v_t_past v_t_s) (w_X9_undo k a_t a_t_s a_t_past a_t_aside a_t_text a_t_told a_t_bottoms a_t_planned q.2.1 v_t_typed v_t_at v_t_kind v_t_from v_t_value v_t_planLength v_t_planAmount v_t_past q.2.2) (some (.int q.1)) := by
  refine mg_Mi RX9 [(0, .ref a_t)] (by decide +kernel) rfl rfl (Nat.le_of_ble_eq_true rfl) ?_
  intro z A Q hl C E
  subst hl
  unfold f_X9_undo at hf
  have L22 : ∀ (v_t_pasts : Int32) (n_ : Nat) (x1 : Int32) (v_t_s : Nat → Int32) (q_ : Int32 × (Nat → Int32)), f_X9_undo_L22 v_t_pasts v_t_past n_ x1 v_t_s = some q_ → (mg z k A 2 0 0 Q (w_X9_undo k a_t a_t_s a_t_past a_t_aside a_t_text a_t_told a_t_bottoms a_t_planned v_t_pasts v_t_typed v_t_at v_t_kind v_t_from v_t_value v_t_planLength v_t_planAmount v_t_past q_.2) [(0, .ref a_t)] 56 []) → mg z k A 2 0 0 Q (w_X9_undo k a_t a_t_s a_t_past a_t_aside a_t_text a_t_told a_t_bottoms a_t_planned v_t_pasts v_t_typed v_t_at v_t_kind v_t_from v_t_value v_t_planLength v_t_planAmount v_t_past v_t_s) [(0, .ref a_t), (1, .int x1)] 22 [] := by
    intro v_t_pasts n_
    induction n_ with
    | zero => intro x1 v_t_s q_ hf; exact mg_no (show none = some q_ from hf)
    | succ n_ ih =>
      intro x1 v_t_s q_ hf X0
      rw [f_X9_undo_L22] at hf
      refine mg_iload_n (pc := 22) C 1 dX9_undo_22 rfl rfl ?_
      refine mg_sipush (pc := 23) C dX9_undo_23 (v := 227) (by decide) ?_
      refine mg_icmp_ge (pc := 26) (tgt := 56) C dX9_undo_26 (by decide) hf (fun hf => ?_) (fun hf => ?_)
      · obtain rfl := Option.some.inj hf
        refine mg_lv [0] rfl ?_
        exact X0
      · refine mg_aload_n (pc := 29) C 0 dX9_undo_29 rfl rfl ?_
        refine mg_get (pc := 30) C 0 rfl rfl inX9 0 (by decide) wm_874 rfl rfl dX9_undo_30 ?_
        refine mg_iload_n (pc := 33) C 1 dX9_undo_33 rfl rfl ?_
        refine mg_aload_n (pc := 34) C 0 dX9_undo_34 rfl rfl ?_
        refine mg_get (pc := 35) C 0 rfl rfl inX9 1 (by decide) wm_875 rfl rfl dX9_undo_35 ?_
        refine mg_sipush (pc := 38) C dX9_undo_38 (v := 227) (by decide) ?_
        refine mg_aload_n (pc := 41) C 0 dX9_undo_41 rfl rfl ?_
        refine mg_get (pc := 42) C 0 rfl rfl inX9 3 (by decide) wm_877 rfl rfl dX9_undo_42 ?_
        refine mg_imul (pc := 45) C dX9_undo_45 ?_
        refine mg_iload_n (pc := 46) C 1 dX9_undo_46 rfl rfl ?_
        refine mg_iadd (pc := 47) C dX9_undo_47 ?_
        refine mg_iald (pc := 48) C 1 rfl dX9_undo_48 hf (fun hf => ?_)
        refine mg_iast (pc := 49) C (w2 := w_X9_undo k a_t a_t_s a_t_past a_t_aside a_t_text a_t_told a_t_bottoms a_t_planned v_t_pasts v_t_typed v_t_at v_t_kind v_t_from v_t_value v_t_planLength v_t_planAmount v_t_past (upd v_t_s (Int32.toNatClampNeg x1) (v_t_past (Int32.toNatClampNeg ((227 * v_t_pasts) + x1))))) 2 rfl dX9_undo_49 hf rfl (fun hf => ?_)
        refine mg_iinc (pc := 50) C (c := 1) (lv' := [(1, .int (x1 + 1)), (0, .ref a_t)]) 1 dX9_undo_50 rfl (by decide) (by decide) rfl ?_
        refine mg_goto (pc := 53) (tgt := 22) C dX9_undo_53 (by decide) ?_
        refine mg_lv [1, 0] rfl ?_
        exact ih (x1 + 1) (upd v_t_s (Int32.toNatClampNeg x1) (v_t_past (Int32.toNatClampNeg ((227 * v_t_pasts) + x1)))) _ hf X0
  refine mg_aload_n (pc := 0) C 0 dX9_undo_0 rfl rfl ?_
  refine mg_get (pc := 1) C 0 rfl rfl inX9 3 (by decide) wm_877 rfl rfl dX9_undo_1 ?_
  refine mg_if_ne (pc := 4) (tgt := 10) C dX9_undo_4 (by decide) hf (fun hf => ?_) (fun hf => ?_)
  · refine mg_aload_n (pc := 10) C 0 dX9_undo_10 rfl rfl ?_
    refine mg_dup (pc := 11) C dX9_undo_11 rfl ?_
    refine mg_get (pc := 12) C 0 rfl rfl inX9 3 (by decide) wm_877 rfl rfl dX9_undo_12 ?_
    refine mg_iconst (pc := 15) C dX9_undo_15 (v := 1) (by decide) ?_
    refine mg_isub (pc := 16) C dX9_undo_16 ?_
    refine mg_puti (pc := 17) C (w2 := w_X9_undo k a_t a_t_s a_t_past a_t_aside a_t_text a_t_told a_t_bottoms a_t_planned (v_t_pasts - 1) v_t_typed v_t_at v_t_kind v_t_from v_t_value v_t_planLength v_t_planAmount v_t_past v_t_s) 0 rfl rfl inX9 3 (by decide) wm_877 rfl tyX9 tyX9_ok nmX9 rfl (by decide +kernel) (Nat.le_of_ble_eq_true rfl) rfl dX9_undo_17 ?_
    refine mg_iconst (pc := 20) C dX9_undo_20 (v := 0) (by decide) ?_
    refine mg_istore_n (pc := 21) C (lv' := [(1, .int 0), (0, .ref a_t)]) dX9_undo_21 rfl (by decide) rfl ?_
    obtain ⟨q1, h2, hf⟩ := mg_b hf
    refine mg_lv [1, 0] rfl ?_
    refine L22 (v_t_pasts - 1) fuel 0 v_t_s q1 h2 ?_
    refine mg_aload_n (pc := 56) C 0 dX9_undo_56 rfl rfl ?_
    refine mg_get (pc := 57) C 0 rfl rfl inX9 3 (by decide) wm_877 rfl rfl dX9_undo_57 ?_
    obtain rfl := Option.some.inj hf
    exact E _ _ dX9_undo_60
  · refine mg_ldc (pc := 7) C wm_1036 dX9_undo_7 ?_
    obtain rfl := Option.some.inj hf
    exact E _ _ dX9_undo_9
