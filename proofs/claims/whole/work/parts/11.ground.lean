abbrev w_X2_addBelow (k : mg_K) (a_t a_t_layers a_t_layers_values : Nat) (v_t_layers_count : Int32) (v_t_layers_values : Nat → Int32) : va_W := [(a_t, .inr (2, [.ref a_t_layers])), (a_t_layers, .inr (7, [.int 8, .ref a_t_layers_values, .int v_t_layers_count])), (a_t_layers_values, .inl (k.2.1, 24, .inl v_t_layers_values))]
def f_X2_addBelow (v_t_layers_count : Int32) (v_t_layers_values : Nat → Int32) (x1 : Int32) (x2 : Int32) (x3 : Int32) : Option (Int32 × (Nat → Int32)) := if v_t_layers_count = 0 then ((f_X7_insert 24 8 v_t_layers_count v_t_layers_values v_t_layers_count (0 + x1) x2 x3).bind (fun q5 => some (q5.1, q5.2))) else ((f_X7_get 24 v_t_layers_count v_t_layers_values (v_t_layers_count - 1) 0).bind (fun q1 => (f_X7_insert 24 8 v_t_layers_count v_t_layers_values v_t_layers_count (q1 + x1) x2 x3).bind (fun q3 => some (q3.1, q3.2))))
theorem Y_X2_addBelow : mg_Y yX2_addBelow cX2_addBelow 5 none 3 := ⟨wm_456, wm_457, wm_5, wm_458, ⟨by decide +kernel, by decide +kernel, by decide +kernel⟩, by decide⟩
set_option maxRecDepth 100000 in
set_option maxHeartbeats 4000000 in
theorem c_X2_addBelow (l : Launch) (k : mg_K) (a_t a_t_layers a_t_layers_values : Nat) (v_t_layers_count : Int32) (v_t_layers_values : Nat → Int32) (x1 : Int32) (x2 : Int32) (x3 : Int32) (q : Int32 × (Nat → Int32)) (hf : f_X2_addBelow v_t_layers_count v_t_layers_values x1 x2 x3 = some q) : mg_M l yX2_addBelow cX2_addBelow 5 none 2 k [.ref a_t, .int x1, .int x2, .int x3] (w_X2_addBelow k a_t a_t_layers a_t_layers_values v_t_layers_count v_t_layers_values) (w_X2_addBelow k a_t a_t_layers a_t_layers_values q.1 q.2) none := by
  refine mg_Mv RX2 [(0, .ref a_t), (1, .int x1), (2, .int x2), (3, .int x3)] (by decide +kernel) rfl rfl (Nat.le_of_ble_eq_true rfl) ?_
  intro z A Q hl C E
  subst hl
  unfold f_X2_addBelow at hf
  refine mg_aload_n (pc := 0) C 0 dX2_addBelow_0 rfl rfl ?_
  refine mg_get (pc := 1) C 0 rfl rfl inX2 0 (by decide) wm_94 rfl rfl dX2_addBelow_1 ?_
  refine mg_get (pc := 4) C 1 rfl rfl inX7 2 (by decide) wm_84 rfl rfl dX2_addBelow_4 ?_
  refine mg_if_ne (pc := 7) (tgt := 14) C dX2_addBelow_7 (by decide) hf (fun hf => ?_) (fun hf => ?_)
  · refine mg_aload_n (pc := 14) C 0 dX2_addBelow_14 rfl rfl ?_
    refine mg_get (pc := 15) C 0 rfl rfl inX2 0 (by decide) wm_94 rfl rfl dX2_addBelow_15 ?_
    refine mg_aload_n (pc := 18) C 0 dX2_addBelow_18 rfl rfl ?_
    refine mg_get (pc := 19) C 0 rfl rfl inX2 0 (by decide) wm_94 rfl rfl dX2_addBelow_19 ?_
    refine mg_get (pc := 22) C 1 rfl rfl inX7 2 (by decide) wm_84 rfl rfl dX2_addBelow_22 ?_
    refine mg_iconst (pc := 25) C dX2_addBelow_25 (v := 1) (by decide) ?_
    refine mg_isub (pc := 26) C dX2_addBelow_26 ?_
    refine mg_iconst (pc := 27) C dX2_addBelow_27 (v := 0) (by decide) ?_
    obtain ⟨q1, h2, hf⟩ := mg_b hf
    refine mg_callV (pc := 28) C (w2 := w_X2_addBelow k a_t a_t_layers a_t_layers_values v_t_layers_count v_t_layers_values) (c_X7_get z.2.1 k a_t_layers a_t_layers_values 24 8 v_t_layers_count v_t_layers_values (v_t_layers_count - 1) 0 q1 h2) Y_X7_get wm_459 (by decide) rfl 1 rfl rfl rfl [1, 2] rfl (by decide) rfl [none, some 0, some 1] (by decide) rfl (Nat.le_of_ble_eq_true rfl) rfl dX2_addBelow_28 ?_
    refine mg_istore (pc := 31) C (lv' := [(4, .int q1), (0, .ref a_t), (1, .int x1), (2, .int x2), (3, .int x3)]) dX2_addBelow_31 (by decide) rfl ?_
    refine mg_aload_n (pc := 33) C 1 dX2_addBelow_33 rfl rfl ?_
    refine mg_get (pc := 34) C 0 rfl rfl inX2 0 (by decide) wm_94 rfl rfl dX2_addBelow_34 ?_
    refine mg_aload_n (pc := 37) C 1 dX2_addBelow_37 rfl rfl ?_
    refine mg_get (pc := 38) C 0 rfl rfl inX2 0 (by decide) wm_94 rfl rfl dX2_addBelow_38 ?_
    refine mg_get (pc := 41) C 1 rfl rfl inX7 2 (by decide) wm_84 rfl rfl dX2_addBelow_41 ?_
    refine mg_iload (pc := 44) C 0 dX2_addBelow_44 rfl ?_
    refine mg_iload_n (pc := 46) C 2 dX2_addBelow_46 rfl rfl ?_
    refine mg_iadd (pc := 47) C dX2_addBelow_47 ?_
    refine mg_iload_n (pc := 48) C 3 dX2_addBelow_48 rfl rfl ?_
    refine mg_iload_n (pc := 49) C 4 dX2_addBelow_49 rfl rfl ?_
    obtain ⟨q3, h4, hf⟩ := mg_b hf
    refine mg_callV (pc := 50) C (w2 := w_X2_addBelow k a_t a_t_layers a_t_layers_values q3.1 q3.2) (c_X7_insert z.2.1 k a_t_layers a_t_layers_values 24 8 v_t_layers_count v_t_layers_values v_t_layers_count (q1 + x1) x2 x3 q3 h4) Y_X7_insert wm_460 (by decide) rfl 1 rfl rfl rfl [1, 2] rfl (by decide) rfl [none, some 0, some 1] (by decide) rfl (Nat.le_of_ble_eq_true rfl) rfl dX2_addBelow_50 ?_
    obtain rfl := Option.some.inj hf
    exact E _ _ dX2_addBelow_53
  · refine mg_iconst (pc := 10) C dX2_addBelow_10 (v := 0) (by decide) ?_
    refine mg_goto (pc := 11) (tgt := 31) C dX2_addBelow_11 (by decide) ?_
    refine mg_istore (pc := 31) C (lv' := [(4, .int 0), (0, .ref a_t), (1, .int x1), (2, .int x2), (3, .int x3)]) dX2_addBelow_31 (by decide) rfl ?_
    refine mg_aload_n (pc := 33) C 1 dX2_addBelow_33 rfl rfl ?_
    refine mg_get (pc := 34) C 0 rfl rfl inX2 0 (by decide) wm_94 rfl rfl dX2_addBelow_34 ?_
    refine mg_aload_n (pc := 37) C 1 dX2_addBelow_37 rfl rfl ?_
    refine mg_get (pc := 38) C 0 rfl rfl inX2 0 (by decide) wm_94 rfl rfl dX2_addBelow_38 ?_
    refine mg_get (pc := 41) C 1 rfl rfl inX7 2 (by decide) wm_84 rfl rfl dX2_addBelow_41 ?_
    refine mg_iload (pc := 44) C 0 dX2_addBelow_44 rfl ?_
    refine mg_iload_n (pc := 46) C 2 dX2_addBelow_46 rfl rfl ?_
    refine mg_iadd (pc := 47) C dX2_addBelow_47 ?_
    refine mg_iload_n (pc := 48) C 3 dX2_addBelow_48 rfl rfl ?_
    refine mg_iload_n (pc := 49) C 4 dX2_addBelow_49 rfl rfl ?_
    obtain ⟨q5, h6, hf⟩ := mg_b hf
    refine mg_callV (pc := 50) C (w2 := w_X2_addBelow k a_t a_t_layers a_t_layers_values q5.1 q5.2) (c_X7_insert z.2.1 k a_t_layers a_t_layers_values 24 8 v_t_layers_count v_t_layers_values v_t_layers_count (0 + x1) x2 x3 q5 h6) Y_X7_insert wm_460 (by decide) rfl 1 rfl rfl rfl [1, 2] rfl (by decide) rfl [none, some 0, some 1] (by decide) rfl (Nat.le_of_ble_eq_true rfl) rfl dX2_addBelow_50 ?_
    obtain rfl := Option.some.inj hf
    exact E _ _ dX2_addBelow_53
abbrev w_X2_layerAt (k : mg_K) (a_t a_t_layers a_t_layers_values : Nat) (v_t_layers_count : Int32) (v_t_layers_values : Nat → Int32) : va_W := [(a_t, .inr (2, [.ref a_t_layers])), (a_t_layers, .inr (7, [.int 8, .ref a_t_layers_values, .int v_t_layers_count])), (a_t_layers_values, .inl (k.2.1, 24, .inl v_t_layers_values))]
def f_X2_layerAt_L2 (v_t_layers_count : Int32) (v_t_layers_values : Nat → Int32) (x1 : Int32) : Nat → Int32 → Option (Nat × Int32)
  | 0, _ => none
  | n_ + 1, x2 => if v_t_layers_count ≤ x2 then (some (0, x2)) else (if mg_ix (x2 * 3) 24 = true then (if (v_t_layers_values (Int32.toNatClampNeg (x2 * 3))) ≤ x1 then (f_X2_layerAt_L2 v_t_layers_count v_t_layers_values x1 n_ (x2 + 1)) else (some (1, x2))) else none)
def f_X2_layerAt (fuel : Nat) (v_t_layers_count : Int32) (v_t_layers_values : Nat → Int32) (x1 : Int32) : Option (Int32) := (f_X2_layerAt_L2 v_t_layers_count v_t_layers_values x1 fuel 0).bind (fun q1 => if q1.1 = 0 then (some (-1000009)) else (some q1.2))
theorem Y_X2_layerAt : mg_Y yX2_layerAt cX2_layerAt 3 (some .int) 1 := ⟨wm_543, wp_13, wm_5, wm_544, ⟨by decide +kernel, by decide +kernel, by decide +kernel⟩, by decide⟩
set_option maxRecDepth 100000 in
set_option maxHeartbeats 4000000 in
theorem c_X2_layerAt (l : Launch) (k : mg_K) (a_t a_t_layers a_t_layers_values : Nat) (v_t_layers_count : Int32) (v_t_layers_values : Nat → Int32) (fuel : Nat) (x1 : Int32) (q : Int32) (hf : f_X2_layerAt fuel v_t_layers_count v_t_layers_values x1 = some q) : mg_M l yX2_layerAt cX2_layerAt 3 (some .int) 0 k [.ref a_t, .int x1] (w_X2_layerAt k a_t a_t_layers a_t_layers_values v_t_layers_count v_t_layers_values) (w_X2_layerAt k a_t a_t_layers a_t_layers_values v_t_layers_count v_t_layers_values) (some (.int q)) := by
  refine mg_Mi RX2 [(0, .ref a_t), (1, .int x1)] (by decide +kernel) rfl rfl (Nat.le_of_ble_eq_true rfl) ?_
  intro z A Q hl C E
  subst hl
  unfold f_X2_layerAt at hf
  have L2 : ∀ (x1 : Int32) (n_ : Nat) (x2 : Int32) (q_ : Nat × Int32), f_X2_layerAt_L2 v_t_layers_count v_t_layers_values x1 n_ x2 = some q_ → (q_.1 = 0 → mg z k A 3 0 0 Q (w_X2_layerAt k a_t a_t_layers a_t_layers_values v_t_layers_count v_t_layers_values) [] 36 []) → (q_.1 = 1 → mg z k A 3 0 0 Q (w_X2_layerAt k a_t a_t_layers a_t_layers_values v_t_layers_count v_t_layers_values) [(2, .int q_.2)] 28 []) → mg z k A 3 0 0 Q (w_X2_layerAt k a_t a_t_layers a_t_layers_values v_t_layers_count v_t_layers_values) [(0, .ref a_t), (1, .int x1), (2, .int x2)] 2 [] := by
    intro x1 n_
    induction n_ with
    | zero => intro x2 q_ hf; exact mg_no (show none = some q_ from hf)
    | succ n_ ih =>
      intro x2 q_ hf X0 X1
      rw [f_X2_layerAt_L2] at hf
      refine mg_iload_n (pc := 2) C 2 dX2_layerAt_2 rfl rfl ?_
      refine mg_aload_n (pc := 3) C 0 dX2_layerAt_3 rfl rfl ?_
      refine mg_get (pc := 4) C 0 rfl rfl inX2 0 (by decide) wm_94 rfl rfl dX2_layerAt_4 ?_
      refine mg_get (pc := 7) C 1 rfl rfl inX7 2 (by decide) wm_84 rfl rfl dX2_layerAt_7 ?_
      refine mg_icmp_ge (pc := 10) (tgt := 36) C dX2_layerAt_10 (by decide) hf (fun hf => ?_) (fun hf => ?_)
      · obtain rfl := Option.some.inj hf
        refine mg_lv [] rfl ?_
        exact (X0 rfl)
      · refine mg_iload_n (pc := 13) C 1 dX2_layerAt_13 rfl rfl ?_
        refine mg_aload_n (pc := 14) C 0 dX2_layerAt_14 rfl rfl ?_
        refine mg_get (pc := 15) C 0 rfl rfl inX2 0 (by decide) wm_94 rfl rfl dX2_layerAt_15 ?_
        refine mg_get (pc := 18) C 1 rfl rfl inX7 1 (by decide) wm_81 rfl rfl dX2_layerAt_18 ?_
        refine mg_iload_n (pc := 21) C 2 dX2_layerAt_21 rfl rfl ?_
        refine mg_iconst (pc := 22) C dX2_layerAt_22 (v := 3) (by decide) ?_
        refine mg_imul (pc := 23) C dX2_layerAt_23 ?_
        refine mg_iald (pc := 24) C 2 rfl dX2_layerAt_24 hf (fun hf => ?_)
        refine mg_icmp_ge (pc := 25) (tgt := 30) C dX2_layerAt_25 (by decide) hf (fun hf => ?_) (fun hf => ?_)
        · refine mg_iinc (pc := 30) C (c := 1) (lv' := [(2, .int (x2 + 1)), (0, .ref a_t), (1, .int x1)]) 2 dX2_layerAt_30 rfl (by decide) (by decide) rfl ?_
          refine mg_goto (pc := 33) (tgt := 2) C dX2_layerAt_33 (by decide) ?_
          refine mg_lv [1, 2, 0] rfl ?_
          exact ih (x2 + 1) _ hf X0 X1
        · obtain rfl := Option.some.inj hf
          refine mg_lv [2] rfl ?_
          exact (X1 rfl)
  refine mg_iconst (pc := 0) C dX2_layerAt_0 (v := 0) (by decide) ?_
  refine mg_istore_n (pc := 1) C (lv' := [(2, .int 0), (0, .ref a_t), (1, .int x1)]) dX2_layerAt_1 rfl (by decide) rfl ?_
  obtain ⟨q1, h2, hf⟩ := mg_b hf
  refine mg_lv [1, 2, 0] rfl ?_
  refine L2 x1 fuel 0 q1 h2 (fun e3 => ?_) (fun e4 => ?_)
  · have hf := mg_t e3 hf
    refine mg_ldc (pc := 36) C wm_545 dX2_layerAt_36 ?_
    obtain rfl := Option.some.inj hf
    exact E _ _ dX2_layerAt_38
  · have hf := mg_f (by rw [e4]; decide) hf
    refine mg_iload_n (pc := 28) C 0 dX2_layerAt_28 rfl rfl ?_
    obtain rfl := Option.some.inj hf
    exact E _ _ dX2_layerAt_29
abbrev w_X2_strengthAt (k : mg_K) (a_t a_t_layers a_t_layers_values : Nat) (v_t_layers_count : Int32) (v_t_layers_values : Nat → Int32) : va_W := [(a_t, .inr (2, [.ref a_t_layers])), (a_t_layers, .inr (7, [.int 8, .ref a_t_layers_values, .int v_t_layers_count])), (a_t_layers_values, .inl (k.2.1, 24, .inl v_t_layers_values))]
def f_X2_strengthAt (fuel : Nat) (v_t_layers_count : Int32) (v_t_layers_values : Nat → Int32) (x1 : Int32) : Option (Int32) := (f_X2_layerAt fuel v_t_layers_count v_t_layers_values x1).bind (fun q1 => if q1 = (-1000009) then (some 60) else ((f_X7_get 24 v_t_layers_count v_t_layers_values q1 1).bind (fun q3 => some q3)))
theorem Y_X2_strengthAt : mg_Y yX2_strengthAt cX2_strengthAt 3 (some .int) 1 := ⟨wm_538, wm_539, wm_5, wm_540, ⟨by decide +kernel, by decide +kernel, by decide +kernel⟩, by decide⟩
set_option maxRecDepth 100000 in
set_option maxHeartbeats 4000000 in
theorem c_X2_strengthAt (l : Launch) (k : mg_K) (a_t a_t_layers a_t_layers_values : Nat) (v_t_layers_count : Int32) (v_t_layers_values : Nat → Int32) (fuel : Nat) (x1 : Int32) (q : Int32) (hf : f_X2_strengthAt fuel v_t_layers_count v_t_layers_values x1 = some q) : mg_M l yX2_strengthAt cX2_strengthAt 3 (some .int) 1 k [.ref a_t, .int x1] (w_X2_strengthAt k a_t a_t_layers a_t_layers_values v_t_layers_count v_t_layers_values) (w_X2_strengthAt k a_t a_t_layers a_t_layers_values v_t_layers_count v_t_layers_values) (some (.int q)) := by
  refine mg_Mi RX2 [(0, .ref a_t), (1, .int x1)] (by decide +kernel) rfl rfl (Nat.le_of_ble_eq_true rfl) ?_
  intro z A Q hl C E
  subst hl
  unfold f_X2_strengthAt at hf
  refine mg_aload_n (pc := 0) C 0 dX2_strengthAt_0 rfl rfl ?_
  refine mg_iload_n (pc := 1) C 1 dX2_strengthAt_1 rfl rfl ?_
  obtain ⟨q1, h2, hf⟩ := mg_b hf
  refine mg_callV (pc := 2) C (w2 := w_X2_strengthAt k a_t a_t_layers a_t_layers_values v_t_layers_count v_t_layers_values) (c_X2_layerAt z.2.1 k a_t a_t_layers a_t_layers_values v_t_layers_count v_t_layers_values fuel x1 q1 h2) Y_X2_layerAt wm_541 (by decide) rfl 0 rfl rfl rfl [0, 1, 2] rfl (by decide) rfl [some 0, some 1, some 2] (by decide) rfl (Nat.le_of_ble_eq_true rfl) rfl dX2_strengthAt_2 ?_
  refine mg_istore_n (pc := 5) C (lv' := [(2, .int q1), (0, .ref a_t), (1, .int x1)]) dX2_strengthAt_5 rfl (by decide) rfl ?_
  refine mg_iload_n (pc := 6) C 0 dX2_strengthAt_6 rfl rfl ?_
  refine mg_ldc (pc := 7) C wm_545 dX2_strengthAt_7 ?_
  refine mg_icmp_ne (pc := 9) (tgt := 17) C dX2_strengthAt_9 (by decide) hf (fun hf => ?_) (fun hf => ?_)
  · refine mg_aload_n (pc := 17) C 1 dX2_strengthAt_17 rfl rfl ?_
    refine mg_get (pc := 18) C 0 rfl rfl inX2 0 (by decide) wm_94 rfl rfl dX2_strengthAt_18 ?_
    refine mg_iload_n (pc := 21) C 0 dX2_strengthAt_21 rfl rfl ?_
    refine mg_iconst (pc := 22) C dX2_strengthAt_22 (v := 1) (by decide) ?_
    obtain ⟨q3, h4, hf⟩ := mg_b hf
    refine mg_callV (pc := 23) C (w2 := w_X2_strengthAt k a_t a_t_layers a_t_layers_values v_t_layers_count v_t_layers_values) (c_X7_get z.2.1 k a_t_layers a_t_layers_values 24 8 v_t_layers_count v_t_layers_values q1 1 q3 h4) Y_X7_get wm_459 (by decide) rfl 1 rfl rfl rfl [1, 2] rfl (by decide) rfl [none, some 0, some 1] (by decide) rfl (Nat.le_of_ble_eq_true rfl) rfl dX2_strengthAt_23 ?_
    obtain rfl := Option.some.inj hf
    exact E _ _ dX2_strengthAt_26
  · refine mg_bipush (pc := 12) C dX2_strengthAt_12 (v := 60) (by decide) ?_
    refine mg_goto (pc := 14) (tgt := 26) C dX2_strengthAt_14 (by decide) ?_
    obtain rfl := Option.some.inj hf
    exact E _ _ dX2_strengthAt_26
abbrev w_X2_frictionAt (k : mg_K) (a_t a_t_layers a_t_layers_values : Nat) (v_t_layers_count : Int32) (v_t_layers_values : Nat → Int32) : va_W := [(a_t, .inr (2, [.ref a_t_layers])), (a_t_layers, .inr (7, [.int 8, .ref a_t_layers_values, .int v_t_layers_count])), (a_t_layers_values, .inl (k.2.1, 24, .inl v_t_layers_values))]
def f_X2_frictionAt (fuel : Nat) (v_t_layers_count : Int32) (v_t_layers_values : Nat → Int32) (x1 : Int32) : Option (Int32) := (f_X2_layerAt fuel v_t_layers_count v_t_layers_values x1).bind (fun q1 => if q1 = (-1000009) then (some 9) else ((f_X7_get 24 v_t_layers_count v_t_layers_values q1 2).bind (fun q3 => some q3)))
theorem Y_X2_frictionAt : mg_Y yX2_frictionAt cX2_frictionAt 3 (some .int) 1 := ⟨wm_547, wm_548, wm_5, wm_549, ⟨by decide +kernel, by decide +kernel, by decide +kernel⟩, by decide⟩
set_option maxRecDepth 100000 in
set_option maxHeartbeats 4000000 in
theorem c_X2_frictionAt (l : Launch) (k : mg_K) (a_t a_t_layers a_t_layers_values : Nat) (v_t_layers_count : Int32) (v_t_layers_values : Nat → Int32) (fuel : Nat) (x1 : Int32) (q : Int32) (hf : f_X2_frictionAt fuel v_t_layers_count v_t_layers_values x1 = some q) : mg_M l yX2_frictionAt cX2_frictionAt 3 (some .int) 1 k [.ref a_t, .int x1] (w_X2_frictionAt k a_t a_t_layers a_t_layers_values v_t_layers_count v_t_layers_values) (w_X2_frictionAt k a_t a_t_layers a_t_layers_values v_t_layers_count v_t_layers_values) (some (.int q)) := by
  refine mg_Mi RX2 [(0, .ref a_t), (1, .int x1)] (by decide +kernel) rfl rfl (Nat.le_of_ble_eq_true rfl) ?_
  intro z A Q hl C E
  subst hl
  unfold f_X2_frictionAt at hf
  refine mg_aload_n (pc := 0) C 0 dX2_frictionAt_0 rfl rfl ?_
  refine mg_iload_n (pc := 1) C 1 dX2_frictionAt_1 rfl rfl ?_
  obtain ⟨q1, h2, hf⟩ := mg_b hf
  refine mg_callV (pc := 2) C (w2 := w_X2_frictionAt k a_t a_t_layers a_t_layers_values v_t_layers_count v_t_layers_values) (c_X2_layerAt z.2.1 k a_t a_t_layers a_t_layers_values v_t_layers_count v_t_layers_values fuel x1 q1 h2) Y_X2_layerAt wm_541 (by decide) rfl 0 rfl rfl rfl [0, 1, 2] rfl (by decide) rfl [some 0, some 1, some 2] (by decide) rfl (Nat.le_of_ble_eq_true rfl) rfl dX2_frictionAt_2 ?_
  refine mg_istore_n (pc := 5) C (lv' := [(2, .int q1), (0, .ref a_t), (1, .int x1)]) dX2_frictionAt_5 rfl (by decide) rfl ?_
  refine mg_iload_n (pc := 6) C 0 dX2_frictionAt_6 rfl rfl ?_
  refine mg_ldc (pc := 7) C wm_545 dX2_frictionAt_7 ?_
  refine mg_icmp_ne (pc := 9) (tgt := 17) C dX2_frictionAt_9 (by decide) hf (fun hf => ?_) (fun hf => ?_)
  · refine mg_aload_n (pc := 17) C 1 dX2_frictionAt_17 rfl rfl ?_
    refine mg_get (pc := 18) C 0 rfl rfl inX2 0 (by decide) wm_94 rfl rfl dX2_frictionAt_18 ?_
    refine mg_iload_n (pc := 21) C 0 dX2_frictionAt_21 rfl rfl ?_
    refine mg_iconst (pc := 22) C dX2_frictionAt_22 (v := 2) (by decide) ?_
    obtain ⟨q3, h4, hf⟩ := mg_b hf
    refine mg_callV (pc := 23) C (w2 := w_X2_frictionAt k a_t a_t_layers a_t_layers_values v_t_layers_count v_t_layers_values) (c_X7_get z.2.1 k a_t_layers a_t_layers_values 24 8 v_t_layers_count v_t_layers_values q1 2 q3 h4) Y_X7_get wm_459 (by decide) rfl 1 rfl rfl rfl [1, 2] rfl (by decide) rfl [none, some 0, some 1] (by decide) rfl (Nat.le_of_ble_eq_true rfl) rfl dX2_frictionAt_23 ?_
    obtain rfl := Option.some.inj hf
    exact E _ _ dX2_frictionAt_26
  · refine mg_bipush (pc := 12) C dX2_frictionAt_12 (v := 9) (by decide) ?_
    refine mg_goto (pc := 14) (tgt := 26) C dX2_frictionAt_14 (by decide) ?_
    obtain rfl := Option.some.inj hf
    exact E _ _ dX2_frictionAt_26
abbrev w_X2_frictionAbove (k : mg_K) (a_t a_t_layers a_t_layers_values : Nat) (v_t_layers_count : Int32) (v_t_layers_values : Nat → Int32) : va_W := [(a_t, .inr (2, [.ref a_t_layers])), (a_t_layers, .inr (7, [.int 8, .ref a_t_layers_values, .int v_t_layers_count])), (a_t_layers_values, .inl (k.2.1, 24, .inl v_t_layers_values))]
def f_X2_frictionAbove_L7 (v_t_layers_count : Int32) (v_t_layers_values : Nat → Int32) (x1 : Int32) : Nat → Int32 → Int32 → Int32 → Option (Nat × Int32 × Int32 × Int32 × Int32)
  | 0, _, _, _ => none
  | n_ + 1, x2, x3, x4 => if v_t_layers_count ≤ x4 then (some (0, (x2, x3, x4, 0))) else (if mg_ix (x4 * 3) 24 = true then (if mg_ix ((x4 * 3) + 2) 24 = true then (if (v_t_layers_values (Int32.toNatClampNeg (x4 * 3))) < x1 then (f_X2_frictionAbove_L7 v_t_layers_count v_t_layers_values x1 n_ (x2 + (((v_t_layers_values (Int32.toNatClampNeg (x4 * 3))) - x3) * (v_t_layers_values (Int32.toNatClampNeg ((x4 * 3) + 2))))) (v_t_layers_values (Int32.toNatClampNeg (x4 * 3))) (x4 + 1)) else (some (1, (x2, x3, x4, v_t_layers_values (Int32.toNatClampNeg ((x4 * 3) + 2)))))) else none) else none)
def f_X2_frictionAbove (fuel : Nat) (v_t_layers_count : Int32) (v_t_layers_values : Nat → Int32) (x1 : Int32) : Option (Int32) := (f_X2_frictionAbove_L7 v_t_layers_count v_t_layers_values x1 fuel 0 0 0).bind (fun q1 => if q1.1 = 0 then (some (q1.2.1 + ((x1 - q1.2.2.1) * 9))) else (some (q1.2.1 + ((x1 - q1.2.2.1) * q1.2.2.2.2))))
theorem Y_X2_frictionAbove : mg_Y yX2_frictionAbove cX2_frictionAbove 7 (some .int) 1 := ⟨wm_625, wm_626, wm_5, wm_627, ⟨by decide +kernel, by decide +kernel, by decide +kernel⟩, by decide⟩
set_option maxRecDepth 100000 in
set_option maxHeartbeats 4000000 in
theorem c_X2_frictionAbove (l : Launch) (k : mg_K) (a_t a_t_layers a_t_layers_values : Nat) (v_t_layers_count : Int32) (v_t_layers_values : Nat → Int32) (fuel : Nat) (x1 : Int32) (q : Int32) (hf : f_X2_frictionAbove fuel v_t_layers_count v_t_layers_values x1 = some q) : mg_M l yX2_frictionAbove cX2_frictionAbove 7 (some .int) 0 k [.ref a_t, .int x1] (w_X2_frictionAbove k a_t a_t_layers a_t_layers_values v_t_layers_count v_t_layers_values) (w_X2_frictionAbove k a_t a_t_layers a_t_layers_values v_t_layers_count v_t_layers_values) (some (.int q)) := by
  refine mg_Mi RX2 [(0, .ref a_t), (1, .int x1)] (by decide +kernel) rfl rfl (Nat.le_of_ble_eq_true rfl) ?_
  intro z A Q hl C E
  subst hl
  unfold f_X2_frictionAbove at hf
  have L7 : ∀ (x1 : Int32) (n_ : Nat) (x2 : Int32) (x3 : Int32) (x4 : Int32) (q_ : Nat × Int32 × Int32 × Int32 × Int32), f_X2_frictionAbove_L7 v_t_layers_count v_t_layers_values x1 n_ x2 x3 x4 = some q_ → (q_.1 = 0 → mg z k A 7 0 0 Q (w_X2_frictionAbove k a_t a_t_layers a_t_layers_values v_t_layers_count v_t_layers_values) [(1, .int x1), (2, .int q_.2.1), (3, .int q_.2.2.1)] 83 []) → (q_.1 = 1 → mg z k A 7 0 0 Q (w_X2_frictionAbove k a_t a_t_layers a_t_layers_values v_t_layers_count v_t_layers_values) [(1, .int x1), (2, .int q_.2.1), (3, .int q_.2.2.1), (6, .int q_.2.2.2.2)] 55 []) → mg z k A 7 0 0 Q (w_X2_frictionAbove k a_t a_t_layers a_t_layers_values v_t_layers_count v_t_layers_values) [(0, .ref a_t), (1, .int x1), (2, .int x2), (3, .int x3), (4, .int x4)] 7 [] := by
    intro x1 n_
    induction n_ with
    | zero => intro x2 x3 x4 q_ hf; exact mg_no (show none = some q_ from hf)
    | succ n_ ih =>
      intro x2 x3 x4 q_ hf X0 X1
      rw [f_X2_frictionAbove_L7] at hf
      refine mg_iload (pc := 7) C 4 dX2_frictionAbove_7 rfl ?_
      refine mg_aload_n (pc := 9) C 0 dX2_frictionAbove_9 rfl rfl ?_
      refine mg_get (pc := 10) C 0 rfl rfl inX2 0 (by decide) wm_94 rfl rfl dX2_frictionAbove_10 ?_
      refine mg_get (pc := 13) C 1 rfl rfl inX7 2 (by decide) wm_84 rfl rfl dX2_frictionAbove_13 ?_
      refine mg_icmp_ge (pc := 16) (tgt := 83) C dX2_frictionAbove_16 (by decide) hf (fun hf => ?_) (fun hf => ?_)
      · obtain rfl := Option.some.inj hf
        refine mg_lv [1, 2, 3] rfl ?_
        exact (X0 rfl)
      · refine mg_aload_n (pc := 19) C 0 dX2_frictionAbove_19 rfl rfl ?_
        refine mg_get (pc := 20) C 0 rfl rfl inX2 0 (by decide) wm_94 rfl rfl dX2_frictionAbove_20 ?_
        refine mg_get (pc := 23) C 1 rfl rfl inX7 1 (by decide) wm_81 rfl rfl dX2_frictionAbove_23 ?_
        refine mg_iload (pc := 26) C 4 dX2_frictionAbove_26 rfl ?_
        refine mg_iconst (pc := 28) C dX2_frictionAbove_28 (v := 3) (by decide) ?_
        refine mg_imul (pc := 29) C dX2_frictionAbove_29 ?_
        refine mg_iald (pc := 30) C 2 rfl dX2_frictionAbove_30 hf (fun hf => ?_)
        refine mg_istore (pc := 31) C (lv' := [(5, .int (v_t_layers_values (Int32.toNatClampNeg (x4 * 3)))), (0, .ref a_t), (1, .int x1), (2, .int x2), (3, .int x3), (4, .int x4)]) dX2_frictionAbove_31 (by decide) rfl ?_
        refine mg_aload_n (pc := 33) C 1 dX2_frictionAbove_33 rfl rfl ?_
        refine mg_get (pc := 34) C 0 rfl rfl inX2 0 (by decide) wm_94 rfl rfl dX2_frictionAbove_34 ?_
        refine mg_get (pc := 37) C 1 rfl rfl inX7 1 (by decide) wm_81 rfl rfl dX2_frictionAbove_37 ?_
        refine mg_iload (pc := 40) C 5 dX2_frictionAbove_40 rfl ?_
        refine mg_iconst (pc := 42) C dX2_frictionAbove_42 (v := 3) (by decide) ?_
        refine mg_imul (pc := 43) C dX2_frictionAbove_43 ?_
        refine mg_iconst (pc := 44) C dX2_frictionAbove_44 (v := 2) (by decide) ?_
        refine mg_iadd (pc := 45) C dX2_frictionAbove_45 ?_
        refine mg_iald (pc := 46) C 2 rfl dX2_frictionAbove_46 hf (fun hf => ?_)
        refine mg_istore (pc := 47) C (lv' := [(6, .int (v_t_layers_values (Int32.toNatClampNeg ((x4 * 3) + 2)))), (5, .int (v_t_layers_values (Int32.toNatClampNeg (x4 * 3)))), (0, .ref a_t), (1, .int x1), (2, .int x2), (3, .int x3), (4, .int x4)]) dX2_frictionAbove_47 (by decide) rfl ?_
        refine mg_iload_n (pc := 49) C 3 dX2_frictionAbove_49 rfl rfl ?_
        refine mg_iload (pc := 50) C 1 dX2_frictionAbove_50 rfl ?_
        refine mg_icmp_gt (pc := 52) (tgt := 64) C dX2_frictionAbove_52 (by decide) hf (fun hf => ?_) (fun hf => ?_)
        · refine mg_iload_n (pc := 64) C 4 dX2_frictionAbove_64 rfl rfl ?_
          refine mg_iload (pc := 65) C 1 dX2_frictionAbove_65 rfl ?_
          refine mg_iload_n (pc := 67) C 5 dX2_frictionAbove_67 rfl rfl ?_
          refine mg_isub (pc := 68) C dX2_frictionAbove_68 ?_
          refine mg_iload (pc := 69) C 0 dX2_frictionAbove_69 rfl ?_
          refine mg_imul (pc := 71) C dX2_frictionAbove_71 ?_
          refine mg_iadd (pc := 72) C dX2_frictionAbove_72 ?_
          refine mg_istore_n (pc := 73) C (lv' := [(2, .int (x2 + (((v_t_layers_values (Int32.toNatClampNeg (x4 * 3))) - x3) * (v_t_layers_values (Int32.toNatClampNeg ((x4 * 3) + 2)))))), (6, .int (v_t_layers_values (Int32.toNatClampNeg ((x4 * 3) + 2)))), (5, .int (v_t_layers_values (Int32.toNatClampNeg (x4 * 3)))), (0, .ref a_t), (1, .int x1), (3, .int x3), (4, .int x4)]) dX2_frictionAbove_73 rfl (by decide) rfl ?_
          refine mg_iload (pc := 74) C 2 dX2_frictionAbove_74 rfl ?_
          refine mg_istore_n (pc := 76) C (lv' := [(3, .int (v_t_layers_values (Int32.toNatClampNeg (x4 * 3)))), (2, .int (x2 + (((v_t_layers_values (Int32.toNatClampNeg (x4 * 3))) - x3) * (v_t_layers_values (Int32.toNatClampNeg ((x4 * 3) + 2)))))), (6, .int (v_t_layers_values (Int32.toNatClampNeg ((x4 * 3) + 2)))), (5, .int (v_t_layers_values (Int32.toNatClampNeg (x4 * 3)))), (0, .ref a_t), (1, .int x1), (4, .int x4)]) dX2_frictionAbove_76 rfl (by decide) rfl ?_
          refine mg_iinc (pc := 77) C (c := 1) (lv' := [(4, .int (x4 + 1)), (3, .int (v_t_layers_values (Int32.toNatClampNeg (x4 * 3)))), (2, .int (x2 + (((v_t_layers_values (Int32.toNatClampNeg (x4 * 3))) - x3) * (v_t_layers_values (Int32.toNatClampNeg ((x4 * 3) + 2)))))), (6, .int (v_t_layers_values (Int32.toNatClampNeg ((x4 * 3) + 2)))), (5, .int (v_t_layers_values (Int32.toNatClampNeg (x4 * 3)))), (0, .ref a_t), (1, .int x1)]) 6 dX2_frictionAbove_77 rfl (by decide) (by decide) rfl ?_
          refine mg_goto (pc := 80) (tgt := 7) C dX2_frictionAbove_80 (by decide) ?_
          refine mg_lv [5, 6, 2, 1, 0] rfl ?_
          exact ih (x2 + (((v_t_layers_values (Int32.toNatClampNeg (x4 * 3))) - x3) * (v_t_layers_values (Int32.toNatClampNeg ((x4 * 3) + 2))))) (v_t_layers_values (Int32.toNatClampNeg (x4 * 3))) (x4 + 1) _ hf X0 X1
        · obtain rfl := Option.some.inj hf
          refine mg_lv [3, 4, 5, 0] rfl ?_
          exact (X1 rfl)
  refine mg_iconst (pc := 0) C dX2_frictionAbove_0 (v := 0) (by decide) ?_
  refine mg_istore_n (pc := 1) C (lv' := [(2, .int 0), (0, .ref a_t), (1, .int x1)]) dX2_frictionAbove_1 rfl (by decide) rfl ?_
  refine mg_iconst (pc := 2) C dX2_frictionAbove_2 (v := 0) (by decide) ?_
  refine mg_istore_n (pc := 3) C (lv' := [(3, .int 0), (2, .int 0), (0, .ref a_t), (1, .int x1)]) dX2_frictionAbove_3 rfl (by decide) rfl ?_
  refine mg_iconst (pc := 4) C dX2_frictionAbove_4 (v := 0) (by decide) ?_
  refine mg_istore (pc := 5) C (lv' := [(4, .int 0), (3, .int 0), (2, .int 0), (0, .ref a_t), (1, .int x1)]) dX2_frictionAbove_5 (by decide) rfl ?_
  obtain ⟨q1, h2, hf⟩ := mg_b hf
  refine mg_lv [3, 4, 2, 1, 0] rfl ?_
  refine L7 x1 fuel 0 0 0 q1 h2 (fun e3 => ?_) (fun e4 => ?_)
  · have hf := mg_t e3 hf
    refine mg_iload_n (pc := 83) C 1 dX2_frictionAbove_83 rfl rfl ?_
    refine mg_iload_n (pc := 84) C 0 dX2_frictionAbove_84 rfl rfl ?_
    refine mg_iload_n (pc := 85) C 2 dX2_frictionAbove_85 rfl rfl ?_
    refine mg_isub (pc := 86) C dX2_frictionAbove_86 ?_
    refine mg_bipush (pc := 87) C dX2_frictionAbove_87 (v := 9) (by decide) ?_
    refine mg_imul (pc := 89) C dX2_frictionAbove_89 ?_
    refine mg_iadd (pc := 90) C dX2_frictionAbove_90 ?_
    obtain rfl := Option.some.inj hf
    exact E _ _ dX2_frictionAbove_91
  · have hf := mg_f (by rw [e4]; decide) hf
    refine mg_iload_n (pc := 55) C 1 dX2_frictionAbove_55 rfl rfl ?_
    refine mg_iload_n (pc := 56) C 0 dX2_frictionAbove_56 rfl rfl ?_
    refine mg_iload_n (pc := 57) C 2 dX2_frictionAbove_57 rfl rfl ?_
    refine mg_isub (pc := 58) C dX2_frictionAbove_58 ?_
    refine mg_iload (pc := 59) C 3 dX2_frictionAbove_59 rfl ?_
    refine mg_imul (pc := 61) C dX2_frictionAbove_61 ?_
    refine mg_iadd (pc := 62) C dX2_frictionAbove_62 ?_
    obtain rfl := Option.some.inj hf
    exact E _ _ dX2_frictionAbove_63
