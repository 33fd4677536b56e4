abbrev w_X7_clear (k : mg_K) (a_t a_t_values : Nat) (v_t_capacity : Int32) (v_t_count : Int32) : va_W := [(a_t, .inr (7, [.int v_t_capacity, .ref a_t_values, .int v_t_count]))]
def f_X7_clear : Option (Int32) := some 0
theorem Y_X7_clear : mg_Y yX7_clear cX7_clear 1 none 0 := ⟨wm_123, wm_124, wm_6, wm_125, ⟨by decide +kernel, by decide +kernel, by decide +kernel⟩, by decide⟩
set_option maxRecDepth 100000 in
set_option maxHeartbeats 4000000 in
theorem c_X7_clear (l : Launch) (k : mg_K) (a_t a_t_values : Nat) (v_t_capacity : Int32) (v_t_count : Int32) (q : Int32) (hf : f_X7_clear = some q) : mg_M l yX7_clear cX7_clear 1 none 0 k [.ref a_t] (w_X7_clear k a_t a_t_values v_t_capacity v_t_count) (w_X7_clear k a_t a_t_values v_t_capacity q) none := by
  refine mg_Mv RX7 [(0, .ref a_t)] (by decide +kernel) rfl rfl (Nat.le_of_ble_eq_true rfl) ?_
  intro z A Q hl C E
  subst hl
  unfold f_X7_clear at hf
  refine mg_aload_n (pc := 0) C 0 dX7_clear_0 rfl rfl ?_
  refine mg_iconst (pc := 1) C dX7_clear_1 (v := 0) (by decide) ?_
  refine mg_puti (pc := 2) C (w2 := w_X7_clear k a_t a_t_values v_t_capacity 0) 0 rfl rfl inX7 2 (by decide) wm_83 rfl tyX7 tyX7_ok nmX7 rfl (by decide +kernel) (Nat.le_of_ble_eq_true rfl) rfl dX7_clear_2 ?_
  obtain rfl := Option.some.inj hf
  exact E _ _ dX7_clear_5
abbrev w_X7_isFull (k : mg_K) (a_t a_t_values : Nat) (v_t_capacity : Int32) (v_t_count : Int32) : va_W := [(a_t, .inr (7, [.int v_t_capacity, .ref a_t_values, .int v_t_count]))]
def f_X7_isFull (v_t_capacity : Int32) (v_t_count : Int32) : Option (Int32) := if v_t_count < v_t_capacity then (some 0) else (some 1)
theorem Y_X7_isFull : mg_Y yX7_isFull cX7_isFull 1 (some .boolean) 0 := ⟨wm_413, wm_414, wm_6, wm_415, ⟨by decide +kernel, by decide +kernel, by decide +kernel⟩, by decide⟩
set_option maxRecDepth 100000 in
set_option maxHeartbeats 4000000 in
theorem c_X7_isFull (l : Launch) (k : mg_K) (a_t a_t_values : Nat) (v_t_capacity : Int32) (v_t_count : Int32) (q : Int32) (hf : f_X7_isFull v_t_capacity v_t_count = some q) : mg_M l yX7_isFull cX7_isFull 1 (some .boolean) 0 k [.ref a_t] (w_X7_isFull k a_t a_t_values v_t_capacity v_t_count) (w_X7_isFull k a_t a_t_values v_t_capacity v_t_count) (some (.int q)) := by
  refine mg_Mz RX7 [(0, .ref a_t)] (by decide +kernel) rfl rfl (Nat.le_of_ble_eq_true rfl) ?_
  intro z A Q hl C E
  subst hl
  unfold f_X7_isFull at hf
  refine mg_aload_n (pc := 0) C 0 dX7_isFull_0 rfl rfl ?_
  refine mg_get (pc := 1) C 0 rfl rfl inX7 2 (by decide) wm_83 rfl rfl dX7_isFull_1 ?_
  refine mg_aload_n (pc := 4) C 0 dX7_isFull_4 rfl rfl ?_
  refine mg_get (pc := 5) C 0 rfl rfl inX7 0 (by decide) wm_79 rfl rfl dX7_isFull_5 ?_
  refine mg_icmp_lt (pc := 8) (tgt := 15) C dX7_isFull_8 (by decide) hf (fun hf => ?_) (fun hf => ?_)
  · refine mg_iconst (pc := 15) C dX7_isFull_15 (v := 0) (by decide) ?_
    obtain rfl := Option.some.inj hf
    exact E mg_n0 _ _ dX7_isFull_16
  · refine mg_iconst (pc := 11) C dX7_isFull_11 (v := 1) (by decide) ?_
    refine mg_goto (pc := 12) (tgt := 16) C dX7_isFull_12 (by decide) ?_
    obtain rfl := Option.some.inj hf
    exact E mg_n1 _ _ dX7_isFull_16
abbrev w_X7_has (k : mg_K) (a_t a_t_values : Nat) (v_t_capacity : Int32) (v_t_count : Int32) : va_W := [(a_t, .inr (7, [.int v_t_capacity, .ref a_t_values, .int v_t_count]))]
def f_X7_has (v_t_count : Int32) (x1 : Int32) : Option (Int32) := if x1 < 0 then (some 0) else (if v_t_count ≤ x1 then (some 0) else (some 1))
theorem Y_X7_has : mg_Y yX7_has cX7_has 2 (some .boolean) 1 := ⟨wm_555, wm_556, wm_6, wm_557, ⟨by decide +kernel, by decide +kernel, by decide +kernel⟩, by decide⟩
set_option maxRecDepth 100000 in
set_option maxHeartbeats 4000000 in
theorem c_X7_has (l : Launch) (k : mg_K) (a_t a_t_values : Nat) (v_t_capacity : Int32) (v_t_count : Int32) (x1 : Int32) (q : Int32) (hf : f_X7_has v_t_count x1 = some q) : mg_M l yX7_has cX7_has 2 (some .boolean) 0 k [.ref a_t, .int x1] (w_X7_has k a_t a_t_values v_t_capacity v_t_count) (w_X7_has k a_t a_t_values v_t_capacity v_t_count) (some (.int q)) := by
  refine mg_Mz RX7 [(0, .ref a_t), (1, .int x1)] (by decide +kernel) rfl rfl (Nat.le_of_ble_eq_true rfl) ?_
  intro z A Q hl C E
  subst hl
  unfold f_X7_has at hf
  refine mg_iload_n (pc := 0) C 1 dX7_has_0 rfl rfl ?_
  refine mg_if_lt (pc := 1) (tgt := 16) C dX7_has_1 (by decide) hf (fun hf => ?_) (fun hf => ?_)
  · refine mg_iconst (pc := 16) C dX7_has_16 (v := 0) (by decide) ?_
    obtain rfl := Option.some.inj hf
    exact E mg_n0 _ _ dX7_has_17
  · refine mg_iload_n (pc := 4) C 1 dX7_has_4 rfl rfl ?_
    refine mg_aload_n (pc := 5) C 0 dX7_has_5 rfl rfl ?_
    refine mg_get (pc := 6) C 0 rfl rfl inX7 2 (by decide) wm_83 rfl rfl dX7_has_6 ?_
    refine mg_icmp_ge (pc := 9) (tgt := 16) C dX7_has_9 (by decide) hf (fun hf => ?_) (fun hf => ?_)
    · refine mg_iconst (pc := 16) C dX7_has_16 (v := 0) (by decide) ?_
      obtain rfl := Option.some.inj hf
      exact E mg_n0 _ _ dX7_has_17
    · refine mg_iconst (pc := 12) C dX7_has_12 (v := 1) (by decide) ?_
      refine mg_goto (pc := 13) (tgt := 17) C dX7_has_13 (by decide) ?_
      obtain rfl := Option.some.inj hf
      exact E mg_n1 _ _ dX7_has_17
abbrev w_X7_get (k : mg_K) (a_t a_t_values : Nat) (n_t_values : Nat) (v_t_capacity : Int32) (v_t_count : Int32) (v_t_values : Nat → Int32) : va_W := [(a_t, .inr (7, [.int v_t_capacity, .ref a_t_values, .int v_t_count])), (a_t_values, .inl (k.2.1, n_t_values, .inl v_t_values))]
def f_X7_get (n_t_values : Nat) (v_t_count : Int32) (v_t_values : Nat → Int32) (x1 : Int32) (x2 : Int32) : Option (Int32) := if x1 < 0 then (some (-1000009)) else (if v_t_count ≤ x1 then (some (-1000009)) else (if x2 < 0 then (some (-1000009)) else (if x2 < 3 then (if mg_ix ((x1 * 3) + x2) n_t_values = true then (some (v_t_values (Int32.toNatClampNeg ((x1 * 3) + x2)))) else none) else (some (-1000009)))))
theorem Y_X7_get : mg_Y yX7_get cX7_get 3 (some .int) 2 := ⟨wm_442, wm_443, wm_6, wm_444, ⟨by decide +kernel, by decide +kernel, by decide +kernel⟩, by decide⟩
set_option maxRecDepth 100000 in
set_option maxHeartbeats 4000000 in
theorem c_X7_get (l : Launch) (k : mg_K) (a_t a_t_values : Nat) (n_t_values : Nat) (v_t_capacity : Int32) (v_t_count : Int32) (v_t_values : Nat → Int32) (x1 : Int32) (x2 : Int32) (q : Int32) (hf : f_X7_get n_t_values v_t_count v_t_values x1 x2 = some q) : mg_M l yX7_get cX7_get 3 (some .int) 0 k [.ref a_t, .int x1, .int x2] (w_X7_get k a_t a_t_values n_t_values v_t_capacity v_t_count v_t_values) (w_X7_get k a_t a_t_values n_t_values v_t_capacity v_t_count v_t_values) (some (.int q)) := by
  refine mg_Mi RX7 [(0, .ref a_t), (1, .int x1), (2, .int x2)] (by decide +kernel) rfl rfl (Nat.le_of_ble_eq_true rfl) ?_
  intro z A Q hl C E
  subst hl
  unfold f_X7_get at hf
  refine mg_iload_n (pc := 0) C 1 dX7_get_0 rfl rfl ?_
  refine mg_if_lt (pc := 1) (tgt := 21) C dX7_get_1 (by decide) hf (fun hf => ?_) (fun hf => ?_)
  · refine mg_ldc (pc := 21) C wm_445 dX7_get_21 ?_
    obtain rfl := Option.some.inj hf
    exact E _ _ dX7_get_23
  · refine mg_iload_n (pc := 4) C 1 dX7_get_4 rfl rfl ?_
    refine mg_aload_n (pc := 5) C 0 dX7_get_5 rfl rfl ?_
    refine mg_get (pc := 6) C 0 rfl rfl inX7 2 (by decide) wm_83 rfl rfl dX7_get_6 ?_
    refine mg_icmp_ge (pc := 9) (tgt := 21) C dX7_get_9 (by decide) hf (fun hf => ?_) (fun hf => ?_)
    · refine mg_ldc (pc := 21) C wm_445 dX7_get_21 ?_
      obtain rfl := Option.some.inj hf
      exact E _ _ dX7_get_23
    · refine mg_iload_n (pc := 12) C 2 dX7_get_12 rfl rfl ?_
      refine mg_if_lt (pc := 13) (tgt := 21) C dX7_get_13 (by decide) hf (fun hf => ?_) (fun hf => ?_)
      · refine mg_ldc (pc := 21) C wm_445 dX7_get_21 ?_
        obtain rfl := Option.some.inj hf
        exact E _ _ dX7_get_23
      · refine mg_iload_n (pc := 16) C 2 dX7_get_16 rfl rfl ?_
        refine mg_iconst (pc := 17) C dX7_get_17 (v := 3) (by decide) ?_
        refine mg_icmp_lt (pc := 18) (tgt := 24) C dX7_get_18 (by decide) hf (fun hf => ?_) (fun hf => ?_)
        · refine mg_aload_n (pc := 24) C 0 dX7_get_24 rfl rfl ?_
          refine mg_get (pc := 25) C 0 rfl rfl inX7 1 (by decide) wm_80 rfl rfl dX7_get_25 ?_
          refine mg_iload_n (pc := 28) C 1 dX7_get_28 rfl rfl ?_
          refine mg_iconst (pc := 29) C dX7_get_29 (v := 3) (by decide) ?_
          refine mg_imul (pc := 30) C dX7_get_30 ?_
          refine mg_iload_n (pc := 31) C 2 dX7_get_31 rfl rfl ?_
          refine mg_iadd (pc := 32) C dX7_get_32 ?_
          refine mg_iald (pc := 33) C 1 rfl dX7_get_33 hf (fun hf => ?_)
          obtain rfl := Option.some.inj hf
          exact E _ _ dX7_get_34
        · refine mg_ldc (pc := 21) C wm_445 dX7_get_21 ?_
          obtain rfl := Option.some.inj hf
          exact E _ _ dX7_get_23
abbrev w_X7_set (k : mg_K) (a_t a_t_values : Nat) (n_t_values : Nat) (v_t_capacity : Int32) (v_t_count : Int32) (v_t_values : Nat → Int32) : va_W := [(a_t, .inr (7, [.int v_t_capacity, .ref a_t_values, .int v_t_count])), (a_t_values, .inl (k.2.1, n_t_values, .inl v_t_values))]
def f_X7_set (n_t_values : Nat) (v_t_count : Int32) (v_t_values : Nat → Int32) (x1 : Int32) (x2 : Int32) (x3 : Int32) : Option ((Nat → Int32)) := if x1 < 0 then (some v_t_values) else (if v_t_count ≤ x1 then (some v_t_values) else (if x2 < 0 then (some v_t_values) else (if 3 ≤ x2 then (some v_t_values) else (if mg_ix ((x1 * 3) + x2) n_t_values = true then (some (upd v_t_values (Int32.toNatClampNeg ((x1 * 3) + x2)) x3)) else none))))
theorem Y_X7_set : mg_Y yX7_set cX7_set 4 none 3 := ⟨wm_789, wm_790, wm_6, wm_791, ⟨by decide +kernel, by decide +kernel, by decide +kernel⟩, by decide⟩
set_option maxRecDepth 100000 in
set_option maxHeartbeats 4000000 in
theorem c_X7_set (l : Launch) (k : mg_K) (a_t a_t_values : Nat) (n_t_values : Nat) (v_t_capacity : Int32) (v_t_count : Int32) (v_t_values : Nat → Int32) (x1 : Int32) (x2 : Int32) (x3 : Int32) (q : (Nat → Int32)) (hf : f_X7_set n_t_values v_t_count v_t_values x1 x2 x3 = some q) : mg_M l yX7_set cX7_set 4 none 0 k [.ref a_t, .int x1, .int x2, .int x3] (w_X7_set k a_t a_t_values n_t_values v_t_capacity v_t_count v_t_values) (w_X7_set k a_t a_t_values n_t_values v_t_capacity v_t_count q) none := by
  refine mg_Mv RX7 [(0, .ref a_t), (1, .int x1), (2, .int x2), (3, .int x3)] (by decide +kernel) rfl rfl (Nat.le_of_ble_eq_true rfl) ?_
  intro z A Q hl C E
  subst hl
  unfold f_X7_set at hf
  refine mg_iload_n (pc := 0) C 1 dX7_set_0 rfl rfl ?_
  refine mg_if_lt (pc := 1) (tgt := 32) C dX7_set_1 (by decide) hf (fun hf => ?_) (fun hf => ?_)
  · obtain rfl := Option.some.inj hf
    exact E _ _ dX7_set_32
  · refine mg_iload_n (pc := 4) C 1 dX7_set_4 rfl rfl ?_
    refine mg_aload_n (pc := 5) C 0 dX7_set_5 rfl rfl ?_
    refine mg_get (pc := 6) C 0 rfl rfl inX7 2 (by decide) wm_83 rfl rfl dX7_set_6 ?_
    refine mg_icmp_ge (pc := 9) (tgt := 32) C dX7_set_9 (by decide) hf (fun hf => ?_) (fun hf => ?_)
    · obtain rfl := Option.some.inj hf
      exact E _ _ dX7_set_32
    · refine mg_iload_n (pc := 12) C 2 dX7_set_12 rfl rfl ?_
      refine mg_if_lt (pc := 13) (tgt := 32) C dX7_set_13 (by decide) hf (fun hf => ?_) (fun hf => ?_)
      · obtain rfl := Option.some.inj hf
        exact E _ _ dX7_set_32
      · refine mg_iload_n (pc := 16) C 2 dX7_set_16 rfl rfl ?_
        refine mg_iconst (pc := 17) C dX7_set_17 (v := 3) (by decide) ?_
        refine mg_icmp_ge (pc := 18) (tgt := 32) C dX7_set_18 (by decide) hf (fun hf => ?_) (fun hf => ?_)
        · obtain rfl := Option.some.inj hf
          exact E _ _ dX7_set_32
        · refine mg_aload_n (pc := 21) C 0 dX7_set_21 rfl rfl ?_
          refine mg_get (pc := 22) C 0 rfl rfl inX7 1 (by decide) wm_80 rfl rfl dX7_set_22 ?_
          refine mg_iload_n (pc := 25) C 1 dX7_set_25 rfl rfl ?_
          refine mg_iconst (pc := 26) C dX7_set_26 (v := 3) (by decide) ?_
          refine mg_imul (pc := 27) C dX7_set_27 ?_
          refine mg_iload_n (pc := 28) C 2 dX7_set_28 rfl rfl ?_
          refine mg_iadd (pc := 29) C dX7_set_29 ?_
          refine mg_iload_n (pc := 30) C 3 dX7_set_30 rfl rfl ?_
          refine mg_iast (pc := 31) C (w2 := w_X7_set k a_t a_t_values n_t_values v_t_capacity v_t_count (upd v_t_values (Int32.toNatClampNeg ((x1 * 3) + x2)) x3)) 1 rfl dX7_set_31 hf rfl (fun hf => ?_)
          obtain rfl := Option.some.inj hf
          exact E _ _ dX7_set_32
abbrev w_X7_insert (k : mg_K) (a_t a_t_values : Nat) (n_t_values : Nat) (v_t_capacity : Int32) (v_t_count : Int32) (v_t_values : Nat → Int32) : va_W := [(a_t, .inr (7, [.int v_t_capacity, .ref a_t_values, .int v_t_count])), (a_t_values, .inl (k.2.1, n_t_values, .inl v_t_values))]
def f_X7_insert (n_t_values : Nat) (v_t_capacity : Int32) (v_t_count : Int32) (v_t_values : Nat → Int32) (x1 : Int32) (x2 : Int32) (x3 : Int32) (x4 : Int32) : Option (Int32 × (Nat → Int32)) := if x1 < 0 then (some (v_t_count, v_t_values)) else (if x1 ≤ (mg_mn v_t_count (v_t_capacity - 1)) then (if mg_cp (x1 * 3) ((x1 * 3) + 3) (((mg_mn v_t_count (v_t_capacity - 1)) - x1) * 3) n_t_values n_t_values = true then (if mg_ix (x1 * 3) n_t_values = true then (if mg_ix ((x1 * 3) + 1) n_t_values = true then (if mg_ix ((x1 * 3) + 2) n_t_values = true then (some ((mg_mn v_t_count (v_t_capacity - 1)) + 1, upd (upd (upd (va_cpy v_t_values v_t_values (Int32.toNatClampNeg (x1 * 3)) (Int32.toNatClampNeg ((x1 * 3) + 3)) (Int32.toNatClampNeg (((mg_mn v_t_count (v_t_capacity - 1)) - x1) * 3))) (Int32.toNatClampNeg (x1 * 3)) x2) (Int32.toNatClampNeg ((x1 * 3) + 1)) x3) (Int32.toNatClampNeg ((x1 * 3) + 2)) x4)) else none) else none) else none) else none) else (some (v_t_count, v_t_values)))
theorem Y_X7_insert : mg_Y yX7_insert cX7_insert 7 none 4 := ⟨wm_461, wm_462, wm_6, wm_463, ⟨by decide +kernel, by decide +kernel, by decide +kernel⟩, by decide⟩
set_option maxRecDepth 100000 in
set_option maxHeartbeats 4000000 in
theorem c_X7_insert (l : Launch) (k : mg_K) (a_t a_t_values : Nat) (n_t_values : Nat) (v_t_capacity : Int32) (v_t_count : Int32) (v_t_values : Nat → Int32) (x1 : Int32) (x2 : Int32) (x3 : Int32) (x4 : Int32) (q : Int32 × (Nat → Int32)) (hf : f_X7_insert n_t_values v_t_capacity v_t_count v_t_values x1 x2 x3 x4 = some q) : mg_M l yX7_insert cX7_insert 7 none 1 k [.ref a_t, .int x1, .int x2, .int x3, .int x4] (w_X7_insert k a_t a_t_values n_t_values v_t_capacity v_t_count v_t_values) (w_X7_insert k a_t a_t_values n_t_values v_t_capacity q.1 q.2) none := by
  refine mg_Mv RX7 [(0, .ref a_t), (1, .int x1), (2, .int x2), (3, .int x3), (4, .int x4)] (by decide +kernel) rfl rfl (Nat.le_of_ble_eq_true rfl) ?_
  intro z A Q hl C E
  subst hl
  unfold f_X7_insert at hf
  refine mg_aload_n (pc := 0) C 0 dX7_insert_0 rfl rfl ?_
  refine mg_get (pc := 1) C 0 rfl rfl inX7 2 (by decide) wm_83 rfl rfl dX7_insert_1 ?_
  refine mg_aload_n (pc := 4) C 0 dX7_insert_4 rfl rfl ?_
  refine mg_get (pc := 5) C 0 rfl rfl inX7 0 (by decide) wm_79 rfl rfl dX7_insert_5 ?_
  refine mg_iconst (pc := 8) C dX7_insert_8 (v := 1) (by decide) ?_
  refine mg_isub (pc := 9) C dX7_insert_9 ?_
  refine mg_mmin (pc := 10) C wm_464 wm_465 wm_7 wm_466 (by decide) (Nat.le_of_ble_eq_true rfl) dX7_insert_10 ?_
  refine mg_istore (pc := 13) C (lv' := [(5, .int (mg_mn v_t_count (v_t_capacity - 1))), (0, .ref a_t), (1, .int x1), (2, .int x2), (3, .int x3), (4, .int x4)]) dX7_insert_13 (by decide) rfl ?_
  refine mg_iload_n (pc := 15) C 2 dX7_insert_15 rfl rfl ?_
  refine mg_if_lt (pc := 16) (tgt := 25) C dX7_insert_16 (by decide) hf (fun hf => ?_) (fun hf => ?_)
  · obtain rfl := Option.some.inj hf
    exact E _ _ dX7_insert_25
  · refine mg_iload_n (pc := 19) C 2 dX7_insert_19 rfl rfl ?_
    refine mg_iload (pc := 20) C 0 dX7_insert_20 rfl ?_
    refine mg_icmp_le (pc := 22) (tgt := 26) C dX7_insert_22 (by decide) hf (fun hf => ?_) (fun hf => ?_)
    · refine mg_iload_n (pc := 26) C 2 dX7_insert_26 rfl rfl ?_
      refine mg_iconst (pc := 27) C dX7_insert_27 (v := 3) (by decide) ?_
      refine mg_imul (pc := 28) C dX7_insert_28 ?_
      refine mg_istore (pc := 29) C (lv' := [(6, .int (x1 * 3)), (5, .int (mg_mn v_t_count (v_t_capacity - 1))), (0, .ref a_t), (1, .int x1), (2, .int x2), (3, .int x3), (4, .int x4)]) dX7_insert_29 (by decide) rfl ?_
      refine mg_aload_n (pc := 31) C 2 dX7_insert_31 rfl rfl ?_
      refine mg_get (pc := 32) C 0 rfl rfl inX7 1 (by decide) wm_80 rfl rfl dX7_insert_32 ?_
      refine mg_iload (pc := 35) C 0 dX7_insert_35 rfl ?_
      refine mg_aload_n (pc := 37) C 2 dX7_insert_37 rfl rfl ?_
      refine mg_get (pc := 38) C 0 rfl rfl inX7 1 (by decide) wm_80 rfl rfl dX7_insert_38 ?_
      refine mg_iload (pc := 41) C 0 dX7_insert_41 rfl ?_
      refine mg_iconst (pc := 43) C dX7_insert_43 (v := 3) (by decide) ?_
      refine mg_iadd (pc := 44) C dX7_insert_44 ?_
      refine mg_iload (pc := 45) C 1 dX7_insert_45 rfl ?_
      refine mg_iload_n (pc := 47) C 3 dX7_insert_47 rfl rfl ?_
      refine mg_isub (pc := 48) C dX7_insert_48 ?_
      refine mg_iconst (pc := 49) C dX7_insert_49 (v := 3) (by decide) ?_
      refine mg_imul (pc := 50) C dX7_insert_50 ?_
      refine mg_copy (pc := 51) C (w2 := w_X7_insert k a_t a_t_values n_t_values v_t_capacity v_t_count (va_cpy v_t_values v_t_values (Int32.toNatClampNeg (x1 * 3)) (Int32.toNatClampNeg ((x1 * 3) + 3)) (Int32.toNatClampNeg (((mg_mn v_t_count (v_t_capacity - 1)) - x1) * 3)))) wm_467 wm_469 wm_468 wm_16 (by decide) (Nat.le_of_ble_eq_true rfl) 1 1 rfl rfl dX7_insert_51 hf rfl (fun hf => ?_)
      refine mg_aload_n (pc := 54) C 2 dX7_insert_54 rfl rfl ?_
      refine mg_get (pc := 55) C 0 rfl rfl inX7 1 (by decide) wm_80 rfl rfl dX7_insert_55 ?_
      refine mg_iload (pc := 58) C 0 dX7_insert_58 rfl ?_
      refine mg_iload_n (pc := 60) C 4 dX7_insert_60 rfl rfl ?_
      refine mg_iast (pc := 61) C (w2 := w_X7_insert k a_t a_t_values n_t_values v_t_capacity v_t_count (upd (va_cpy v_t_values v_t_values (Int32.toNatClampNeg (x1 * 3)) (Int32.toNatClampNeg ((x1 * 3) + 3)) (Int32.toNatClampNeg (((mg_mn v_t_count (v_t_capacity - 1)) - x1) * 3))) (Int32.toNatClampNeg (x1 * 3)) x2)) 1 rfl dX7_insert_61 hf rfl (fun hf => ?_)
      refine mg_aload_n (pc := 62) C 2 dX7_insert_62 rfl rfl ?_
      refine mg_get (pc := 63) C 0 rfl rfl inX7 1 (by decide) wm_80 rfl rfl dX7_insert_63 ?_
      refine mg_iload (pc := 66) C 0 dX7_insert_66 rfl ?_
      refine mg_iconst (pc := 68) C dX7_insert_68 (v := 1) (by decide) ?_
      refine mg_iadd (pc := 69) C dX7_insert_69 ?_
      refine mg_iload_n (pc := 70) C 5 dX7_insert_70 rfl rfl ?_
      refine mg_iast (pc := 71) C (w2 := w_X7_insert k a_t a_t_values n_t_values v_t_capacity v_t_count (upd (upd (va_cpy v_t_values v_t_values (Int32.toNatClampNeg (x1 * 3)) (Int32.toNatClampNeg ((x1 * 3) + 3)) (Int32.toNatClampNeg (((mg_mn v_t_count (v_t_capacity - 1)) - x1) * 3))) (Int32.toNatClampNeg (x1 * 3)) x2) (Int32.toNatClampNeg ((x1 * 3) + 1)) x3)) 1 rfl dX7_insert_71 hf rfl (fun hf => ?_)
      refine mg_aload_n (pc := 72) C 2 dX7_insert_72 rfl rfl ?_
      refine mg_get (pc := 73) C 0 rfl rfl inX7 1 (by decide) wm_80 rfl rfl dX7_insert_73 ?_
      refine mg_iload (pc := 76) C 0 dX7_insert_76 rfl ?_
      refine mg_iconst (pc := 78) C dX7_insert_78 (v := 2) (by decide) ?_
      refine mg_iadd (pc := 79) C dX7_insert_79 ?_
      refine mg_iload (pc := 80) C 6 dX7_insert_80 rfl ?_
      refine mg_iast (pc := 82) C (w2 := w_X7_insert k a_t a_t_values n_t_values v_t_capacity v_t_count (upd (upd (upd (va_cpy v_t_values v_t_values (Int32.toNatClampNeg (x1 * 3)) (Int32.toNatClampNeg ((x1 * 3) + 3)) (Int32.toNatClampNeg (((mg_mn v_t_count (v_t_capacity - 1)) - x1) * 3))) (Int32.toNatClampNeg (x1 * 3)) x2) (Int32.toNatClampNeg ((x1 * 3) + 1)) x3) (Int32.toNatClampNeg ((x1 * 3) + 2)) x4)) 1 rfl dX7_insert_82 hf rfl (fun hf => ?_)
      refine mg_aload_n (pc := 83) C 2 dX7_insert_83 rfl rfl ?_
      refine mg_iload (pc := 84) C 1 dX7_insert_84 rfl ?_
      refine mg_iconst (pc := 86) C dX7_insert_86 (v := 1) (by decide) ?_
      refine mg_iadd (pc := 87) C dX7_insert_87 ?_
      refine mg_puti (pc := 88) C (w2 := w_X7_insert k a_t a_t_values n_t_values v_t_capacity ((mg_mn v_t_count (v_t_capacity - 1)) + 1) (upd (upd (upd (va_cpy v_t_values v_t_values (Int32.toNatClampNeg (x1 * 3)) (Int32.toNatClampNeg ((x1 * 3) + 3)) (Int32.toNatClampNeg (((mg_mn v_t_count (v_t_capacity - 1)) - x1) * 3))) (Int32.toNatClampNeg (x1 * 3)) x2) (Int32.toNatClampNeg ((x1 * 3) + 1)) x3) (Int32.toNatClampNeg ((x1 * 3) + 2)) x4)) 0 rfl rfl inX7 2 (by decide) wm_83 rfl tyX7 tyX7_ok nmX7 rfl (by decide +kernel) (Nat.le_of_ble_eq_true rfl) rfl dX7_insert_88 ?_
      obtain rfl := Option.some.inj hf
      exact E _ _ dX7_insert_91
    · obtain rfl := Option.some.inj hf
      exact E _ _ dX7_insert_25
abbrev w_X7_remove (k : mg_K) (a_t a_t_values : Nat) (n_t_values : Nat) (v_t_capacity : Int32) (v_t_count : Int32) (v_t_values : Nat → Int32) : va_W := [(a_t, .inr (7, [.int v_t_capacity, .ref a_t_values, .int v_t_count])), (a_t_values, .inl (k.2.1, n_t_values, .inl v_t_values))]
def f_X7_remove (n_t_values : Nat) (v_t_count : Int32) (v_t_values : Nat → Int32) (x1 : Int32) : Option (Int32 × (Nat → Int32)) := (f_X7_has v_t_count x1).bind (fun q1 => if q1 = 0 then (some (v_t_count, v_t_values)) else (if mg_cp ((x1 * 3) + 3) (x1 * 3) (((v_t_count - 1) - x1) * 3) n_t_values n_t_values = true then (some (v_t_count - 1, va_cpy v_t_values v_t_values (Int32.toNatClampNeg ((x1 * 3) + 3)) (Int32.toNatClampNeg (x1 * 3)) (Int32.toNatClampNeg (((v_t_count - 1) - x1) * 3)))) else none))
theorem Y_X7_remove : mg_Y yX7_remove cX7_remove 3 none 1 := ⟨wm_784, wm_785, wm_6, wm_786, ⟨by decide +kernel, by decide +kernel, by decide +kernel⟩, by decide⟩
set_option maxRecDepth 100000 in
set_option maxHeartbeats 4000000 in
theorem c_X7_remove (l : Launch) (k : mg_K) (a_t a_t_values : Nat) (n_t_values : Nat) (v_t_capacity : Int32) (v_t_count : Int32) (v_t_values : Nat → Int32) (x1 : Int32) (q : Int32 × (Nat → Int32)) (hf : f_X7_remove n_t_values v_t_count v_t_values x1 = some q) : mg_M l yX7_remove cX7_remove 3 none 1 k [.ref a_t, .int x1] (w_X7_remove k a_t a_t_values n_t_values v_t_capacity v_t_count v_t_values) (w_X7_remove k a_t a_t_values n_t_values v_t_capacity q.1 q.2) none := by
  refine mg_Mv RX7 [(0, .ref a_t), (1, .int x1)] (by decide +kernel) rfl rfl (Nat.le_of_ble_eq_true rfl) ?_
  intro z A Q hl C E
  subst hl
  unfold f_X7_remove at hf
  refine mg_aload_n (pc := 0) C 0 dX7_remove_0 rfl rfl ?_
  refine mg_iload_n (pc := 1) C 1 dX7_remove_1 rfl rfl ?_
  obtain ⟨q1, h2, hf⟩ := mg_b hf
  refine mg_callV (pc := 2) C (w2 := w_X7_remove k a_t a_t_values n_t_values v_t_capacity v_t_count v_t_values) (c_X7_has z.2.1 k a_t a_t_values v_t_capacity v_t_count x1 q1 h2) Y_X7_has wm_787 (by decide) rfl 0 rfl rfl rfl [0] rfl (by decide) rfl [some 0, none] (by decide) rfl (Nat.le_of_ble_eq_true rfl) rfl dX7_remove_2 ?_
  refine mg_if_ne (pc := 5) (tgt := 9) C dX7_remove_5 (by decide) hf (fun hf => ?_) (fun hf => ?_)
  · refine mg_iload_n (pc := 9) C 1 dX7_remove_9 rfl rfl ?_
    refine mg_iconst (pc := 10) C dX7_remove_10 (v := 3) (by decide) ?_
    refine mg_imul (pc := 11) C dX7_remove_11 ?_
    refine mg_istore_n (pc := 12) C (lv' := [(2, .int (x1 * 3)), (0, .ref a_t), (1, .int x1)]) dX7_remove_12 rfl (by decide) rfl ?_
    refine mg_aload_n (pc := 13) C 1 dX7_remove_13 rfl rfl ?_
    refine mg_get (pc := 14) C 0 rfl rfl inX7 1 (by decide) wm_80 rfl rfl dX7_remove_14 ?_
    refine mg_iload_n (pc := 17) C 0 dX7_remove_17 rfl rfl ?_
    refine mg_iconst (pc := 18) C dX7_remove_18 (v := 3) (by decide) ?_
    refine mg_iadd (pc := 19) C dX7_remove_19 ?_
    refine mg_aload_n (pc := 20) C 1 dX7_remove_20 rfl rfl ?_
    refine mg_get (pc := 21) C 0 rfl rfl inX7 1 (by decide) wm_80 rfl rfl dX7_remove_21 ?_
    refine mg_iload_n (pc := 24) C 0 dX7_remove_24 rfl rfl ?_
    refine mg_aload_n (pc := 25) C 1 dX7_remove_25 rfl rfl ?_
    refine mg_get (pc := 26) C 0 rfl rfl inX7 2 (by decide) wm_83 rfl rfl dX7_remove_26 ?_
    refine mg_iconst (pc := 29) C dX7_remove_29 (v := 1) (by decide) ?_
    refine mg_isub (pc := 30) C dX7_remove_30 ?_
    refine mg_iload_n (pc := 31) C 2 dX7_remove_31 rfl rfl ?_
    refine mg_isub (pc := 32) C dX7_remove_32 ?_
    refine mg_iconst (pc := 33) C dX7_remove_33 (v := 3) (by decide) ?_
    refine mg_imul (pc := 34) C dX7_remove_34 ?_
    refine mg_copy (pc := 35) C (w2 := w_X7_remove k a_t a_t_values n_t_values v_t_capacity v_t_count (va_cpy v_t_values v_t_values (Int32.toNatClampNeg ((x1 * 3) + 3)) (Int32.toNatClampNeg (x1 * 3)) (Int32.toNatClampNeg (((v_t_count - 1) - x1) * 3)))) wm_467 wm_469 wm_468 wm_16 (by decide) (Nat.le_of_ble_eq_true rfl) 1 1 rfl rfl dX7_remove_35 hf rfl (fun hf => ?_)
    refine mg_aload_n (pc := 38) C 1 dX7_remove_38 rfl rfl ?_
    refine mg_dup (pc := 39) C dX7_remove_39 rfl ?_
    refine mg_get (pc := 40) C 0 rfl rfl inX7 2 (by decide) wm_83 rfl rfl dX7_remove_40 ?_
    refine mg_iconst (pc := 43) C dX7_remove_43 (v := 1) (by decide) ?_
    refine mg_isub (pc := 44) C dX7_remove_44 ?_
    refine mg_puti (pc := 45) C (w2 := w_X7_remove k a_t a_t_values n_t_values v_t_capacity (v_t_count - 1) (va_cpy v_t_values v_t_values (Int32.toNatClampNeg ((x1 * 3) + 3)) (Int32.toNatClampNeg (x1 * 3)) (Int32.toNatClampNeg (((v_t_count - 1) - x1) * 3)))) 0 rfl rfl inX7 2 (by decide) wm_83 rfl tyX7 tyX7_ok nmX7 rfl (by decide +kernel) (Nat.le_of_ble_eq_true rfl) rfl dX7_remove_45 ?_
    obtain rfl := Option.some.inj hf
    exact E _ _ dX7_remove_48
  · obtain rfl := Option.some.inj hf
    exact E _ _ dX7_remove_8
abbrev w_X7_copyFrom (k : mg_K) (a_t a_p1 a_p1_values a_t_values : Nat) (n_p1_values n_t_values : Nat) (v_p1_capacity : Int32) (v_p1_count : Int32) (v_p1_values : Nat → Int32) (v_t_capacity : Int32) (v_t_count : Int32) (v_t_values : Nat → Int32) : va_W := [(a_p1, .inr (7, [.int v_p1_capacity, .ref a_p1_values, .int v_p1_count])), (a_p1_values, .inl (k.2.1, n_p1_values, .inl v_p1_values)), (a_t, .inr (7, [.int v_t_capacity, .ref a_t_values, .int v_t_count])), (a_t_values, .inl (k.2.1, n_t_values, .inl v_t_values))]
def f_X7_copyFrom (n_p1_values : Nat) (n_t_values : Nat) (v_p1_count : Int32) (v_p1_values : Nat → Int32) (v_t_capacity : Int32) (v_t_values : Nat → Int32) : Option (Int32 × (Nat → Int32)) := if mg_cp 0 0 ((mg_mn v_p1_count v_t_capacity) * 3) n_p1_values n_t_values = true then (some (mg_mn v_p1_count v_t_capacity, va_cpy v_p1_values v_t_values (Int32.toNatClampNeg 0) (Int32.toNatClampNeg 0) (Int32.toNatClampNeg ((mg_mn v_p1_count v_t_capacity) * 3)))) else none
theorem Y_X7_copyFrom : mg_Y yX7_copyFrom cX7_copyFrom 3 none 1 := ⟨wm_497, wm_498, wm_6, wm_499, ⟨by decide +kernel, by decide +kernel, by decide +kernel⟩, by decide⟩
set_option maxRecDepth 100000 in
set_option maxHeartbeats 4000000 in
theorem c_X7_copyFrom (l : Launch) (k : mg_K) (a_t a_p1 a_p1_values a_t_values : Nat) (n_p1_values n_t_values : Nat) (v_p1_capacity : Int32) (v_p1_count : Int32) (v_p1_values : Nat → Int32) (v_t_capacity : Int32) (v_t_count : Int32) (v_t_values : Nat → Int32) (q : Int32 × (Nat → Int32)) (hf : f_X7_copyFrom n_p1_values n_t_values v_p1_count v_p1_values v_t_capacity v_t_values = some q) : mg_M l yX7_copyFrom cX7_copyFrom 3 none 1 k [.ref a_t, .ref a_p1] (w_X7_copyFrom k a_t a_p1 a_p1_values a_t_values n_p1_values n_t_values v_p1_capacity v_p1_count v_p1_values v_t_capacity v_t_count v_t_values) (w_X7_copyFrom k a_t a_p1 a_p1_values a_t_values n_p1_values n_t_values v_p1_capacity v_p1_count v_p1_values v_t_capacity q.1 q.2) none := by
  refine mg_Mv RX7 [(0, .ref a_t), (1, .ref a_p1)] (by decide +kernel) rfl rfl (Nat.le_of_ble_eq_true rfl) ?_
  intro z A Q hl C E
  subst hl
  unfold f_X7_copyFrom at hf
  refine mg_aload_n (pc := 0) C 1 dX7_copyFrom_0 rfl rfl ?_
  refine mg_get (pc := 1) C 0 rfl rfl inX7 2 (by decide) wm_83 rfl rfl dX7_copyFrom_1 ?_
  refine mg_aload_n (pc := 4) C 0 dX7_copyFrom_4 rfl rfl ?_
  refine mg_get (pc := 5) C 2 rfl rfl inX7 0 (by decide) wm_79 rfl rfl dX7_copyFrom_5 ?_
  refine mg_mmin (pc := 8) C wm_464 wm_465 wm_7 wm_466 (by decide) (Nat.le_of_ble_eq_true rfl) dX7_copyFrom_8 ?_
  refine mg_istore_n (pc := 11) C (lv' := [(2, .int (mg_mn v_p1_count v_t_capacity)), (0, .ref a_t), (1, .ref a_p1)]) dX7_copyFrom_11 rfl (by decide) rfl ?_
  refine mg_aload_n (pc := 12) C 2 dX7_copyFrom_12 rfl rfl ?_
  refine mg_get (pc := 13) C 0 rfl rfl inX7 1 (by decide) wm_80 rfl rfl dX7_copyFrom_13 ?_
  refine mg_iconst (pc := 16) C dX7_copyFrom_16 (v := 0) (by decide) ?_
  refine mg_aload_n (pc := 17) C 1 dX7_copyFrom_17 rfl rfl ?_
  refine mg_get (pc := 18) C 2 rfl rfl inX7 1 (by decide) wm_80 rfl rfl dX7_copyFrom_18 ?_
  refine mg_iconst (pc := 21) C dX7_copyFrom_21 (v := 0) (by decide) ?_
  refine mg_iload_n (pc := 22) C 0 dX7_copyFrom_22 rfl rfl ?_
  refine mg_iconst (pc := 23) C dX7_copyFrom_23 (v := 3) (by decide) ?_
  refine mg_imul (pc := 24) C dX7_copyFrom_24 ?_
  refine mg_copy (pc := 25) C (w2 := w_X7_copyFrom k a_t a_p1 a_p1_values a_t_values n_p1_values n_t_values v_p1_capacity v_p1_count v_p1_values v_t_capacity v_t_count (va_cpy v_p1_values v_t_values (Int32.toNatClampNeg 0) (Int32.toNatClampNeg 0) (Int32.toNatClampNeg ((mg_mn v_p1_count v_t_capacity) * 3)))) wm_467 wm_469 wm_468 wm_16 (by decide) (Nat.le_of_ble_eq_true rfl) 1 3 rfl rfl dX7_copyFrom_25 hf rfl (fun hf => ?_)
  refine mg_aload_n (pc := 28) C 1 dX7_copyFrom_28 rfl rfl ?_
  refine mg_iload_n (pc := 29) C 0 dX7_copyFrom_29 rfl rfl ?_
  refine mg_puti (pc := 30) C (w2 := w_X7_copyFrom k a_t a_p1 a_p1_values a_t_values n_p1_values n_t_values v_p1_capacity v_p1_count v_p1_values v_t_capacity (mg_mn v_p1_count v_t_capacity) (va_cpy v_p1_values v_t_values (Int32.toNatClampNeg 0) (Int32.toNatClampNeg 0) (Int32.toNatClampNeg ((mg_mn v_p1_count v_t_capacity) * 3)))) 2 rfl rfl inX7 2 (by decide) wm_83 rfl tyX7 tyX7_ok nmX7 rfl (by decide +kernel) (Nat.le_of_ble_eq_true rfl) rfl dX7_copyFrom_30 ?_
  obtain rfl := Option.some.inj hf
  exact E _ _ dX7_copyFrom_33
