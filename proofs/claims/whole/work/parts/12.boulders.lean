abbrev w_X0_depthOf (k : mg_K) (a_t a_t_list a_t_list_values : Nat) (v_t_list_count : Int32) (v_t_list_values : Nat → Int32) : va_W := [(a_t, .inr (0, [.ref a_t_list])), (a_t_list, .inr (7, [.int 10, .ref a_t_list_values, .int v_t_list_count])), (a_t_list_values, .inl (k.2.1, 30, .inl v_t_list_values))]
def f_X0_depthOf (v_t_list_count : Int32) (v_t_list_values : Nat → Int32) (x1 : Int32) : Option (Int32) := (f_X7_get 30 v_t_list_count v_t_list_values x1 1).bind (fun q1 => some q1)
theorem Y_X0_depthOf : mg_Y yX0_depthOf cX0_depthOf 2 (some .int) 1 := ⟨wm_725, wm_726, wm_8, wm_727, ⟨by decide +kernel, by decide +kernel, by decide +kernel⟩, by decide⟩
set_option maxRecDepth 100000 in
set_option maxHeartbeats 4000000 in
theorem c_X0_depthOf (l : Launch) (k : mg_K) (a_t a_t_list a_t_list_values : Nat) (v_t_list_count : Int32) (v_t_list_values : Nat → Int32) (x1 : Int32) (q : Int32) (hf : f_X0_depthOf v_t_list_count v_t_list_values x1 = some q) : mg_M l yX0_depthOf cX0_depthOf 2 (some .int) 1 k [.ref a_t, .int x1] (w_X0_depthOf k a_t a_t_list a_t_list_values v_t_list_count v_t_list_values) (w_X0_depthOf k a_t a_t_list a_t_list_values v_t_list_count v_t_list_values) (some (.int q)) := by
  refine mg_Mi RX0 [(0, .ref a_t), (1, .int x1)] (by decide +kernel) rfl rfl (Nat.le_of_ble_eq_true rfl) ?_
  intro z A Q hl C E
  subst hl
  unfold f_X0_depthOf at hf
  refine mg_aload_n (pc := 0) C 0 dX0_depthOf_0 rfl rfl ?_
  refine mg_get (pc := 1) C 0 rfl rfl inX0 0 (by decide) wm_109 rfl rfl dX0_depthOf_1 ?_
  refine mg_iload_n (pc := 4) C 1 dX0_depthOf_4 rfl rfl ?_
  refine mg_iconst (pc := 5) C dX0_depthOf_5 (v := 1) (by decide) ?_
  obtain ⟨q1, h2, hf⟩ := mg_b hf
  refine mg_callV (pc := 6) C (w2 := w_X0_depthOf k a_t a_t_list a_t_list_values v_t_list_count v_t_list_values) (c_X7_get z.2.1 k a_t_list a_t_list_values 30 10 v_t_list_count v_t_list_values x1 1 q1 h2) Y_X7_get wm_441 (by decide) rfl 1 rfl rfl rfl [1, 2] rfl (by decide) rfl [none, some 0, some 1] (by decide) rfl (Nat.le_of_ble_eq_true rfl) rfl dX0_depthOf_6 ?_
  obtain rfl := Option.some.inj hf
  exact E _ _ dX0_depthOf_9
abbrev w_X0_isTaken (k : mg_K) (a_t a_t_list a_t_list_values : Nat) (v_t_list_count : Int32) (v_t_list_values : Nat → Int32) : va_W := [(a_t, .inr (0, [.ref a_t_list])), (a_t_list, .inr (7, [.int 10, .ref a_t_list_values, .int v_t_list_count])), (a_t_list_values, .inl (k.2.1, 30, .inl v_t_list_values))]
def f_X0_isTaken_L2 (v_t_list_count : Int32) (v_t_list_values : Nat → Int32) (x1 : Int32) (x2 : Int32) : Nat → Int32 → Option (Nat × Int32)
  | 0, _ => none
  | n_ + 1, x3 => if v_t_list_count ≤ x3 then (some (0, x3)) else ((f_X7_get 30 v_t_list_count v_t_list_values x3 0).bind (fun q1 => if q1 = x1 then ((f_X7_get 30 v_t_list_count v_t_list_values x3 1).bind (fun q3 => if q3 = x2 then (some (1, x3)) else (f_X0_isTaken_L2 v_t_list_count v_t_list_values x1 x2 n_ (x3 + 1)))) else (f_X0_isTaken_L2 v_t_list_count v_t_list_values x1 x2 n_ (x3 + 1))))
def f_X0_isTaken (fuel : Nat) (v_t_list_count : Int32) (v_t_list_values : Nat → Int32) (x1 : Int32) (x2 : Int32) : Option (Int32) := (f_X0_isTaken_L2 v_t_list_count v_t_list_values x1 x2 fuel 0).bind (fun q5 => if q5.1 = 0 then (some 0) else (some 1))
theorem Y_X0_isTaken : mg_Y yX0_isTaken cX0_isTaken 4 (some .boolean) 2 := ⟨wm_438, wm_439, wm_8, wm_440, ⟨by decide +kernel, by decide +kernel, by decide +kernel⟩, by decide⟩
set_option maxRecDepth 100000 in
set_option maxHeartbeats 4000000 in
theorem c_X0_isTaken (l : Launch) (k : mg_K) (a_t a_t_list a_t_list_values : Nat) (v_t_list_count : Int32) (v_t_list_values : Nat → Int32) (fuel : Nat) (x1 : Int32) (x2 : Int32) (q : Int32) (hf : f_X0_isTaken fuel v_t_list_count v_t_list_values x1 x2 = some q) : mg_M l yX0_isTaken cX0_isTaken 4 (some .boolean) 1 k [.ref a_t, .int x1, .int x2] (w_X0_isTaken k a_t a_t_list a_t_list_values v_t_list_count v_t_list_values) (w_X0_isTaken k a_t a_t_list a_t_list_values v_t_list_count v_t_list_values) (some (.int q)) := by
  refine mg_Mz RX0 [(0, .ref a_t), (1, .int x1), (2, .int x2)] (by decide +kernel) rfl rfl (Nat.le_of_ble_eq_true rfl) ?_
  intro z A Q hl C E
  subst hl
  unfold f_X0_isTaken at hf
  have L2 : ∀ (x1 : Int32) (x2 : Int32) (n_ : Nat) (x3 : Int32) (q_ : Nat × Int32), f_X0_isTaken_L2 v_t_list_count v_t_list_values x1 x2 n_ x3 = some q_ → (q_.1 = 0 → mg z k A 4 0 0 Q (w_X0_isTaken k a_t a_t_list a_t_list_values v_t_list_count v_t_list_values) [] 47 []) → (q_.1 = 1 → mg z k A 4 0 0 Q (w_X0_isTaken k a_t a_t_list a_t_list_values v_t_list_count v_t_list_values) [] 39 []) → mg z k A 4 0 0 Q (w_X0_isTaken k a_t a_t_list a_t_list_values v_t_list_count v_t_list_values) [(0, .ref a_t), (1, .int x1), (2, .int x2), (3, .int x3)] 2 [] := by
    intro x1 x2 n_
    induction n_ with
    | zero => intro x3 q_ hf; exact mg_no (show none = some q_ from hf)
    | succ n_ ih =>
      intro x3 q_ hf X0 X1
      rw [f_X0_isTaken_L2] at hf
      refine mg_iload_n (pc := 2) C 3 dX0_isTaken_2 rfl rfl ?_
      refine mg_aload_n (pc := 3) C 0 dX0_isTaken_3 rfl rfl ?_
      refine mg_get (pc := 4) C 0 rfl rfl inX0 0 (by decide) wm_109 rfl rfl dX0_isTaken_4 ?_
      refine mg_get (pc := 7) C 1 rfl rfl inX7 2 (by decide) wm_85 rfl rfl dX0_isTaken_7 ?_
      refine mg_icmp_ge (pc := 10) (tgt := 47) C dX0_isTaken_10 (by decide) hf (fun hf => ?_) (fun hf => ?_)
      · obtain rfl := Option.some.inj hf
        refine mg_lv [] rfl ?_
        exact (X0 rfl)
      · refine mg_aload_n (pc := 13) C 0 dX0_isTaken_13 rfl rfl ?_
        refine mg_get (pc := 14) C 0 rfl rfl inX0 0 (by decide) wm_109 rfl rfl dX0_isTaken_14 ?_
        refine mg_iload_n (pc := 17) C 3 dX0_isTaken_17 rfl rfl ?_
        refine mg_iconst (pc := 18) C dX0_isTaken_18 (v := 0) (by decide) ?_
        obtain ⟨q1, h2, hf⟩ := mg_b hf
        refine mg_callV (pc := 19) C (w2 := w_X0_isTaken k a_t a_t_list a_t_list_values v_t_list_count v_t_list_values) (c_X7_get z.2.1 k a_t_list a_t_list_values 30 10 v_t_list_count v_t_list_values x3 0 q1 h2) Y_X7_get wm_441 (by decide) rfl 1 rfl rfl rfl [1, 2] rfl (by decide) rfl [none, some 0, some 1] (by decide) rfl (Nat.le_of_ble_eq_true rfl) rfl dX0_isTaken_19 ?_
        refine mg_iload_n (pc := 22) C 1 dX0_isTaken_22 rfl rfl ?_
        refine mg_icmp_ne (pc := 23) (tgt := 41) C dX0_isTaken_23 (by decide) hf (fun hf => ?_) (fun hf => ?_)
        · refine mg_iinc (pc := 41) C (c := 1) (lv' := [(3, .int (x3 + 1)), (0, .ref a_t), (1, .int x1), (2, .int x2)]) 3 dX0_isTaken_41 rfl (by decide) (by decide) rfl ?_
          refine mg_goto (pc := 44) (tgt := 2) C dX0_isTaken_44 (by decide) ?_
          refine mg_lv [1, 2, 3, 0] rfl ?_
          exact ih (x3 + 1) _ hf X0 X1
        · refine mg_aload_n (pc := 26) C 0 dX0_isTaken_26 rfl rfl ?_
          refine mg_get (pc := 27) C 0 rfl rfl inX0 0 (by decide) wm_109 rfl rfl dX0_isTaken_27 ?_
          refine mg_iload_n (pc := 30) C 3 dX0_isTaken_30 rfl rfl ?_
          refine mg_iconst (pc := 31) C dX0_isTaken_31 (v := 1) (by decide) ?_
          obtain ⟨q3, h4, hf⟩ := mg_b hf
          refine mg_callV (pc := 32) C (w2 := w_X0_isTaken k a_t a_t_list a_t_list_values v_t_list_count v_t_list_values) (c_X7_get z.2.1 k a_t_list a_t_list_values 30 10 v_t_list_count v_t_list_values x3 1 q3 h4) Y_X7_get wm_441 (by decide) rfl 1 rfl rfl rfl [1, 2] rfl (by decide) rfl [none, some 0, some 1] (by decide) rfl (Nat.le_of_ble_eq_true rfl) rfl dX0_isTaken_32 ?_
          refine mg_iload_n (pc := 35) C 2 dX0_isTaken_35 rfl rfl ?_
          refine mg_icmp_ne (pc := 36) (tgt := 41) C dX0_isTaken_36 (by decide) hf (fun hf => ?_) (fun hf => ?_)
          · refine mg_iinc (pc := 41) C (c := 1) (lv' := [(3, .int (x3 + 1)), (0, .ref a_t), (1, .int x1), (2, .int x2)]) 3 dX0_isTaken_41 rfl (by decide) (by decide) rfl ?_
            refine mg_goto (pc := 44) (tgt := 2) C dX0_isTaken_44 (by decide) ?_
            refine mg_lv [1, 2, 3, 0] rfl ?_
            exact ih (x3 + 1) _ hf X0 X1
          · obtain rfl := Option.some.inj hf
            refine mg_lv [] rfl ?_
            exact (X1 rfl)
  refine mg_iconst (pc := 0) C dX0_isTaken_0 (v := 0) (by decide) ?_
  refine mg_istore_n (pc := 1) C (lv' := [(3, .int 0), (0, .ref a_t), (1, .int x1), (2, .int x2)]) dX0_isTaken_1 rfl (by decide) rfl ?_
  obtain ⟨q5, h6, hf⟩ := mg_b hf
  refine mg_lv [1, 2, 3, 0] rfl ?_
  refine L2 x1 x2 fuel 0 q5 h6 (fun e7 => ?_) (fun e8 => ?_)
  · have hf := mg_t e7 hf
    refine mg_iconst (pc := 47) C dX0_isTaken_47 (v := 0) (by decide) ?_
    obtain rfl := Option.some.inj hf
    exact E mg_n0 _ _ dX0_isTaken_48
  · have hf := mg_f (by rw [e8]; decide) hf
    refine mg_iconst (pc := 39) C dX0_isTaken_39 (v := 1) (by decide) ?_
    obtain rfl := Option.some.inj hf
    exact E mg_n1 _ _ dX0_isTaken_40
abbrev w_X0_rankOf (k : mg_K) (a_t a_t_list a_t_list_values : Nat) (v_t_list_count : Int32) (v_t_list_values : Nat → Int32) : va_W := [(a_t, .inr (0, [.ref a_t_list])), (a_t_list, .inr (7, [.int 10, .ref a_t_list_values, .int v_t_list_count])), (a_t_list_values, .inl (k.2.1, 30, .inl v_t_list_values))]
def f_X0_rankOf_L5 (v_t_list_count : Int32) (v_t_list_values : Nat → Int32) (x1 : Int32) (x2 : Int32) : Nat → Int32 → Int32 → Option (Int32 × Int32)
  | 0, _, _ => none
  | n_ + 1, x3, x4 => if v_t_list_count ≤ x4 then (some ((x3, x4))) else ((f_X7_get 30 v_t_list_count v_t_list_values x4 0).bind (fun q1 => if q1 < x1 then (f_X0_rankOf_L5 v_t_list_count v_t_list_values x1 x2 n_ (x3 + 1) (x4 + 1)) else (if q1 = x1 then ((f_X7_get 30 v_t_list_count v_t_list_values x4 1).bind (fun q3 => if x2 ≤ q3 then (f_X0_rankOf_L5 v_t_list_count v_t_list_values x1 x2 n_ x3 (x4 + 1)) else (f_X0_rankOf_L5 v_t_list_count v_t_list_values x1 x2 n_ (x3 + 1) (x4 + 1)))) else (f_X0_rankOf_L5 v_t_list_count v_t_list_values x1 x2 n_ x3 (x4 + 1)))))
def f_X0_rankOf (fuel : Nat) (v_t_list_count : Int32) (v_t_list_values : Nat → Int32) (x1 : Int32) (x2 : Int32) : Option (Int32) := (f_X0_rankOf_L5 v_t_list_count v_t_list_values x1 x2 fuel 0 0).bind (fun q5 => some q5.1)
theorem Y_X0_rankOf : mg_Y yX0_rankOf cX0_rankOf 6 (some .int) 2 := ⟨wm_476, wp_12, wm_8, wm_477, ⟨by decide +kernel, by decide +kernel, by decide +kernel⟩, by decide⟩
set_option maxRecDepth 100000 in
set_option maxHeartbeats 4000000 in
theorem c_X0_rankOf (l : Launch) (k : mg_K) (a_t a_t_list a_t_list_values : Nat) (v_t_list_count : Int32) (v_t_list_values : Nat → Int32) (fuel : Nat) (x1 : Int32) (x2 : Int32) (q : Int32) (hf : f_X0_rankOf fuel v_t_list_count v_t_list_values x1 x2 = some q) : mg_M l yX0_rankOf cX0_rankOf 6 (some .int) 1 k [.ref a_t, .int x1, .int x2] (w_X0_rankOf k a_t a_t_list a_t_list_values v_t_list_count v_t_list_values) (w_X0_rankOf k a_t a_t_list a_t_list_values v_t_list_count v_t_list_values) (some (.int q)) := by
  refine mg_Mi RX0 [(0, .ref a_t), (1, .int x1), (2, .int x2)] (by decide +kernel) rfl rfl (Nat.le_of_ble_eq_true rfl) ?_
  intro z A Q hl C E
  subst hl
  unfold f_X0_rankOf at hf
  have L5 : ∀ (x1 : Int32) (x2 : Int32) (n_ : Nat) (x3 : Int32) (x4 : Int32) (q_ : Int32 × Int32), f_X0_rankOf_L5 v_t_list_count v_t_list_values x1 x2 n_ x3 x4 = some q_ → (mg z k A 6 0 0 Q (w_X0_rankOf k a_t a_t_list a_t_list_values v_t_list_count v_t_list_values) [(3, .int q_.1)] 64 []) → mg z k A 6 0 0 Q (w_X0_rankOf k a_t a_t_list a_t_list_values v_t_list_count v_t_list_values) [(0, .ref a_t), (1, .int x1), (2, .int x2), (3, .int x3), (4, .int x4)] 5 [] := by
    intro x1 x2 n_
    induction n_ with
    | zero => intro x3 x4 q_ hf; exact mg_no (show none = some q_ from hf)
    | succ n_ ih =>
      intro x3 x4 q_ hf X0
      rw [f_X0_rankOf_L5] at hf
      refine mg_iload (pc := 5) C 4 dX0_rankOf_5 rfl ?_
      refine mg_aload_n (pc := 7) C 0 dX0_rankOf_7 rfl rfl ?_
      refine mg_get (pc := 8) C 0 rfl rfl inX0 0 (by decide) wm_109 rfl rfl dX0_rankOf_8 ?_
      refine mg_get (pc := 11) C 1 rfl rfl inX7 2 (by decide) wm_85 rfl rfl dX0_rankOf_11 ?_
      refine mg_icmp_ge (pc := 14) (tgt := 64) C dX0_rankOf_14 (by decide) hf (fun hf => ?_) (fun hf => ?_)
      · obtain rfl := Option.some.inj hf
        refine mg_lv [3] rfl ?_
        exact X0
      · refine mg_aload_n (pc := 17) C 0 dX0_rankOf_17 rfl rfl ?_
        refine mg_get (pc := 18) C 0 rfl rfl inX0 0 (by decide) wm_109 rfl rfl dX0_rankOf_18 ?_
        refine mg_iload (pc := 21) C 4 dX0_rankOf_21 rfl ?_
        refine mg_iconst (pc := 23) C dX0_rankOf_23 (v := 0) (by decide) ?_
        obtain ⟨q1, h2, hf⟩ := mg_b hf
        refine mg_callV (pc := 24) C (w2 := w_X0_rankOf k a_t a_t_list a_t_list_values v_t_list_count v_t_list_values) (c_X7_get z.2.1 k a_t_list a_t_list_values 30 10 v_t_list_count v_t_list_values x4 0 q1 h2) Y_X7_get wm_441 (by decide) rfl 1 rfl rfl rfl [1, 2] rfl (by decide) rfl [none, some 0, some 1] (by decide) rfl (Nat.le_of_ble_eq_true rfl) rfl dX0_rankOf_24 ?_
        refine mg_istore (pc := 27) C (lv' := [(5, .int q1), (0, .ref a_t), (1, .int x1), (2, .int x2), (3, .int x3), (4, .int x4)]) dX0_rankOf_27 (by decide) rfl ?_
        refine mg_iload (pc := 29) C 0 dX0_rankOf_29 rfl ?_
        refine mg_iload_n (pc := 31) C 2 dX0_rankOf_31 rfl rfl ?_
        refine mg_icmp_lt (pc := 32) (tgt := 55) C dX0_rankOf_32 (by decide) hf (fun hf => ?_) (fun hf => ?_)
        · refine mg_iinc (pc := 55) C (c := 1) (lv' := [(3, .int (x3 + 1)), (5, .int q1), (0, .ref a_t), (1, .int x1), (2, .int x2), (4, .int x4)]) 4 dX0_rankOf_55 rfl (by decide) (by decide) rfl ?_
          refine mg_iinc (pc := 58) C (c := 1) (lv' := [(4, .int (x4 + 1)), (3, .int (x3 + 1)), (5, .int q1), (0, .ref a_t), (1, .int x1), (2, .int x2)]) 5 dX0_rankOf_58 rfl (by decide) (by decide) rfl ?_
          refine mg_goto (pc := 61) (tgt := 5) C dX0_rankOf_61 (by decide) ?_
          refine mg_lv [3, 4, 5, 1, 0] rfl ?_
          exact ih (x3 + 1) (x4 + 1) _ hf X0
        · refine mg_iload (pc := 35) C 0 dX0_rankOf_35 rfl ?_
          refine mg_iload_n (pc := 37) C 2 dX0_rankOf_37 rfl rfl ?_
          refine mg_icmp_ne (pc := 38) (tgt := 58) C dX0_rankOf_38 (by decide) hf (fun hf => ?_) (fun hf => ?_)
          · refine mg_iinc (pc := 58) C (c := 1) (lv' := [(4, .int (x4 + 1)), (5, .int q1), (0, .ref a_t), (1, .int x1), (2, .int x2), (3, .int x3)]) 5 dX0_rankOf_58 rfl (by decide) (by decide) rfl ?_
            refine mg_goto (pc := 61) (tgt := 5) C dX0_rankOf_61 (by decide) ?_
            refine mg_lv [2, 3, 4, 5, 0] rfl ?_
            exact ih x3 (x4 + 1) _ hf X0
          · refine mg_aload_n (pc := 41) C 1 dX0_rankOf_41 rfl rfl ?_
            refine mg_get (pc := 42) C 0 rfl rfl inX0 0 (by decide) wm_109 rfl rfl dX0_rankOf_42 ?_
            refine mg_iload (pc := 45) C 5 dX0_rankOf_45 rfl ?_
            refine mg_iconst (pc := 47) C dX0_rankOf_47 (v := 1) (by decide) ?_
            obtain ⟨q3, h4, hf⟩ := mg_b hf
            refine mg_callV (pc := 48) C (w2 := w_X0_rankOf k a_t a_t_list a_t_list_values v_t_list_count v_t_list_values) (c_X7_get z.2.1 k a_t_list a_t_list_values 30 10 v_t_list_count v_t_list_values x4 1 q3 h4) Y_X7_get wm_441 (by decide) rfl 1 rfl rfl rfl [1, 2] rfl (by decide) rfl [none, some 0, some 1] (by decide) rfl (Nat.le_of_ble_eq_true rfl) rfl dX0_rankOf_48 ?_
            refine mg_iload_n (pc := 51) C 3 dX0_rankOf_51 rfl rfl ?_
            refine mg_icmp_ge (pc := 52) (tgt := 58) C dX0_rankOf_52 (by decide) hf (fun hf => ?_) (fun hf => ?_)
            · refine mg_iinc (pc := 58) C (c := 1) (lv' := [(4, .int (x4 + 1)), (5, .int q1), (0, .ref a_t), (1, .int x1), (2, .int x2), (3, .int x3)]) 5 dX0_rankOf_58 rfl (by decide) (by decide) rfl ?_
              refine mg_goto (pc := 61) (tgt := 5) C dX0_rankOf_61 (by decide) ?_
              refine mg_lv [2, 3, 4, 5, 0] rfl ?_
              exact ih x3 (x4 + 1) _ hf X0
            · refine mg_iinc (pc := 55) C (c := 1) (lv' := [(3, .int (x3 + 1)), (5, .int q1), (0, .ref a_t), (1, .int x1), (2, .int x2), (4, .int x4)]) 4 dX0_rankOf_55 rfl (by decide) (by decide) rfl ?_
              refine mg_iinc (pc := 58) C (c := 1) (lv' := [(4, .int (x4 + 1)), (3, .int (x3 + 1)), (5, .int q1), (0, .ref a_t), (1, .int x1), (2, .int x2)]) 5 dX0_rankOf_58 rfl (by decide) (by decide) rfl ?_
              refine mg_goto (pc := 61) (tgt := 5) C dX0_rankOf_61 (by decide) ?_
              refine mg_lv [3, 4, 5, 1, 0] rfl ?_
              exact ih (x3 + 1) (x4 + 1) _ hf X0
  refine mg_iconst (pc := 0) C dX0_rankOf_0 (v := 0) (by decide) ?_
  refine mg_istore_n (pc := 1) C (lv' := [(3, .int 0), (0, .ref a_t), (1, .int x1), (2, .int x2)]) dX0_rankOf_1 rfl (by decide) rfl ?_
  refine mg_iconst (pc := 2) C dX0_rankOf_2 (v := 0) (by decide) ?_
  refine mg_istore (pc := 3) C (lv' := [(4, .int 0), (3, .int 0), (0, .ref a_t), (1, .int x1), (2, .int x2)]) dX0_rankOf_3 (by decide) rfl ?_
  obtain ⟨q5, h6, hf⟩ := mg_b hf
  refine mg_lv [2, 3, 4, 1, 0] rfl ?_
  refine L5 x1 x2 fuel 0 0 q5 h6 ?_
  refine mg_iload_n (pc := 64) C 0 dX0_rankOf_64 rfl rfl ?_
  obtain rfl := Option.some.inj hf
  exact E _ _ dX0_rankOf_65
abbrev w_X0_firstFrom (k : mg_K) (a_t a_t_list a_t_list_values : Nat) (v_t_list_count : Int32) (v_t_list_values : Nat → Int32) : va_W := [(a_t, .inr (0, [.ref a_t_list])), (a_t_list, .inr (7, [.int 10, .ref a_t_list_values, .int v_t_list_count])), (a_t_list_values, .inl (k.2.1, 30, .inl v_t_list_values))]
def f_X0_firstFrom (fuel : Nat) (v_t_list_count : Int32) (v_t_list_values : Nat → Int32) (x1 : Int32) (x2 : Int32) : Option (Int32) := (f_X0_rankOf fuel v_t_list_count v_t_list_values x1 x2).bind (fun q1 => (f_X7_get 30 v_t_list_count v_t_list_values q1 0).bind (fun q3 => if q3 = x1 then (some q1) else (some (-1000009))))
theorem Y_X0_firstFrom : mg_Y yX0_firstFrom cX0_firstFrom 4 (some .int) 2 := ⟨wm_719, wm_720, wm_8, wm_721, ⟨by decide +kernel, by decide +kernel, by decide +kernel⟩, by decide⟩
set_option maxRecDepth 100000 in
set_option maxHeartbeats 4000000 in
theorem c_X0_firstFrom (l : Launch) (k : mg_K) (a_t a_t_list a_t_list_values : Nat) (v_t_list_count : Int32) (v_t_list_values : Nat → Int32) (fuel : Nat) (x1 : Int32) (x2 : Int32) (q : Int32) (hf : f_X0_firstFrom fuel v_t_list_count v_t_list_values x1 x2 = some q) : mg_M l yX0_firstFrom cX0_firstFrom 4 (some .int) 2 k [.ref a_t, .int x1, .int x2] (w_X0_firstFrom k a_t a_t_list a_t_list_values v_t_list_count v_t_list_values) (w_X0_firstFrom k a_t a_t_list a_t_list_values v_t_list_count v_t_list_values) (some (.int q)) := by
  refine mg_Mi RX0 [(0, .ref a_t), (1, .int x1), (2, .int x2)] (by decide +kernel) rfl rfl (Nat.le_of_ble_eq_true rfl) ?_
  intro z A Q hl C E
  subst hl
  unfold f_X0_firstFrom at hf
  refine mg_aload_n (pc := 0) C 0 dX0_firstFrom_0 rfl rfl ?_
  refine mg_iload_n (pc := 1) C 1 dX0_firstFrom_1 rfl rfl ?_
  refine mg_iload_n (pc := 2) C 2 dX0_firstFrom_2 rfl rfl ?_
  obtain ⟨q1, h2, hf⟩ := mg_b hf
  refine mg_callV (pc := 3) C (w2 := w_X0_firstFrom k a_t a_t_list a_t_list_values v_t_list_count v_t_list_values) (c_X0_rankOf z.2.1 k a_t a_t_list a_t_list_values v_t_list_count v_t_list_values fuel x1 x2 q1 h2) Y_X0_rankOf wm_474 (by decide) rfl 0 rfl rfl rfl [0, 1, 2] rfl (by decide) rfl [some 0, some 1, some 2] (by decide) rfl (Nat.le_of_ble_eq_true rfl) rfl dX0_firstFrom_3 ?_
  refine mg_istore_n (pc := 6) C (lv' := [(3, .int q1), (0, .ref a_t), (1, .int x1), (2, .int x2)]) dX0_firstFrom_6 rfl (by decide) rfl ?_
  refine mg_aload_n (pc := 7) C 1 dX0_firstFrom_7 rfl rfl ?_
  refine mg_get (pc := 8) C 0 rfl rfl inX0 0 (by decide) wm_109 rfl rfl dX0_firstFrom_8 ?_
  refine mg_iload_n (pc := 11) C 0 dX0_firstFrom_11 rfl rfl ?_
  refine mg_iconst (pc := 12) C dX0_firstFrom_12 (v := 0) (by decide) ?_
  obtain ⟨q3, h4, hf⟩ := mg_b hf
  refine mg_callV (pc := 13) C (w2 := w_X0_firstFrom k a_t a_t_list a_t_list_values v_t_list_count v_t_list_values) (c_X7_get z.2.1 k a_t_list a_t_list_values 30 10 v_t_list_count v_t_list_values q1 0 q3 h4) Y_X7_get wm_441 (by decide) rfl 1 rfl rfl rfl [1, 2] rfl (by decide) rfl [none, some 0, some 1] (by decide) rfl (Nat.le_of_ble_eq_true rfl) rfl dX0_firstFrom_13 ?_
  refine mg_iload_n (pc := 16) C 2 dX0_firstFrom_16 rfl rfl ?_
  refine mg_icmp_ne (pc := 17) (tgt := 24) C dX0_firstFrom_17 (by decide) hf (fun hf => ?_) (fun hf => ?_)
  · refine mg_ldc (pc := 24) C wm_722 dX0_firstFrom_24 ?_
    obtain rfl := Option.some.inj hf
    exact E _ _ dX0_firstFrom_26
  · refine mg_iload_n (pc := 20) C 0 dX0_firstFrom_20 rfl rfl ?_
    refine mg_goto (pc := 21) (tgt := 26) C dX0_firstFrom_21 (by decide) ?_
    obtain rfl := Option.some.inj hf
    exact E _ _ dX0_firstFrom_26
abbrev w_X0_place (k : mg_K) (a_t a_t_list a_t_list_values : Nat) (v_t_list_count : Int32) (v_t_list_values : Nat → Int32) : va_W := [(a_t, .inr (0, [.ref a_t_list])), (a_t_list, .inr (7, [.int 10, .ref a_t_list_values, .int v_t_list_count])), (a_t_list_values, .inl (k.2.1, 30, .inl v_t_list_values))]
def f_X0_place (fuel : Nat) (v_t_list_count : Int32) (v_t_list_values : Nat → Int32) (x1 : Int32) (x2 : Int32) (x3 : Int32) : Option (Int32 × Int32 × (Nat → Int32)) := (f_X0_rankOf fuel v_t_list_count v_t_list_values x1 x2).bind (fun q1 => (f_X7_insert 30 10 v_t_list_count v_t_list_values q1 x1 x2 x3).bind (fun q3 => some (q1, q3.1, q3.2)))
theorem Y_X0_place : mg_Y yX0_place cX0_place 5 (some .int) 3 := ⟨wm_471, wm_472, wm_8, wm_473, ⟨by decide +kernel, by decide +kernel, by decide +kernel⟩, by decide⟩
set_option maxRecDepth 100000 in
set_option maxHeartbeats 4000000 in
theorem c_X0_place (l : Launch) (k : mg_K) (a_t a_t_list a_t_list_values : Nat) (v_t_list_count : Int32) (v_t_list_values : Nat → Int32) (fuel : Nat) (x1 : Int32) (x2 : Int32) (x3 : Int32) (q : Int32 × Int32 × (Nat → Int32)) (hf : f_X0_place fuel v_t_list_count v_t_list_values x1 x2 x3 = some q) : mg_M l yX0_place cX0_place 5 (some .int) 2 k [.ref a_t, .int x1, .int x2, .int x3] (w_X0_place k a_t a_t_list a_t_list_values v_t_list_count v_t_list_values) (w_X0_place k a_t a_t_list a_t_list_values q.2.1 q.2.2) (some (.int q.1)) := by
  refine mg_Mi RX0 [(0, .ref a_t), (1, .int x1), (2, .int x2), (3, .int x3)] (by decide +kernel) rfl rfl (Nat.le_of_ble_eq_true rfl) ?_
  intro z A Q hl C E
  subst hl
  unfold f_X0_place at hf
  refine mg_aload_n (pc := 0) C 0 dX0_place_0 rfl rfl ?_
  refine mg_iload_n (pc := 1) C 1 dX0_place_1 rfl rfl ?_
  refine mg_iload_n (pc := 2) C 2 dX0_place_2 rfl rfl ?_
  obtain ⟨q1, h2, hf⟩ := mg_b hf
  refine mg_callV (pc := 3) C (w2 := w_X0_place k a_t a_t_list a_t_list_values v_t_list_count v_t_list_values) (c_X0_rankOf z.2.1 k a_t a_t_list a_t_list_values v_t_list_count v_t_list_values fuel x1 x2 q1 h2) Y_X0_rankOf wm_474 (by decide) rfl 0 rfl rfl rfl [0, 1, 2] rfl (by decide) rfl [some 0, some 1, some 2] (by decide) rfl (Nat.le_of_ble_eq_true rfl) rfl dX0_place_3 ?_
  refine mg_istore (pc := 6) C (lv' := [(4, .int q1), (0, .ref a_t), (1, .int x1), (2, .int x2), (3, .int x3)]) dX0_place_6 (by decide) rfl ?_
  refine mg_aload_n (pc := 8) C 1 dX0_place_8 rfl rfl ?_
  refine mg_get (pc := 9) C 0 rfl rfl inX0 0 (by decide) wm_109 rfl rfl dX0_place_9 ?_
  refine mg_iload (pc := 12) C 0 dX0_place_12 rfl ?_
  refine mg_iload_n (pc := 14) C 2 dX0_place_14 rfl rfl ?_
  refine mg_iload_n (pc := 15) C 3 dX0_place_15 rfl rfl ?_
  refine mg_iload_n (pc := 16) C 4 dX0_place_16 rfl rfl ?_
  obtain ⟨q3, h4, hf⟩ := mg_b hf
  refine mg_callV (pc := 17) C (w2 := w_X0_place k a_t a_t_list a_t_list_values q3.1 q3.2) (c_X7_insert z.2.1 k a_t_list a_t_list_values 30 10 v_t_list_count v_t_list_values q1 x1 x2 x3 q3 h4) Y_X7_insert wm_478 (by decide) rfl 1 rfl rfl rfl [1, 2] rfl (by decide) rfl [none, some 0, some 1] (by decide) rfl (Nat.le_of_ble_eq_true rfl) rfl dX0_place_17 ?_
  refine mg_iload (pc := 20) C 0 dX0_place_20 rfl ?_
  obtain rfl := Option.some.inj hf
  exact E _ _ dX0_place_22
abbrev w_X0_weaken (k : mg_K) (a_t a_t_list a_t_list_values : Nat) (v_t_list_count : Int32) (v_t_list_values : Nat → Int32) : va_W := [(a_t, .inr (0, [.ref a_t_list])), (a_t_list, .inr (7, [.int 10, .ref a_t_list_values, .int v_t_list_count])), (a_t_list_values, .inl (k.2.1, 30, .inl v_t_list_values))]
def f_X0_weaken (v_t_list_count : Int32) (v_t_list_values : Nat → Int32) (x1 : Int32) (x2 : Int32) : Option (Int32 × Int32 × (Nat → Int32)) := (f_X7_get 30 v_t_list_count v_t_list_values x1 2).bind (fun q1 => if 0 < (q1 - x2) then ((f_X7_set 30 v_t_list_count v_t_list_values x1 2 (q1 - x2)).bind (fun q3 => some (q1 - x2, v_t_list_count, q3))) else ((f_X7_remove 30 v_t_list_count v_t_list_values x1).bind (fun q5 => some (0, q5.1, q5.2))))
theorem Y_X0_weaken : mg_Y yX0_weaken cX0_weaken 4 (some .int) 2 := ⟨wm_780, wm_781, wm_8, wm_782, ⟨by decide +kernel, by decide +kernel, by decide +kernel⟩, by decide⟩
set_option maxRecDepth 100000 in
set_option maxHeartbeats 4000000 in
theorem c_X0_weaken (l : Launch) (k : mg_K) (a_t a_t_list a_t_list_values : Nat) (v_t_list_count : Int32) (v_t_list_values : Nat → Int32) (x1 : Int32) (x2 : Int32) (q : Int32 × Int32 × (Nat → Int32)) (hf : f_X0_weaken v_t_list_count v_t_list_values x1 x2 = some q) : mg_M l yX0_weaken cX0_weaken 4 (some .int) 2 k [.ref a_t, .int x1, .int x2] (w_X0_weaken k a_t a_t_list a_t_list_values v_t_list_count v_t_list_values) (w_X0_weaken k a_t a_t_list a_t_list_values q.2.1 q.2.2) (some (.int q.1)) := by
  refine mg_Mi RX0 [(0, .ref a_t), (1, .int x1), (2, .int x2)] (by decide +kernel) rfl rfl (Nat.le_of_ble_eq_true rfl) ?_
  intro z A Q hl C E
  subst hl
  unfold f_X0_weaken at hf
  refine mg_aload_n (pc := 0) C 0 dX0_weaken_0 rfl rfl ?_
  refine mg_get (pc := 1) C 0 rfl rfl inX0 0 (by decide) wm_109 rfl rfl dX0_weaken_1 ?_
  refine mg_iload_n (pc := 4) C 1 dX0_weaken_4 rfl rfl ?_
  refine mg_iconst (pc := 5) C dX0_weaken_5 (v := 2) (by decide) ?_
  obtain ⟨q1, h2, hf⟩ := mg_b hf
  refine mg_callV (pc := 6) C (w2 := w_X0_weaken k a_t a_t_list a_t_list_values v_t_list_count v_t_list_values) (c_X7_get z.2.1 k a_t_list a_t_list_values 30 10 v_t_list_count v_t_list_values x1 2 q1 h2) Y_X7_get wm_441 (by decide) rfl 1 rfl rfl rfl [1, 2] rfl (by decide) rfl [none, some 0, some 1] (by decide) rfl (Nat.le_of_ble_eq_true rfl) rfl dX0_weaken_6 ?_
  refine mg_iload_n (pc := 9) C 2 dX0_weaken_9 rfl rfl ?_
  refine mg_isub (pc := 10) C dX0_weaken_10 ?_
  refine mg_istore_n (pc := 11) C (lv' := [(3, .int (q1 - x2)), (0, .ref a_t), (1, .int x1), (2, .int x2)]) dX0_weaken_11 rfl (by decide) rfl ?_
  refine mg_iload_n (pc := 12) C 0 dX0_weaken_12 rfl rfl ?_
  refine mg_if_gt (pc := 13) (tgt := 26) C dX0_weaken_13 (by decide) hf (fun hf => ?_) (fun hf => ?_)
  · refine mg_aload_n (pc := 26) C 1 dX0_weaken_26 rfl rfl ?_
    refine mg_get (pc := 27) C 0 rfl rfl inX0 0 (by decide) wm_109 rfl rfl dX0_weaken_27 ?_
    refine mg_iload_n (pc := 30) C 2 dX0_weaken_30 rfl rfl ?_
    refine mg_iconst (pc := 31) C dX0_weaken_31 (v := 2) (by decide) ?_
    refine mg_iload_n (pc := 32) C 0 dX0_weaken_32 rfl rfl ?_
    obtain ⟨q3, h4, hf⟩ := mg_b hf
    refine mg_callV (pc := 33) C (w2 := w_X0_weaken k a_t a_t_list a_t_list_values v_t_list_count q3) (c_X7_set z.2.1 k a_t_list a_t_list_values 30 10 v_t_list_count v_t_list_values x1 2 (q1 - x2) q3 h4) Y_X7_set wm_788 (by decide) rfl 1 rfl rfl rfl [1, 2] rfl (by decide) rfl [none, some 0, some 1] (by decide) rfl (Nat.le_of_ble_eq_true rfl) rfl dX0_weaken_33 ?_
    refine mg_iload_n (pc := 36) C 0 dX0_weaken_36 rfl rfl ?_
    obtain rfl := Option.some.inj hf
    exact E _ _ dX0_weaken_37
  · refine mg_aload_n (pc := 16) C 1 dX0_weaken_16 rfl rfl ?_
    refine mg_get (pc := 17) C 0 rfl rfl inX0 0 (by decide) wm_109 rfl rfl dX0_weaken_17 ?_
    refine mg_iload_n (pc := 20) C 2 dX0_weaken_20 rfl rfl ?_
    obtain ⟨q5, h6, hf⟩ := mg_b hf
    refine mg_callV (pc := 21) C (w2 := w_X0_weaken k a_t a_t_list a_t_list_values q5.1 q5.2) (c_X7_remove z.2.1 k a_t_list a_t_list_values 30 10 v_t_list_count v_t_list_values x1 q5 h6) Y_X7_remove wm_783 (by decide) rfl 1 rfl rfl rfl [1, 2] rfl (by decide) rfl [none, some 0, some 1] (by decide) rfl (Nat.le_of_ble_eq_true rfl) rfl dX0_weaken_21 ?_
    refine mg_iconst (pc := 24) C dX0_weaken_24 (v := 0) (by decide) ?_
    obtain rfl := Option.some.inj hf
    exact E _ _ dX0_weaken_25
abbrev w_X0_hardnessDownTo (k : mg_K) (a_t a_t_list a_t_list_values : Nat) (v_t_list_count : Int32) (v_t_list_values : Nat → Int32) : va_W := [(a_t, .inr (0, [.ref a_t_list])), (a_t_list, .inr (7, [.int 10, .ref a_t_list_values, .int v_t_list_count])), (a_t_list_values, .inl (k.2.1, 30, .inl v_t_list_values))]
def f_X0_hardnessDownTo_L5 (v_t_list_count : Int32) (v_t_list_values : Nat → Int32) (x1 : Int32) (x2 : Int32) : Nat → Int32 → Int32 → Option (Int32 × Int32)
  | 0, _, _ => none
  | n_ + 1, x3, x4 => if v_t_list_count ≤ x4 then (some ((x3, x4))) else (if mg_ix (x4 * 3) 30 = true then (if (v_t_list_values (Int32.toNatClampNeg (x4 * 3))) = x1 then (if mg_ix ((x4 * 3) + 1) 30 = true then (if x2 < (v_t_list_values (Int32.toNatClampNeg ((x4 * 3) + 1))) then (f_X0_hardnessDownTo_L5 v_t_list_count v_t_list_values x1 x2 n_ x3 (x4 + 1)) else (if mg_ix ((x4 * 3) + 2) 30 = true then (f_X0_hardnessDownTo_L5 v_t_list_count v_t_list_values x1 x2 n_ (x3 + (v_t_list_values (Int32.toNatClampNeg ((x4 * 3) + 2)))) (x4 + 1)) else none)) else none) else (f_X0_hardnessDownTo_L5 v_t_list_count v_t_list_values x1 x2 n_ x3 (x4 + 1))) else none)
def f_X0_hardnessDownTo (fuel : Nat) (v_t_list_count : Int32) (v_t_list_values : Nat → Int32) (x1 : Int32) (x2 : Int32) : Option (Int32) := (f_X0_hardnessDownTo_L5 v_t_list_count v_t_list_values x1 x2 fuel 0 0).bind (fun q1 => some q1.1)
theorem Y_X0_hardnessDownTo : mg_Y yX0_hardnessDownTo cX0_hardnessDownTo 5 (some .int) 2 := ⟨wm_613, wm_614, wm_8, wm_615, ⟨by decide +kernel, by decide +kernel, by decide +kernel⟩, by decide⟩
set_option maxRecDepth 100000 in
set_option maxHeartbeats 4000000 in
theorem c_X0_hardnessDownTo (l : Launch) (k : mg_K) (a_t a_t_list a_t_list_values : Nat) (v_t_list_count : Int32) (v_t_list_values : Nat → Int32) (fuel : Nat) (x1 : Int32) (x2 : Int32) (q : Int32) (hf : f_X0_hardnessDownTo fuel v_t_list_count v_t_list_values x1 x2 = some q) : mg_M l yX0_hardnessDownTo cX0_hardnessDownTo 5 (some .int) 0 k [.ref a_t, .int x1, .int x2] (w_X0_hardnessDownTo k a_t a_t_list a_t_list_values v_t_list_count v_t_list_values) (w_X0_hardnessDownTo k a_t a_t_list a_t_list_values v_t_list_count v_t_list_values) (some (.int q)) := by
  refine mg_Mi RX0 [(0, .ref a_t), (1, .int x1), (2, .int x2)] (by decide +kernel) rfl rfl (Nat.le_of_ble_eq_true rfl) ?_
  intro z A Q hl C E
  subst hl
  unfold f_X0_hardnessDownTo at hf
  have L5 : ∀ (x1 : Int32) (x2 : Int32) (n_ : Nat) (x3 : Int32) (x4 : Int32) (q_ : Int32 × Int32), f_X0_hardnessDownTo_L5 v_t_list_count v_t_list_values x1 x2 n_ x3 x4 = some q_ → (mg z k A 5 0 0 Q (w_X0_hardnessDownTo k a_t a_t_list a_t_list_values v_t_list_count v_t_list_values) [(3, .int q_.1)] 74 []) → mg z k A 5 0 0 Q (w_X0_hardnessDownTo k a_t a_t_list a_t_list_values v_t_list_count v_t_list_values) [(0, .ref a_t), (1, .int x1), (2, .int x2), (3, .int x3), (4, .int x4)] 5 [] := by
    intro x1 x2 n_
    induction n_ with
    | zero => intro x3 x4 q_ hf; exact mg_no (show none = some q_ from hf)
    | succ n_ ih =>
      intro x3 x4 q_ hf X0
      rw [f_X0_hardnessDownTo_L5] at hf
      refine mg_iload (pc := 5) C 4 dX0_hardnessDownTo_5 rfl ?_
      refine mg_aload_n (pc := 7) C 0 dX0_hardnessDownTo_7 rfl rfl ?_
      refine mg_get (pc := 8) C 0 rfl rfl inX0 0 (by decide) wm_109 rfl rfl dX0_hardnessDownTo_8 ?_
      refine mg_get (pc := 11) C 1 rfl rfl inX7 2 (by decide) wm_85 rfl rfl dX0_hardnessDownTo_11 ?_
      refine mg_icmp_ge (pc := 14) (tgt := 74) C dX0_hardnessDownTo_14 (by decide) hf (fun hf => ?_) (fun hf => ?_)
      · obtain rfl := Option.some.inj hf
        refine mg_lv [3] rfl ?_
        exact X0
      · refine mg_aload_n (pc := 17) C 0 dX0_hardnessDownTo_17 rfl rfl ?_
        refine mg_get (pc := 18) C 0 rfl rfl inX0 0 (by decide) wm_109 rfl rfl dX0_hardnessDownTo_18 ?_
        refine mg_get (pc := 21) C 1 rfl rfl inX7 1 (by decide) wm_82 rfl rfl dX0_hardnessDownTo_21 ?_
        refine mg_iload (pc := 24) C 4 dX0_hardnessDownTo_24 rfl ?_
        refine mg_iconst (pc := 26) C dX0_hardnessDownTo_26 (v := 3) (by decide) ?_
        refine mg_imul (pc := 27) C dX0_hardnessDownTo_27 ?_
        refine mg_iald (pc := 28) C 2 rfl dX0_hardnessDownTo_28 hf (fun hf => ?_)
        refine mg_iload_n (pc := 29) C 1 dX0_hardnessDownTo_29 rfl rfl ?_
        refine mg_icmp_ne (pc := 30) (tgt := 68) C dX0_hardnessDownTo_30 (by decide) hf (fun hf => ?_) (fun hf => ?_)
        · refine mg_iinc (pc := 68) C (c := 1) (lv' := [(4, .int (x4 + 1)), (0, .ref a_t), (1, .int x1), (2, .int x2), (3, .int x3)]) 4 dX0_hardnessDownTo_68 rfl (by decide) (by decide) rfl ?_
          refine mg_goto (pc := 71) (tgt := 5) C dX0_hardnessDownTo_71 (by decide) ?_
          refine mg_lv [1, 2, 3, 4, 0] rfl ?_
          exact ih x3 (x4 + 1) _ hf X0
        · refine mg_aload_n (pc := 33) C 0 dX0_hardnessDownTo_33 rfl rfl ?_
          refine mg_get (pc := 34) C 0 rfl rfl inX0 0 (by decide) wm_109 rfl rfl dX0_hardnessDownTo_34 ?_
          refine mg_get (pc := 37) C 1 rfl rfl inX7 1 (by decide) wm_82 rfl rfl dX0_hardnessDownTo_37 ?_
          refine mg_iload (pc := 40) C 4 dX0_hardnessDownTo_40 rfl ?_
          refine mg_iconst (pc := 42) C dX0_hardnessDownTo_42 (v := 3) (by decide) ?_
          refine mg_imul (pc := 43) C dX0_hardnessDownTo_43 ?_
          refine mg_iconst (pc := 44) C dX0_hardnessDownTo_44 (v := 1) (by decide) ?_
          refine mg_iadd (pc := 45) C dX0_hardnessDownTo_45 ?_
          refine mg_iald (pc := 46) C 2 rfl dX0_hardnessDownTo_46 hf (fun hf => ?_)
          refine mg_iload_n (pc := 47) C 2 dX0_hardnessDownTo_47 rfl rfl ?_
          refine mg_icmp_gt (pc := 48) (tgt := 68) C dX0_hardnessDownTo_48 (by decide) hf (fun hf => ?_) (fun hf => ?_)
          · refine mg_iinc (pc := 68) C (c := 1) (lv' := [(4, .int (x4 + 1)), (0, .ref a_t), (1, .int x1), (2, .int x2), (3, .int x3)]) 4 dX0_hardnessDownTo_68 rfl (by decide) (by decide) rfl ?_
            refine mg_goto (pc := 71) (tgt := 5) C dX0_hardnessDownTo_71 (by decide) ?_
            refine mg_lv [1, 2, 3, 4, 0] rfl ?_
            exact ih x3 (x4 + 1) _ hf X0
          · refine mg_iload_n (pc := 51) C 3 dX0_hardnessDownTo_51 rfl rfl ?_
            refine mg_aload_n (pc := 52) C 0 dX0_hardnessDownTo_52 rfl rfl ?_
            refine mg_get (pc := 53) C 0 rfl rfl inX0 0 (by decide) wm_109 rfl rfl dX0_hardnessDownTo_53 ?_
            refine mg_get (pc := 56) C 1 rfl rfl inX7 1 (by decide) wm_82 rfl rfl dX0_hardnessDownTo_56 ?_
            refine mg_iload (pc := 59) C 4 dX0_hardnessDownTo_59 rfl ?_
            refine mg_iconst (pc := 61) C dX0_hardnessDownTo_61 (v := 3) (by decide) ?_
            refine mg_imul (pc := 62) C dX0_hardnessDownTo_62 ?_
            refine mg_iconst (pc := 63) C dX0_hardnessDownTo_63 (v := 2) (by decide) ?_
            refine mg_iadd (pc := 64) C dX0_hardnessDownTo_64 ?_
            refine mg_iald (pc := 65) C 2 rfl dX0_hardnessDownTo_65 hf (fun hf => ?_)
            refine mg_iadd (pc := 66) C dX0_hardnessDownTo_66 ?_
            refine mg_istore_n (pc := 67) C (lv' := [(3, .int (x3 + (v_t_list_values (Int32.toNatClampNeg ((x4 * 3) + 2))))), (0, .ref a_t), (1, .int x1), (2, .int x2), (4, .int x4)]) dX0_hardnessDownTo_67 rfl (by decide) rfl ?_
            refine mg_iinc (pc := 68) C (c := 1) (lv' := [(4, .int (x4 + 1)), (3, .int (x3 + (v_t_list_values (Int32.toNatClampNeg ((x4 * 3) + 2))))), (0, .ref a_t), (1, .int x1), (2, .int x2)]) 4 dX0_hardnessDownTo_68 rfl (by decide) (by decide) rfl ?_
            refine mg_goto (pc := 71) (tgt := 5) C dX0_hardnessDownTo_71 (by decide) ?_
            refine mg_lv [2, 3, 4, 1, 0] rfl ?_
            exact ih (x3 + (v_t_list_values (Int32.toNatClampNeg ((x4 * 3) + 2)))) (x4 + 1) _ hf X0
  refine mg_iconst (pc := 0) C dX0_hardnessDownTo_0 (v := 0) (by decide) ?_
  refine mg_istore_n (pc := 1) C (lv' := [(3, .int 0), (0, .ref a_t), (1, .int x1), (2, .int x2)]) dX0_hardnessDownTo_1 rfl (by decide) rfl ?_
  refine mg_iconst (pc := 2) C dX0_hardnessDownTo_2 (v := 0) (by decide) ?_
  refine mg_istore (pc := 3) C (lv' := [(4, .int 0), (3, .int 0), (0, .ref a_t), (1, .int x1), (2, .int x2)]) dX0_hardnessDownTo_3 (by decide) rfl ?_
  obtain ⟨q1, h2, hf⟩ := mg_b hf
  refine mg_lv [2, 3, 4, 1, 0] rfl ?_
  refine L5 x1 x2 fuel 0 0 q1 h2 ?_
  refine mg_iload_n (pc := 74) C 0 dX0_hardnessDownTo_74 rfl rfl ?_
  obtain rfl := Option.some.inj hf
  exact E _ _ dX0_hardnessDownTo_75
