abbrev w_X4_clear (k : mg_K) (a_t a_t_bottoms : Nat) (v_t_depth : Int32) (v_t_tiltX : Int32) (v_t_tiltY : Int32) (v_t_bottoms : Nat → Int32) : va_W := [(a_t, .inr (4, [.int v_t_depth, .int v_t_tiltX, .int v_t_tiltY, .ref a_t_bottoms])), (a_t_bottoms, .inl (k.2.1, 49, .inl v_t_bottoms))]
def f_X4_clear_L17 : Nat → Int32 → (Nat → Int32) → Option (Int32 × (Nat → Int32))
  | 0, _, _ => none
  | n_ + 1, x1, v_t_bottoms => if 49 ≤ x1 then (some ((x1, v_t_bottoms))) else (if mg_ix x1 49 = true then (f_X4_clear_L17 n_ (x1 + 1) (upd v_t_bottoms (Int32.toNatClampNeg x1) 0)) else none)
def f_X4_clear (fuel : Nat) (v_t_bottoms : Nat → Int32) : Option (Int32 × Int32 × Int32 × (Nat → Int32)) := (f_X4_clear_L17 fuel 0 v_t_bottoms).bind (fun q1 => some (0, 0, 0, q1.2))
theorem Y_X4_clear : mg_Y yX4_clear cX4_clear 2 none 0 := ⟨wm_131, wm_132, wm_4, wm_133, ⟨by decide +kernel, by decide +kernel, by decide +kernel⟩, by decide⟩
set_option maxRecDepth 100000 in
set_option maxHeartbeats 4000000 in
theorem c_X4_clear (l : Launch) (k : mg_K) (a_t a_t_bottoms : Nat) (v_t_depth : Int32) (v_t_tiltX : Int32) (v_t_tiltY : Int32) (v_t_bottoms : Nat → Int32) (fuel : Nat) (q : Int32 × Int32 × Int32 × (Nat → Int32)) (hf : f_X4_clear fuel v_t_bottoms = some q) : mg_M l yX4_clear cX4_clear 2 none 0 k [.ref a_t] (w_X4_clear k a_t a_t_bottoms v_t_depth v_t_tiltX v_t_tiltY v_t_bottoms) (w_X4_clear k a_t a_t_bottoms q.1 q.2.1 q.2.2.1 q.2.2.2) none := by
  refine mg_Mv RX4 [(0, .ref a_t)] (by decide +kernel) rfl rfl (Nat.le_of_ble_eq_true rfl) ?_
  intro z A Q hl C E
  subst hl
  unfold f_X4_clear at hf
  have L17 : ∀ (v_t_depth : Int32) (v_t_tiltX : Int32) (v_t_tiltY : Int32) (n_ : Nat) (x1 : Int32) (v_t_bottoms : Nat → Int32) (q_ : Int32 × (Nat → Int32)), f_X4_clear_L17 n_ x1 v_t_bottoms = some q_ → (mg z k A 2 0 0 Q (w_X4_clear k a_t a_t_bottoms v_t_depth v_t_tiltX v_t_tiltY q_.2) [] 39 []) → mg z k A 2 0 0 Q (w_X4_clear k a_t a_t_bottoms v_t_depth v_t_tiltX v_t_tiltY v_t_bottoms) [(0, .ref a_t), (1, .int x1)] 17 [] := by
    intro v_t_depth v_t_tiltX v_t_tiltY n_
    induction n_ with
    | zero => intro x1 v_t_bottoms q_ hf; exact mg_no (show none = some q_ from hf)
    | succ n_ ih =>
      intro x1 v_t_bottoms q_ hf X0
      rw [f_X4_clear_L17] at hf
      refine mg_iload_n (pc := 17) C 1 dX4_clear_17 rfl rfl ?_
      refine mg_aload_n (pc := 18) C 0 dX4_clear_18 rfl rfl ?_
      refine mg_get (pc := 19) C 0 rfl rfl inX4 3 (by decide) wm_53 rfl rfl dX4_clear_19 ?_
      refine mg_alen (pc := 22) C (v := 49) 1 0 rfl rfl rfl dX4_clear_22 ?_
      refine mg_icmp_ge (pc := 23) (tgt := 39) C dX4_clear_23 (by decide) hf (fun hf => ?_) (fun hf => ?_)
      · obtain rfl := Option.some.inj hf
        refine mg_lv [] rfl ?_
        exact X0
      · refine mg_aload_n (pc := 26) C 0 dX4_clear_26 rfl rfl ?_
        refine mg_get (pc := 27) C 0 rfl rfl inX4 3 (by decide) wm_53 rfl rfl dX4_clear_27 ?_
        refine mg_iload_n (pc := 30) C 1 dX4_clear_30 rfl rfl ?_
        refine mg_iconst (pc := 31) C dX4_clear_31 (v := 0) (by decide) ?_
        refine mg_iast (pc := 32) C (w2 := w_X4_clear k a_t a_t_bottoms v_t_depth v_t_tiltX v_t_tiltY (upd v_t_bottoms (Int32.toNatClampNeg x1) 0)) 1 rfl dX4_clear_32 hf rfl (fun hf => ?_)
        refine mg_iinc (pc := 33) C (c := 1) (lv' := [(1, .int (x1 + 1)), (0, .ref a_t)]) 1 dX4_clear_33 rfl (by decide) (by decide) rfl ?_
        refine mg_goto (pc := 36) (tgt := 17) C dX4_clear_36 (by decide) ?_
        refine mg_lv [1, 0] rfl ?_
        exact ih (x1 + 1) (upd v_t_bottoms (Int32.toNatClampNeg x1) 0) _ hf X0
  refine mg_aload_n (pc := 0) C 0 dX4_clear_0 rfl rfl ?_
  refine mg_iconst (pc := 1) C dX4_clear_1 (v := 0) (by decide) ?_
  refine mg_puti (pc := 2) C (w2 := w_X4_clear k a_t a_t_bottoms 0 v_t_tiltX v_t_tiltY v_t_bottoms) 0 rfl rfl inX4 0 (by decide) wm_43 rfl tyX4 tyX4_ok nmX4 rfl (by decide +kernel) (Nat.le_of_ble_eq_true rfl) rfl dX4_clear_2 ?_
  refine mg_aload_n (pc := 5) C 0 dX4_clear_5 rfl rfl ?_
  refine mg_iconst (pc := 6) C dX4_clear_6 (v := 0) (by decide) ?_
  refine mg_puti (pc := 7) C (w2 := w_X4_clear k a_t a_t_bottoms 0 0 v_t_tiltY v_t_bottoms) 0 rfl rfl inX4 1 (by decide) wm_48 rfl tyX4 tyX4_ok nmX4 rfl (by decide +kernel) (Nat.le_of_ble_eq_true rfl) rfl dX4_clear_7 ?_
  refine mg_aload_n (pc := 10) C 0 dX4_clear_10 rfl rfl ?_
  refine mg_iconst (pc := 11) C dX4_clear_11 (v := 0) (by decide) ?_
  refine mg_puti (pc := 12) C (w2 := w_X4_clear k a_t a_t_bottoms 0 0 0 v_t_bottoms) 0 rfl rfl inX4 2 (by decide) wm_50 rfl tyX4 tyX4_ok nmX4 rfl (by decide +kernel) (Nat.le_of_ble_eq_true rfl) rfl dX4_clear_12 ?_
  refine mg_iconst (pc := 15) C dX4_clear_15 (v := 0) (by decide) ?_
  refine mg_istore_n (pc := 16) C (lv' := [(1, .int 0), (0, .ref a_t)]) dX4_clear_16 rfl (by decide) rfl ?_
  obtain ⟨q1, h2, hf⟩ := mg_b hf
  refine mg_lv [1, 0] rfl ?_
  refine L17 0 0 0 fuel 0 v_t_bottoms q1 h2 ?_
  obtain rfl := Option.some.inj hf
  exact E _ _ dX4_clear_39
abbrev w_X4_bottomOf (k : mg_K) (a_t a_t_bottoms : Nat) (v_t_depth : Int32) (v_t_tiltX : Int32) (v_t_tiltY : Int32) (v_t_bottoms : Nat → Int32) : va_W := [(a_t, .inr (4, [.int v_t_depth, .int v_t_tiltX, .int v_t_tiltY, .ref a_t_bottoms])), (a_t_bottoms, .inl (k.2.1, 49, .inl v_t_bottoms))]
def f_X4_bottomOf (v_t_bottoms : Nat → Int32) (x1 : Int32) : Option (Int32) := if x1 < 0 then (some 0) else (if 49 ≤ x1 then (some 0) else (if mg_ix x1 49 = true then (some (v_t_bottoms (Int32.toNatClampNeg x1))) else none))
theorem Y_X4_bottomOf : mg_Y yX4_bottomOf cX4_bottomOf 2 (some .int) 1 := ⟨wm_607, wm_608, wm_4, wm_609, ⟨by decide +kernel, by decide +kernel, by decide +kernel⟩, by decide⟩
set_option maxRecDepth 100000 in
set_option maxHeartbeats 4000000 in
theorem c_X4_bottomOf (l : Launch) (k : mg_K) (a_t a_t_bottoms : Nat) (v_t_depth : Int32) (v_t_tiltX : Int32) (v_t_tiltY : Int32) (v_t_bottoms : Nat → Int32) (x1 : Int32) (q : Int32) (hf : f_X4_bottomOf v_t_bottoms x1 = some q) : mg_M l yX4_bottomOf cX4_bottomOf 2 (some .int) 0 k [.ref a_t, .int x1] (w_X4_bottomOf k a_t a_t_bottoms v_t_depth v_t_tiltX v_t_tiltY v_t_bottoms) (w_X4_bottomOf k a_t a_t_bottoms v_t_depth v_t_tiltX v_t_tiltY v_t_bottoms) (some (.int q)) := by
  refine mg_Mi RX4 [(0, .ref a_t), (1, .int x1)] (by decide +kernel) rfl rfl (Nat.le_of_ble_eq_true rfl) ?_
  intro z A Q hl C E
  subst hl
  unfold f_X4_bottomOf at hf
  refine mg_iload_n (pc := 0) C 1 dX4_bottomOf_0 rfl rfl ?_
  refine mg_if_lt (pc := 1) (tgt := 22) C dX4_bottomOf_1 (by decide) hf (fun hf => ?_) (fun hf => ?_)
  · refine mg_iconst (pc := 22) C dX4_bottomOf_22 (v := 0) (by decide) ?_
    obtain rfl := Option.some.inj hf
    exact E _ _ dX4_bottomOf_23
  · refine mg_iload_n (pc := 4) C 1 dX4_bottomOf_4 rfl rfl ?_
    refine mg_aload_n (pc := 5) C 0 dX4_bottomOf_5 rfl rfl ?_
    refine mg_get (pc := 6) C 0 rfl rfl inX4 3 (by decide) wm_53 rfl rfl dX4_bottomOf_6 ?_
    refine mg_alen (pc := 9) C (v := 49) 1 0 rfl rfl rfl dX4_bottomOf_9 ?_
    refine mg_icmp_ge (pc := 10) (tgt := 22) C dX4_bottomOf_10 (by decide) hf (fun hf => ?_) (fun hf => ?_)
    · refine mg_iconst (pc := 22) C dX4_bottomOf_22 (v := 0) (by decide) ?_
      obtain rfl := Option.some.inj hf
      exact E _ _ dX4_bottomOf_23
    · refine mg_aload_n (pc := 13) C 0 dX4_bottomOf_13 rfl rfl ?_
      refine mg_get (pc := 14) C 0 rfl rfl inX4 3 (by decide) wm_53 rfl rfl dX4_bottomOf_14 ?_
      refine mg_iload_n (pc := 17) C 1 dX4_bottomOf_17 rfl rfl ?_
      refine mg_iald (pc := 18) C 1 rfl dX4_bottomOf_18 hf (fun hf => ?_)
      refine mg_goto (pc := 19) (tgt := 23) C dX4_bottomOf_19 (by decide) ?_
      obtain rfl := Option.some.inj hf
      exact E _ _ dX4_bottomOf_23
abbrev w_X4_putBottom (k : mg_K) (a_t a_t_bottoms : Nat) (v_t_depth : Int32) (v_t_tiltX : Int32) (v_t_tiltY : Int32) (v_t_bottoms : Nat → Int32) : va_W := [(a_t, .inr (4, [.int v_t_depth, .int v_t_tiltX, .int v_t_tiltY, .ref a_t_bottoms])), (a_t_bottoms, .inl (k.2.1, 49, .inl v_t_bottoms))]
def f_X4_putBottom (v_t_bottoms : Nat → Int32) (x1 : Int32) (x2 : Int32) : Option ((Nat → Int32)) := if x1 < 0 then (some v_t_bottoms) else (if 49 ≤ x1 then (some v_t_bottoms) else (if mg_ix x1 49 = true then (some (upd v_t_bottoms (Int32.toNatClampNeg x1) x2)) else none))
theorem Y_X4_putBottom : mg_Y yX4_putBottom cX4_putBottom 3 none 2 := ⟨wm_730, wm_731, wm_4, wm_732, ⟨by decide +kernel, by decide +kernel, by decide +kernel⟩, by decide⟩
set_option maxRecDepth 100000 in
set_option maxHeartbeats 4000000 in
theorem c_X4_putBottom (l : Launch) (k : mg_K) (a_t a_t_bottoms : Nat) (v_t_depth : Int32) (v_t_tiltX : Int32) (v_t_tiltY : Int32) (v_t_bottoms : Nat → Int32) (x1 : Int32) (x2 : Int32) (q : (Nat → Int32)) (hf : f_X4_putBottom v_t_bottoms x1 x2 = some q) : mg_M l yX4_putBottom cX4_putBottom 3 none 0 k [.ref a_t, .int x1, .int x2] (w_X4_putBottom k a_t a_t_bottoms v_t_depth v_t_tiltX v_t_tiltY v_t_bottoms) (w_X4_putBottom k a_t a_t_bottoms v_t_depth v_t_tiltX v_t_tiltY q) none := by
  refine mg_Mv RX4 [(0, .ref a_t), (1, .int x1), (2, .int x2)] (by decide +kernel) rfl rfl (Nat.le_of_ble_eq_true rfl) ?_
  intro z A Q hl C E
  subst hl
  unfold f_X4_putBottom at hf
  refine mg_iload_n (pc := 0) C 1 dX4_putBottom_0 rfl rfl ?_
  refine mg_if_lt (pc := 1) (tgt := 20) C dX4_putBottom_1 (by decide) hf (fun hf => ?_) (fun hf => ?_)
  · obtain rfl := Option.some.inj hf
    exact E _ _ dX4_putBottom_20
  · refine mg_iload_n (pc := 4) C 1 dX4_putBottom_4 rfl rfl ?_
    refine mg_aload_n (pc := 5) C 0 dX4_putBottom_5 rfl rfl ?_
    refine mg_get (pc := 6) C 0 rfl rfl inX4 3 (by decide) wm_53 rfl rfl dX4_putBottom_6 ?_
    refine mg_alen (pc := 9) C (v := 49) 1 0 rfl rfl rfl dX4_putBottom_9 ?_
    refine mg_icmp_ge (pc := 10) (tgt := 20) C dX4_putBottom_10 (by decide) hf (fun hf => ?_) (fun hf => ?_)
    · obtain rfl := Option.some.inj hf
      exact E _ _ dX4_putBottom_20
    · refine mg_aload_n (pc := 13) C 0 dX4_putBottom_13 rfl rfl ?_
      refine mg_get (pc := 14) C 0 rfl rfl inX4 3 (by decide) wm_53 rfl rfl dX4_putBottom_14 ?_
      refine mg_iload_n (pc := 17) C 1 dX4_putBottom_17 rfl rfl ?_
      refine mg_iload_n (pc := 18) C 2 dX4_putBottom_18 rfl rfl ?_
      refine mg_iast (pc := 19) C (w2 := w_X4_putBottom k a_t a_t_bottoms v_t_depth v_t_tiltX v_t_tiltY (upd v_t_bottoms (Int32.toNatClampNeg x1) x2)) 1 rfl dX4_putBottom_19 hf rfl (fun hf => ?_)
      obtain rfl := Option.some.inj hf
      exact E _ _ dX4_putBottom_20
abbrev w_X4_tiltSum (k : mg_K) (a_t a_t_bottoms : Nat) (v_t_depth : Int32) (v_t_tiltX : Int32) (v_t_tiltY : Int32) : va_W := [(a_t, .inr (4, [.int v_t_depth, .int v_t_tiltX, .int v_t_tiltY, .ref a_t_bottoms]))]
def f_X4_tiltSum (v_t_tiltX : Int32) (v_t_tiltY : Int32) : Option (Int32) := some ((mg_ab v_t_tiltX) + (mg_ab v_t_tiltY))
theorem Y_X4_tiltSum : mg_Y yX4_tiltSum cX4_tiltSum 1 (some .int) 0 := ⟨wm_826, wm_827, wm_4, wm_828, ⟨by decide +kernel, by decide +kernel, by decide +kernel⟩, by decide⟩
set_option maxRecDepth 100000 in
set_option maxHeartbeats 4000000 in
theorem c_X4_tiltSum (l : Launch) (k : mg_K) (a_t a_t_bottoms : Nat) (v_t_depth : Int32) (v_t_tiltX : Int32) (v_t_tiltY : Int32) (q : Int32) (hf : f_X4_tiltSum v_t_tiltX v_t_tiltY = some q) : mg_M l yX4_tiltSum cX4_tiltSum 1 (some .int) 1 k [.ref a_t] (w_X4_tiltSum k a_t a_t_bottoms v_t_depth v_t_tiltX v_t_tiltY) (w_X4_tiltSum k a_t a_t_bottoms v_t_depth v_t_tiltX v_t_tiltY) (some (.int q)) := by
  refine mg_Mi RX4 [(0, .ref a_t)] (by decide +kernel) rfl rfl (Nat.le_of_ble_eq_true rfl) ?_
  intro z A Q hl C E
  subst hl
  unfold f_X4_tiltSum at hf
  refine mg_aload_n (pc := 0) C 0 dX4_tiltSum_0 rfl rfl ?_
  refine mg_get (pc := 1) C 0 rfl rfl inX4 1 (by decide) wm_48 rfl rfl dX4_tiltSum_1 ?_
  refine mg_mabs (pc := 4) C wm_829 wm_668 wm_7 wm_669 (by decide) (Nat.le_of_ble_eq_true rfl) dX4_tiltSum_4 ?_
  refine mg_aload_n (pc := 7) C 0 dX4_tiltSum_7 rfl rfl ?_
  refine mg_get (pc := 8) C 0 rfl rfl inX4 2 (by decide) wm_50 rfl rfl dX4_tiltSum_8 ?_
  refine mg_mabs (pc := 11) C wm_829 wm_668 wm_7 wm_669 (by decide) (Nat.le_of_ble_eq_true rfl) dX4_tiltSum_11 ?_
  refine mg_iadd (pc := 14) C dX4_tiltSum_14 ?_
  obtain rfl := Option.some.inj hf
  exact E _ _ dX4_tiltSum_15
abbrev w_X4_copyFrom (k : mg_K) (a_t a_p1 a_p1_bottoms a_t_bottoms : Nat) (v_p1_depth : Int32) (v_p1_tiltX : Int32) (v_p1_tiltY : Int32) (v_p1_bottoms : Nat → Int32) (v_t_depth : Int32) (v_t_tiltX : Int32) (v_t_tiltY : Int32) (v_t_bottoms : Nat → Int32) : va_W := [(a_p1, .inr (4, [.int v_p1_depth, .int v_p1_tiltX, .int v_p1_tiltY, .ref a_p1_bottoms])), (a_p1_bottoms, .inl (k.2.1, 49, .inl v_p1_bottoms)), (a_t, .inr (4, [.int v_t_depth, .int v_t_tiltX, .int v_t_tiltY, .ref a_t_bottoms])), (a_t_bottoms, .inl (k.2.1, 49, .inl v_t_bottoms))]
def f_X4_copyFrom (v_p1_depth : Int32) (v_p1_tiltX : Int32) (v_p1_tiltY : Int32) (v_p1_bottoms : Nat → Int32) (v_t_bottoms : Nat → Int32) : Option (Int32 × Int32 × Int32 × (Nat → Int32)) := if mg_cp 0 0 49 49 49 = true then (some (v_p1_depth, v_p1_tiltX, v_p1_tiltY, va_cpy v_p1_bottoms v_t_bottoms (Int32.toNatClampNeg 0) (Int32.toNatClampNeg 0) (Int32.toNatClampNeg 49))) else none
theorem Y_X4_copyFrom : mg_Y yX4_copyFrom cX4_copyFrom 2 none 1 := ⟨wm_492, wm_493, wm_4, wm_494, ⟨by decide +kernel, by decide +kernel, by decide +kernel⟩, by decide⟩
set_option maxRecDepth 100000 in
set_option maxHeartbeats 4000000 in
theorem c_X4_copyFrom (l : Launch) (k : mg_K) (a_t a_p1 a_p1_bottoms a_t_bottoms : Nat) (v_p1_depth : Int32) (v_p1_tiltX : Int32) (v_p1_tiltY : Int32) (v_p1_bottoms : Nat → Int32) (v_t_depth : Int32) (v_t_tiltX : Int32) (v_t_tiltY : Int32) (v_t_bottoms : Nat → Int32) (q : Int32 × Int32 × Int32 × (Nat → Int32)) (hf : f_X4_copyFrom v_p1_depth v_p1_tiltX v_p1_tiltY v_p1_bottoms v_t_bottoms = some q) : mg_M l yX4_copyFrom cX4_copyFrom 2 none 1 k [.ref a_t, .ref a_p1] (w_X4_copyFrom k a_t a_p1 a_p1_bottoms a_t_bottoms v_p1_depth v_p1_tiltX v_p1_tiltY v_p1_bottoms v_t_depth v_t_tiltX v_t_tiltY v_t_bottoms) (w_X4_copyFrom k a_t a_p1 a_p1_bottoms a_t_bottoms v_p1_depth v_p1_tiltX v_p1_tiltY v_p1_bottoms q.1 q.2.1 q.2.2.1 q.2.2.2) none := by
  refine mg_Mv RX4 [(0, .ref a_t), (1, .ref a_p1)] (by decide +kernel) rfl rfl (Nat.le_of_ble_eq_true rfl) ?_
  intro z A Q hl C E
  subst hl
  unfold f_X4_copyFrom at hf
  refine mg_aload_n (pc := 0) C 0 dX4_copyFrom_0 rfl rfl ?_
  refine mg_aload_n (pc := 1) C 1 dX4_copyFrom_1 rfl rfl ?_
  refine mg_get (pc := 2) C 0 rfl rfl inX4 0 (by decide) wm_43 rfl rfl dX4_copyFrom_2 ?_
  refine mg_puti (pc := 5) C (w2 := w_X4_copyFrom k a_t a_p1 a_p1_bottoms a_t_bottoms v_p1_depth v_p1_tiltX v_p1_tiltY v_p1_bottoms v_p1_depth v_t_tiltX v_t_tiltY v_t_bottoms) 2 rfl rfl inX4 0 (by decide) wm_43 rfl tyX4 tyX4_ok nmX4 rfl (by decide +kernel) (Nat.le_of_ble_eq_true rfl) rfl dX4_copyFrom_5 ?_
  refine mg_aload_n (pc := 8) C 0 dX4_copyFrom_8 rfl rfl ?_
  refine mg_aload_n (pc := 9) C 1 dX4_copyFrom_9 rfl rfl ?_
  refine mg_get (pc := 10) C 0 rfl rfl inX4 1 (by decide) wm_48 rfl rfl dX4_copyFrom_10 ?_
  refine mg_puti (pc := 13) C (w2 := w_X4_copyFrom k a_t a_p1 a_p1_bottoms a_t_bottoms v_p1_depth v_p1_tiltX v_p1_tiltY v_p1_bottoms v_p1_depth v_p1_tiltX v_t_tiltY v_t_bottoms) 2 rfl rfl inX4 1 (by decide) wm_48 rfl tyX4 tyX4_ok nmX4 rfl (by decide +kernel) (Nat.le_of_ble_eq_true rfl) rfl dX4_copyFrom_13 ?_
  refine mg_aload_n (pc := 16) C 0 dX4_copyFrom_16 rfl rfl ?_
  refine mg_aload_n (pc := 17) C 1 dX4_copyFrom_17 rfl rfl ?_
  refine mg_get (pc := 18) C 0 rfl rfl inX4 2 (by decide) wm_50 rfl rfl dX4_copyFrom_18 ?_
  refine mg_puti (pc := 21) C (w2 := w_X4_copyFrom k a_t a_p1 a_p1_bottoms a_t_bottoms v_p1_depth v_p1_tiltX v_p1_tiltY v_p1_bottoms v_p1_depth v_p1_tiltX v_p1_tiltY v_t_bottoms) 2 rfl rfl inX4 2 (by decide) wm_50 rfl tyX4 tyX4_ok nmX4 rfl (by decide +kernel) (Nat.le_of_ble_eq_true rfl) rfl dX4_copyFrom_21 ?_
  refine mg_aload_n (pc := 24) C 1 dX4_copyFrom_24 rfl rfl ?_
  refine mg_get (pc := 25) C 0 rfl rfl inX4 3 (by decide) wm_53 rfl rfl dX4_copyFrom_25 ?_
  refine mg_iconst (pc := 28) C dX4_copyFrom_28 (v := 0) (by decide) ?_
  refine mg_aload_n (pc := 29) C 0 dX4_copyFrom_29 rfl rfl ?_
  refine mg_get (pc := 30) C 2 rfl rfl inX4 3 (by decide) wm_53 rfl rfl dX4_copyFrom_30 ?_
  refine mg_iconst (pc := 33) C dX4_copyFrom_33 (v := 0) (by decide) ?_
  refine mg_aload_n (pc := 34) C 0 dX4_copyFrom_34 rfl rfl ?_
  refine mg_get (pc := 35) C 2 rfl rfl inX4 3 (by decide) wm_53 rfl rfl dX4_copyFrom_35 ?_
  refine mg_alen (pc := 38) C (v := 49) 3 0 rfl rfl rfl dX4_copyFrom_38 ?_
  refine mg_copy (pc := 39) C (w2 := w_X4_copyFrom k a_t a_p1 a_p1_bottoms a_t_bottoms v_p1_depth v_p1_tiltX v_p1_tiltY v_p1_bottoms v_p1_depth v_p1_tiltX v_p1_tiltY (va_cpy v_p1_bottoms v_t_bottoms (Int32.toNatClampNeg 0) (Int32.toNatClampNeg 0) (Int32.toNatClampNeg 49))) wm_495 wm_469 wm_468 wm_16 (by decide) (Nat.le_of_ble_eq_true rfl) 1 3 rfl rfl dX4_copyFrom_39 hf rfl (fun hf => ?_)
  obtain rfl := Option.some.inj hf
  exact E _ _ dX4_copyFrom_42
