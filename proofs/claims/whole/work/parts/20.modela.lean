abbrev w_X9_begins (k : mg_K) (a_t a_t_s a_t_past a_t_aside a_t_text a_t_told a_t_bottoms a_t_planned : Nat) (v_t_pasts : Int32) (v_t_typed : Int32) (v_t_at : Int32) (v_t_kind : Int32) (v_t_from : Int32) (v_t_value : Int32) (v_t_planLength : Int32) (v_t_planAmount : Int32) (v_t_s : Nat → Int32) : va_W := [(a_t, .inr (9, [.ref a_t_s, .ref a_t_past, .ref a_t_aside, .int v_t_pasts, .ref a_t_text, .int v_t_typed, .int v_t_at, .int v_t_kind, .int v_t_from, .int v_t_value, .ref a_t_told, .ref a_t_bottoms, .ref a_t_planned, .int v_t_planLength, .int v_t_planAmount])), (a_t_s, .inl (k.2.1, 227, .inl v_t_s))]
def f_X9_begins_L2 : Nat → Int32 → (Nat → Int32) → Option (Int32 × (Nat → Int32))
  | 0, _, _ => none
  | n_ + 1, x1, v_t_s => if 227 ≤ x1 then (some ((x1, v_t_s))) else (if mg_ix x1 227 = true then (f_X9_begins_L2 n_ (x1 + 1) (upd v_t_s (Int32.toNatClampNeg x1) 0)) else none)
def f_X9_begins (fuel : Nat) (v_t_s : Nat → Int32) : Option ((Nat → Int32)) := (f_X9_begins_L2 fuel 0 v_t_s).bind (fun q1 => some (upd (upd (upd (upd (upd q1.2 0 5) 1 4) 5 600) 6 400) 7 400))
theorem Y_X9_begins : mg_Y yX9_begins cX9_begins 2 none 0 := ⟨wm_872, wp_19, wm_11, wm_873, ⟨by decide +kernel, by decide +kernel, by decide +kernel⟩, by decide⟩
set_option maxRecDepth 100000 in
set_option maxHeartbeats 4000000 in
theorem c_X9_begins (l : Launch) (k : mg_K) (a_t a_t_s a_t_past a_t_aside a_t_text a_t_told a_t_bottoms a_t_planned : Nat) (v_t_pasts : Int32) (v_t_typed : Int32) (v_t_at : Int32) (v_t_kind : Int32) (v_t_from : Int32) (v_t_value : Int32) (v_t_planLength : Int32) (v_t_planAmount : Int32) (v_t_s : Nat → Int32) (fuel : Nat) (q : (Nat → Int32)) (hf : f_X9_begins fuel v_t_s = some q) : mg_M l yX9_begins cX9_begins 2 none 0 k [.ref a_t] (w_X9_begins k a_t a_t_s a_t_past a_t_aside a_t_text a_t_told a_t_bottoms a_t_planned v_t_pasts v_t_typed v_t_at v_t_kind v_t_from v_t_value v_t_planLength v_t_planAmount v_t_s) (w_X9_begins k a_t a_t_s a_t_past a_t_aside a_t_text a_t_told a_t_bottoms a_t_planned v_t_pasts v_t_typed v_t_at v_t_kind v_t_from v_t_value v_t_planLength v_t_planAmount q) none := by
  refine mg_Mv RX9 [(0, .ref a_t)] (by decide +kernel) rfl rfl (Nat.le_of_ble_eq_true rfl) ?_
  intro z A Q hl C E
  subst hl
  unfold f_X9_begins at hf
  have L2 : ∀ (n_ : Nat) (x1 : Int32) (v_t_s : Nat → Int32) (q_ : Int32 × (Nat → Int32)), f_X9_begins_L2 n_ x1 v_t_s = some q_ → (mg z k A 2 0 0 Q (w_X9_begins k a_t a_t_s a_t_past a_t_aside a_t_text a_t_told a_t_bottoms a_t_planned v_t_pasts v_t_typed v_t_at v_t_kind v_t_from v_t_value v_t_planLength v_t_planAmount q_.2) [(0, .ref a_t)] 22 []) → mg z k A 2 0 0 Q (w_X9_begins k a_t a_t_s a_t_past a_t_aside a_t_text a_t_told a_t_bottoms a_t_planned v_t_pasts v_t_typed v_t_at v_t_kind v_t_from v_t_value v_t_planLength v_t_planAmount v_t_s) [(0, .ref a_t), (1, .int x1)] 2 [] := by
    intro n_
    induction n_ with
    | zero => intro x1 v_t_s q_ hf; exact mg_no (show none = some q_ from hf)
    | succ n_ ih =>
      intro x1 v_t_s q_ hf X0
      rw [f_X9_begins_L2] at hf
      refine mg_iload_n (pc := 2) C 1 dX9_begins_2 rfl rfl ?_
      refine mg_sipush (pc := 3) C dX9_begins_3 (v := 227) (by decide) ?_
      refine mg_icmp_ge (pc := 6) (tgt := 22) C dX9_begins_6 (by decide) hf (fun hf => ?_) (fun hf => ?_)
      · obtain rfl := Option.some.inj hf
        refine mg_lv [0] rfl ?_
        exact X0
      · refine mg_aload_n (pc := 9) C 0 dX9_begins_9 rfl rfl ?_
        refine mg_get (pc := 10) C 0 rfl rfl inX9 0 (by decide) wm_874 rfl rfl dX9_begins_10 ?_
        refine mg_iload_n (pc := 13) C 1 dX9_begins_13 rfl rfl ?_
        refine mg_iconst (pc := 14) C dX9_begins_14 (v := 0) (by decide) ?_
        refine mg_iast (pc := 15) C (w2 := w_X9_begins k a_t a_t_s a_t_past a_t_aside a_t_text a_t_told a_t_bottoms a_t_planned v_t_pasts v_t_typed v_t_at v_t_kind v_t_from v_t_value v_t_planLength v_t_planAmount (upd v_t_s (Int32.toNatClampNeg x1) 0)) 1 rfl dX9_begins_15 hf rfl (fun hf => ?_)
        refine mg_iinc (pc := 16) C (c := 1) (lv' := [(1, .int (x1 + 1)), (0, .ref a_t)]) 1 dX9_begins_16 rfl (by decide) (by decide) rfl ?_
        refine mg_goto (pc := 19) (tgt := 2) C dX9_begins_19 (by decide) ?_
        refine mg_lv [1, 0] rfl ?_
        exact ih (x1 + 1) (upd v_t_s (Int32.toNatClampNeg x1) 0) _ hf X0
  refine mg_iconst (pc := 0) C dX9_begins_0 (v := 0) (by decide) ?_
  refine mg_istore_n (pc := 1) C (lv' := [(1, .int 0), (0, .ref a_t)]) dX9_begins_1 rfl (by decide) rfl ?_
  obtain ⟨q1, h2, hf⟩ := mg_b hf
  refine mg_lv [1, 0] rfl ?_
  refine L2  fuel 0 v_t_s q1 h2 ?_
  refine mg_aload_n (pc := 22) C 0 dX9_begins_22 rfl rfl ?_
  refine mg_get (pc := 23) C 0 rfl rfl inX9 0 (by decide) wm_874 rfl rfl dX9_begins_23 ?_
  refine mg_iconst (pc := 26) C dX9_begins_26 (v := 0) (by decide) ?_
  refine mg_iconst (pc := 27) C dX9_begins_27 (v := 5) (by decide) ?_
  refine mg_iastK (pc := 28) C (w2 := w_X9_begins k a_t a_t_s a_t_past a_t_aside a_t_text a_t_told a_t_bottoms a_t_planned v_t_pasts v_t_typed v_t_at v_t_kind v_t_from v_t_value v_t_planLength v_t_planAmount (upd q1.2 0 5)) 1 0 rfl dX9_begins_28 (by decide) (by decide) rfl ?_
  refine mg_aload_n (pc := 29) C 0 dX9_begins_29 rfl rfl ?_
  refine mg_get (pc := 30) C 0 rfl rfl inX9 0 (by decide) wm_874 rfl rfl dX9_begins_30 ?_
  refine mg_iconst (pc := 33) C dX9_begins_33 (v := 1) (by decide) ?_
  refine mg_iconst (pc := 34) C dX9_begins_34 (v := 4) (by decide) ?_
  refine mg_iastK (pc := 35) C (w2 := w_X9_begins k a_t a_t_s a_t_past a_t_aside a_t_text a_t_told a_t_bottoms a_t_planned v_t_pasts v_t_typed v_t_at v_t_kind v_t_from v_t_value v_t_planLength v_t_planAmount (upd (upd q1.2 0 5) 1 4)) 1 1 rfl dX9_begins_35 (by decide) (by decide) rfl ?_
  refine mg_aload_n (pc := 36) C 0 dX9_begins_36 rfl rfl ?_
  refine mg_get (pc := 37) C 0 rfl rfl inX9 0 (by decide) wm_874 rfl rfl dX9_begins_37 ?_
  refine mg_iconst (pc := 40) C dX9_begins_40 (v := 5) (by decide) ?_
  refine mg_sipush (pc := 41) C dX9_begins_41 (v := 600) (by decide) ?_
  refine mg_iastK (pc := 44) C (w2 := w_X9_begins k a_t a_t_s a_t_past a_t_aside a_t_text a_t_told a_t_bottoms a_t_planned v_t_pasts v_t_typed v_t_at v_t_kind v_t_from v_t_value v_t_planLength v_t_planAmount (upd (upd (upd q1.2 0 5) 1 4) 5 600)) 1 5 rfl dX9_begins_44 (by decide) (by decide) rfl ?_
  refine mg_aload_n (pc := 45) C 0 dX9_begins_45 rfl rfl ?_
  refine mg_get (pc := 46) C 0 rfl rfl inX9 0 (by decide) wm_874 rfl rfl dX9_begins_46 ?_
  refine mg_bipush (pc := 49) C dX9_begins_49 (v := 6) (by decide) ?_
  refine mg_sipush (pc := 51) C dX9_begins_51 (v := 400) (by decide) ?_
  refine mg_iastK (pc := 54) C (w2 := w_X9_begins k a_t a_t_s a_t_past a_t_aside a_t_text a_t_told a_t_bottoms a_t_planned v_t_pasts v_t_typed v_t_at v_t_kind v_t_from v_t_value v_t_planLength v_t_planAmount (upd (upd (upd (upd q1.2 0 5) 1 4) 5 600) 6 400)) 1 6 rfl dX9_begins_54 (by decide) (by decide) rfl ?_
  refine mg_aload_n (pc := 55) C 0 dX9_begins_55 rfl rfl ?_
  refine mg_get (pc := 56) C 0 rfl rfl inX9 0 (by decide) wm_874 rfl rfl dX9_begins_56 ?_
  refine mg_bipush (pc := 59) C dX9_begins_59 (v := 7) (by decide) ?_
  refine mg_sipush (pc := 61) C dX9_begins_61 (v := 400) (by decide) ?_
  refine mg_iastK (pc := 64) C (w2 := w_X9_begins k a_t a_t_s a_t_past a_t_aside a_t_text a_t_told a_t_bottoms a_t_planned v_t_pasts v_t_typed v_t_at v_t_kind v_t_from v_t_value v_t_planLength v_t_planAmount (upd (upd (upd (upd (upd q1.2 0 5) 1 4) 5 600) 6 400) 7 400)) 1 7 rfl dX9_begins_64 (by decide) (by decide) rfl ?_
  obtain rfl := Option.some.inj hf
  exact E _ _ dX9_begins_65
abbrev w_X9_in (k : mg_K) : va_W := []
def f_X9_in (x0 : Int32) (x1 : Int32) (x2 : Int32) : Option (Int32) := if x0 < x1 then (some 0) else (if x2 < x0 then (some 0) else (some 1))
theorem Y_X9_in : mg_YS yX9_in cX9_in 3 (some .boolean) 3 := ⟨wm_925, wm_11, wm_926, ⟨by decide +kernel, by decide +kernel, by decide +kernel⟩, by decide⟩
set_option maxRecDepth 100000 in
set_option maxHeartbeats 4000000 in
theorem c_X9_in (l : Launch) (k : mg_K) (x0 : Int32) (x1 : Int32) (x2 : Int32) (q : Int32) (hf : f_X9_in x0 x1 x2 = some q) : mg_M l yX9_in cX9_in 3 (some .boolean) 0 k [.int x0, .int x1, .int x2] (w_X9_in k) (w_X9_in k) (some (.int q)) := by
  refine mg_Mz RX9 [(0, .int x0), (1, .int x1), (2, .int x2)] (by decide +kernel) rfl rfl (Nat.le_of_ble_eq_true rfl) ?_
  intro z A Q hl C E
  subst hl
  unfold f_X9_in at hf
  refine mg_iload_n (pc := 0) C 0 dX9_in_0 rfl rfl ?_
  refine mg_iload_n (pc := 1) C 1 dX9_in_1 rfl rfl ?_
  refine mg_icmp_lt (pc := 2) (tgt := 14) C dX9_in_2 (by decide) hf (fun hf => ?_) (fun hf => ?_)
  · refine mg_iconst (pc := 14) C dX9_in_14 (v := 0) (by decide) ?_
    obtain rfl := Option.some.inj hf
    exact E mg_n0 _ _ dX9_in_15
  · refine mg_iload_n (pc := 5) C 0 dX9_in_5 rfl rfl ?_
    refine mg_iload_n (pc := 6) C 2 dX9_in_6 rfl rfl ?_
    refine mg_icmp_gt (pc := 7) (tgt := 14) C dX9_in_7 (by decide) hf (fun hf => ?_) (fun hf => ?_)
    · refine mg_iconst (pc := 14) C dX9_in_14 (v := 0) (by decide) ?_
      obtain rfl := Option.some.inj hf
      exact E mg_n0 _ _ dX9_in_15
    · refine mg_iconst (pc := 10) C dX9_in_10 (v := 1) (by decide) ?_
      refine mg_goto (pc := 11) (tgt := 15) C dX9_in_11 (by decide) ?_
      obtain rfl := Option.some.inj hf
      exact E mg_n1 _ _ dX9_in_15
abbrev w_X9_size (k : mg_K) : va_W := []
def f_X9_size (x0 : Int32) : Option (Int32) := if 0 ≤ x0 then (some x0) else (some (-x0))
theorem Y_X9_size : mg_YS yX9_size cX9_size 1 (some .int) 1 := ⟨wm_1157, wm_11, wm_1158, ⟨by decide +kernel, by decide +kernel, by decide +kernel⟩, by decide⟩
set_option maxRecDepth 100000 in
set_option maxHeartbeats 4000000 in
theorem c_X9_size (l : Launch) (k : mg_K) (x0 : Int32) (q : Int32) (hf : f_X9_size x0 = some q) : mg_M l yX9_size cX9_size 1 (some .int) 0 k [.int x0] (w_X9_size k) (w_X9_size k) (some (.int q)) := by
  refine mg_Mi RX9 [(0, .int x0)] (by decide +kernel) rfl rfl (Nat.le_of_ble_eq_true rfl) ?_
  intro z A Q hl C E
  subst hl
  unfold f_X9_size at hf
  refine mg_iload_n (pc := 0) C 0 dX9_size_0 rfl rfl ?_
  refine mg_if_ge (pc := 1) (tgt := 9) C dX9_size_1 (by decide) hf (fun hf => ?_) (fun hf => ?_)
  · refine mg_iload_n (pc := 9) C 0 dX9_size_9 rfl rfl ?_
    obtain rfl := Option.some.inj hf
    exact E _ _ dX9_size_10
  · refine mg_iload_n (pc := 4) C 0 dX9_size_4 rfl rfl ?_
    refine mg_ineg (pc := 5) C dX9_size_5 ?_
    refine mg_goto (pc := 6) (tgt := 10) C dX9_size_6 (by decide) ?_
    obtain rfl := Option.some.inj hf
    exact E _ _ dX9_size_10
abbrev w_X9_hold (k : mg_K) (a_t a_t_s a_t_past a_t_aside a_t_text a_t_told a_t_bottoms a_t_planned : Nat) (v_t_pasts : Int32) (v_t_typed : Int32) (v_t_at : Int32) (v_t_kind : Int32) (v_t_from : Int32) (v_t_value : Int32) (v_t_planLength : Int32) (v_t_planAmount : Int32) (v_t_aside : Nat → Int32) (v_t_s : Nat → Int32) : va_W := [(a_t, .inr (9, [.ref a_t_s, .ref a_t_past, .ref a_t_aside, .int v_t_pasts, .ref a_t_text, .int v_t_typed, .int v_t_at, .int v_t_kind, .int v_t_from, .int v_t_value, .ref a_t_told, .ref a_t_bottoms, .ref a_t_planned, .int v_t_planLength, .int v_t_planAmount])), (a_t_aside, .inl (k.2.1, 227, .inl v_t_aside)), (a_t_s, .inl (k.2.1, 227, .inl v_t_s))]
def f_X9_hold_L2 (v_t_s : Nat → Int32) : Nat → Int32 → (Nat → Int32) → Option (Int32 × (Nat → Int32))
  | 0, _, _ => none
  | n_ + 1, x1, v_t_aside => if 227 ≤ x1 then (some ((x1, v_t_aside))) else (if mg_ix x1 227 = true then (if mg_ix x1 227 = true then (f_X9_hold_L2 v_t_s n_ (x1 + 1) (upd v_t_aside (Int32.toNatClampNeg x1) (v_t_s (Int32.toNatClampNeg x1)))) else none) else none)
def f_X9_hold (fuel : Nat) (v_t_aside : Nat → Int32) (v_t_s : Nat → Int32) : Option ((Nat → Int32)) := (f_X9_hold_L2 v_t_s fuel 0 v_t_aside).bind (fun q1 => some q1.2)
theorem Y_X9_hold : mg_Y yX9_hold cX9_hold 2 none 0 := ⟨wm_939, wp_20, wm_11, wm_940, ⟨by decide +kernel, by decide +kernel, by decide +kernel⟩, by decide⟩
set_option maxRecDepth 100000 in
set_option maxHeartbeats 4000000 in
theorem c_X9_hold (l : Launch) (k : mg_K) (a_t a_t_s a_t_past a_t_aside a_t_text a_t_told a_t_bottoms a_t_planned : Nat) (v_t_pasts : Int32) (v_t_typed : Int32) (v_t_at : Int32) (v_t_kind : Int32) (v_t_from : Int32) (v_t_value : Int32) (v_t_planLength : Int32) (v_t_planAmount : Int32) (v_t_aside : Nat → Int32) (v_t_s : Nat → Int32) (fuel : Nat) (q : (Nat → Int32)) (hf : f_X9_hold fuel v_t_aside v_t_s = some q) : mg_M l yX9_hold cX9_hold 2 none 0 k [.ref a_t] (w_X9_hold k a_t a_t_s a_t_past a_t_aside a_t_text a_t_told a_t_bottoms a_t_planned v_t_pasts v_t_typed v_t_at v_t_kind v_t_from v_t_value v_t_planLength v_t_planAmount v_t_aside v_t_s) (w_X9_hold k a_t a_t_s a_t_past a_t_aside a_t_text a_t_told a_t_bottoms a_t_planned v_t_pasts v_t_typed v_t_at v_t_kind v_t_from v_t_value v_t_planLength v_t_planAmount q v_t_s) none := by
  refine mg_Mv RX9 [(0, .ref a_t)] (by decide +kernel) rfl rfl (Nat.le_of_ble_eq_true rfl) ?_
  intro z A Q hl C E
  subst hl
  unfold f_X9_hold at hf
  have L2 : ∀ (n_ : Nat) (x1 : Int32) (v_t_aside : Nat → Int32) (q_ : Int32 × (Nat → Int32)), f_X9_hold_L2 v_t_s n_ x1 v_t_aside = some q_ → (mg z k A 2 0 0 Q (w_X9_hold k a_t a_t_s a_t_past a_t_aside a_t_text a_t_told a_t_bottoms a_t_planned v_t_pasts v_t_typed v_t_at v_t_kind v_t_from v_t_value v_t_planLength v_t_planAmount q_.2 v_t_s) [] 27 []) → mg z k A 2 0 0 Q (w_X9_hold k a_t a_t_s a_t_past a_t_aside a_t_text a_t_told a_t_bottoms a_t_planned v_t_pasts v_t_typed v_t_at v_t_kind v_t_from v_t_value v_t_planLength v_t_planAmount v_t_aside v_t_s) [(0, .ref a_t), (1, .int x1)] 2 [] := by
    intro n_
    induction n_ with
    | zero => intro x1 v_t_aside q_ hf; exact mg_no (show none = some q_ from hf)
    | succ n_ ih =>
      intro x1 v_t_aside q_ hf X0
      rw [f_X9_hold_L2] at hf
      refine mg_iload_n (pc := 2) C 1 dX9_hold_2 rfl rfl ?_
      refine mg_sipush (pc := 3) C dX9_hold_3 (v := 227) (by decide) ?_
      refine mg_icmp_ge (pc := 6) (tgt := 27) C dX9_hold_6 (by decide) hf (fun hf => ?_) (fun hf => ?_)
      · obtain rfl := Option.some.inj hf
        refine mg_lv [] rfl ?_
        exact X0
      · refine mg_aload_n (pc := 9) C 0 dX9_hold_9 rfl rfl ?_
        refine mg_get (pc := 10) C 0 rfl rfl inX9 2 (by decide) wm_876 rfl rfl dX9_hold_10 ?_
        refine mg_iload_n (pc := 13) C 1 dX9_hold_13 rfl rfl ?_
        refine mg_aload_n (pc := 14) C 0 dX9_hold_14 rfl rfl ?_
        refine mg_get (pc := 15) C 0 rfl rfl inX9 0 (by decide) wm_874 rfl rfl dX9_hold_15 ?_
        refine mg_iload_n (pc := 18) C 1 dX9_hold_18 rfl rfl ?_
        refine mg_iald (pc := 19) C 2 rfl dX9_hold_19 hf (fun hf => ?_)
        refine mg_iast (pc := 20) C (w2 := w_X9_hold k a_t a_t_s a_t_past a_t_aside a_t_text a_t_told a_t_bottoms a_t_planned v_t_pasts v_t_typed v_t_at v_t_kind v_t_from v_t_value v_t_planLength v_t_planAmount (upd v_t_aside (Int32.toNatClampNeg x1) (v_t_s (Int32.toNatClampNeg x1))) v_t_s) 1 rfl dX9_hold_20 hf rfl (fun hf => ?_)
        refine mg_iinc (pc := 21) C (c := 1) (lv' := [(1, .int (x1 + 1)), (0, .ref a_t)]) 1 dX9_hold_21 rfl (by decide) (by decide) rfl ?_
        refine mg_goto (pc := 24) (tgt := 2) C dX9_hold_24 (by decide) ?_
        refine mg_lv [1, 0] rfl ?_
        exact ih (x1 + 1) (upd v_t_aside (Int32.toNatClampNeg x1) (v_t_s (Int32.toNatClampNeg x1))) _ hf X0
  refine mg_iconst (pc := 0) C dX9_hold_0 (v := 0) (by decide) ?_
  refine mg_istore_n (pc := 1) C (lv' := [(1, .int 0), (0, .ref a_t)]) dX9_hold_1 rfl (by decide) rfl ?_
  obtain ⟨q1, h2, hf⟩ := mg_b hf
  refine mg_lv [1, 0] rfl ?_
  refine L2  fuel 0 v_t_aside q1 h2 ?_
  obtain rfl := Option.some.inj hf
  exact E _ _ dX9_hold_27
abbrev w_X9_restore (k : mg_K) (a_t a_t_s a_t_past a_t_aside a_t_text a_t_told a_t_bottoms a_t_planned : Nat) (v_t_pasts : Int32) (v_t_typed : Int32) (v_t_at : Int32) (v_t_kind : Int32) (v_t_from : Int32) (v_t_value : Int32) (v_t_planLength : Int32) (v_t_planAmount : Int32) (v_t_aside : Nat → Int32) (v_t_s : Nat → Int32) : va_W := [(a_t, .inr (9, [.ref a_t_s, .ref a_t_past, .ref a_t_aside, .int v_t_pasts, .ref a_t_text, .int v_t_typed, .int v_t_at, .int v_t_kind, .int v_t_from, .int v_t_value, .ref a_t_told, .ref a_t_bottoms, .ref a_t_planned, .int v_t_planLength, .int v_t_planAmount])), (a_t_aside, .inl (k.2.1, 227, .inl v_t_aside)), (a_t_s, .inl (k.2.1, 227, .inl v_t_s))]
def f_X9_restore_L2 (v_t_aside : Nat → Int32) : Nat → Int32 → (Nat → Int32) → Option (Int32 × (Nat → Int32))
  | 0, _, _ => none
  | n_ + 1, x1, v_t_s => if 227 ≤ x1 then (some ((x1, v_t_s))) else (if mg_ix x1 227 = true then (if mg_ix x1 227 = true then (f_X9_restore_L2 v_t_aside n_ (x1 + 1) (upd v_t_s (Int32.toNatClampNeg x1) (v_t_aside (Int32.toNatClampNeg x1)))) else none) else none)
def f_X9_restore (fuel : Nat) (v_t_aside : Nat → Int32) (v_t_s : Nat → Int32) : Option ((Nat → Int32)) := (f_X9_restore_L2 v_t_aside fuel 0 v_t_s).bind (fun q1 => some q1.2)
theorem Y_X9_restore : mg_Y yX9_restore cX9_restore 2 none 0 := ⟨wm_1002, wp_33, wm_11, wm_1003, ⟨by decide +kernel, by decide +kernel, by decide +kernel⟩, by decide⟩
set_option maxRecDepth 100000 in
set_option maxHeartbeats 4000000 in
theorem c_X9_restore (l : Launch) (k : mg_K) (a_t a_t_s a_t_past a_t_aside a_t_text a_t_told a_t_bottoms a_t_planned : Nat) (v_t_pasts : Int32) (v_t_typed : Int32) (v_t_at : Int32) (v_t_kind : Int32) (v_t_from : Int32) (v_t_value : Int32) (v_t_planLength : Int32) (v_t_planAmount : Int32) (v_t_aside : Nat → Int32) (v_t_s : Nat → Int32) (fuel : Nat) (q : (Nat → Int32)) (hf : f_X9_restore fuel v_t_aside v_t_s = some q) : mg_M l yX9_restore cX9_restore 2 none 0 k [.ref a_t] (w_X9_restore k a_t a_t_s a_t_past a_t_aside a_t_text a_t_told a_t_bottoms a_t_planned v_t_pasts v_t_typed v_t_at v_t_kind v_t_from v_t_value v_t_planLength v_t_planAmount v_t_aside v_t_s) (w_X9_restore k a_t a_t_s a_t_past a_t_aside a_t_text a_t_told a_t_bottoms a_t_planned v_t_pasts v_t_typed v_t_at v_t_kind v_t_from v_t_value v_t_planLength v_t_planAmount v_t_aside q) none := by
  refine mg_Mv RX9 [(0, .ref a_t)] (by decide +kernel) rfl rfl (Nat.le_of_ble_eq_true rfl) ?_
  intro z A Q hl C E
  subst hl
  unfold f_X9_restore at hf
  have L2 : ∀ (n_ : Nat) (x1 : Int32) (v_t_s : Nat → Int32) (q_ : Int32 × (Nat → Int32)), f_X9_restore_L2 v_t_aside n_ x1 v_t_s = some q_ → (mg z k A 2 0 0 Q (w_X9_restore k a_t a_t_s a_t_past a_t_aside a_t_text a_t_told a_t_bottoms a_t_planned v_t_pasts v_t_typed v_t_at v_t_kind v_t_from v_t_value v_t_planLength v_t_planAmount v_t_aside q_.2) [] 27 []) → mg z k A 2 0 0 Q (w_X9_restore k a_t a_t_s a_t_past a_t_aside a_t_text a_t_told a_t_bottoms a_t_planned v_t_pasts v_t_typed v_t_at v_t_kind v_t_from v_t_value v_t_planLength v_t_planAmount v_t_aside v_t_s) [(0, .ref a_t), (1, .int x1)] 2 [] := by
    intro n_
    induction n_ with
    | zero => intro x1 v_t_s q_ hf; exact mg_no (show none = some q_ from hf)
    | succ n_ ih =>
      intro x1 v_t_s q_ hf X0
      rw [f_X9_restore_L2] at hf
      refine mg_iload_n (pc := 2) C 1 dX9_restore_2 rfl rfl ?_
      refine mg_sipush (pc := 3) C dX9_restore_3 (v := 227) (by decide) ?_
      refine mg_icmp_ge (pc := 6) (tgt := 27) C dX9_restore_6 (by decide) hf (fun hf => ?_) (fun hf => ?_)
      · obtain rfl := Option.some.inj hf
        refine mg_lv [] rfl ?_
        exact X0
      · refine mg_aload_n (pc := 9) C 0 dX9_restore_9 rfl rfl ?_
        refine mg_get (pc := 10) C 0 rfl rfl inX9 0 (by decide) wm_874 rfl rfl dX9_restore_10 ?_
        refine mg_iload_n (pc := 13) C 1 dX9_restore_13 rfl rfl ?_
        refine mg_aload_n (pc := 14) C 0 dX9_restore_14 rfl rfl ?_
        refine mg_get (pc := 15) C 0 rfl rfl inX9 2 (by decide) wm_876 rfl rfl dX9_restore_15 ?_
        refine mg_iload_n (pc := 18) C 1 dX9_restore_18 rfl rfl ?_
        refine mg_iald (pc := 19) C 1 rfl dX9_restore_19 hf (fun hf => ?_)
        refine mg_iast (pc := 20) C (w2 := w_X9_restore k a_t a_t_s a_t_past a_t_aside a_t_text a_t_told a_t_bottoms a_t_planned v_t_pasts v_t_typed v_t_at v_t_kind v_t_from v_t_value v_t_planLength v_t_planAmount v_t_aside (upd v_t_s (Int32.toNatClampNeg x1) (v_t_aside (Int32.toNatClampNeg x1)))) 2 rfl dX9_restore_20 hf rfl (fun hf => ?_)
        refine mg_iinc (pc := 21) C (c := 1) (lv' := [(1, .int (x1 + 1)), (0, .ref a_t)]) 1 dX9_restore_21 rfl (by decide) (by decide) rfl ?_
        refine mg_goto (pc := 24) (tgt := 2) C dX9_restore_24 (by decide) ?_
        refine mg_lv [1, 0] rfl ?_
        exact ih (x1 + 1) (upd v_t_s (Int32.toNatClampNeg x1) (v_t_aside (Int32.toNatClampNeg x1))) _ hf X0
  refine mg_iconst (pc := 0) C dX9_restore_0 (v := 0) (by decide) ?_
  refine mg_istore_n (pc := 1) C (lv' := [(1, .int 0), (0, .ref a_t)]) dX9_restore_1 rfl (by decide) rfl ?_
  obtain ⟨q1, h2, hf⟩ := mg_b hf
  refine mg_lv [1, 0] rfl ?_
  refine L2  fuel 0 v_t_s q1 h2 ?_
  obtain rfl := Option.some.inj hf
  exact E _ _ dX9_restore_27
abbrev w_X9_ends (k : mg_K) (a_t a_t_s a_t_past a_t_aside a_t_text a_t_told a_t_bottoms a_t_planned : Nat) (v_t_pasts : Int32) (v_t_typed : Int32) (v_t_at : Int32) (v_t_kind : Int32) (v_t_from : Int32) (v_t_value : Int32) (v_t_planLength : Int32) (v_t_planAmount : Int32) (v_t_aside : Nat → Int32) (v_t_past : Nat → Int32) : va_W := [(a_t, .inr (9, [.ref a_t_s, .ref a_t_past, .ref a_t_aside, .int v_t_pasts, .ref a_t_text, .int v_t_typed, .int v_t_at, .int v_t_kind, .int v_t_from, .int v_t_value, .ref a_t_told, .ref a_t_bottoms, .ref a_t_planned, .int v_t_planLength, .int v_t_planAmount])), (a_t_aside, .inl (k.2.1, 227, .inl v_t_aside)), (a_t_past, .inl (k.2.1, 1362, .inl v_t_past))]
def f_X9_ends_L52 (v_t_pasts : Int32) (v_t_aside : Nat → Int32) : Nat → Int32 → (Nat → Int32) → Option (Int32 × (Nat → Int32))
  | 0, _, _ => none
  | n_ + 1, x2, v_t_past => if 227 ≤ x2 then (some ((x2, v_t_past))) else (if mg_ix x2 227 = true then (if mg_ix ((227 * v_t_pasts) + x2) 1362 = true then (f_X9_ends_L52 v_t_pasts v_t_aside n_ (x2 + 1) (upd v_t_past (Int32.toNatClampNeg ((227 * v_t_pasts) + x2)) (v_t_aside (Int32.toNatClampNeg x2)))) else none) else none)
def f_X9_ends_J50 (fuel : Nat) (v_t_pasts : Int32) (v_t_aside : Nat → Int32) (v_t_past : Nat → Int32) (x1 : Int32) : Option (Int32 × Int32 × (Nat → Int32)) := (f_X9_ends_L52 v_t_pasts v_t_aside fuel 0 v_t_past).bind (fun q1 => some (x1, v_t_pasts + 1, q1.2))
def f_X9_ends_L11 : Nat → Int32 → (Nat → Int32) → Option (Int32 × (Nat → Int32))
  | 0, _, _ => none
  | n_ + 1, x2, v_t_past => if 1135 ≤ x2 then (some ((x2, v_t_past))) else (if mg_ix (x2 + 227) 1362 = true then (if mg_ix x2 1362 = true then (f_X9_ends_L11 n_ (x2 + 1) (upd v_t_past (Int32.toNatClampNeg x2) (v_t_past (Int32.toNatClampNeg (x2 + 227))))) else none) else none)
def f_X9_ends (fuel : Nat) (v_t_pasts : Int32) (v_t_aside : Nat → Int32) (v_t_past : Nat → Int32) (x1 : Int32) : Option (Int32 × Int32 × (Nat → Int32)) := if v_t_pasts = 6 then ((f_X9_ends_L11 fuel 0 v_t_past).bind (fun q3 => f_X9_ends_J50 fuel (v_t_pasts - 1) v_t_aside q3.2 x1)) else (f_X9_ends_J50 fuel v_t_pasts v_t_aside v_t_past x1)
theorem Y_X9_ends : mg_Y yX9_ends cX9_ends 3 (some .int) 1 := ⟨wm_1006, wp_34, wm_11, wm_1007, ⟨by decide +kernel, by decide +kernel, by decide +kernel⟩, by decide⟩
set_option maxRecDepth 100000 in
set_option maxHeartbeats 4000000 in
theorem c_X9_ends (l : Launch) (k : mg_K) (a_t a_t_s a_t_past a_t_aside a_t_text a_t_told a_t_bottoms a_t_planned : Nat) (v_t_pasts : Int32) (v_t_typed : Int32) (v_t_at : Int32) (v_t_kind : Int32) (v_t_from : Int32) (v_t_value : Int32) (v_t_planLength : Int32) (v_t_planAmount : Int32) (v_t_aside : Nat → Int32) (v_t_past : Nat → Int32) (fuel : Nat) (x1 : Int32) (q : Int32 × Int32 × (Nat → Int32)) (hf : f_X9_ends fuel v_t_pasts v_t_aside v_t_past x1 = some q) : mg_M l yX9_ends cX9_ends 3 (some .int) 0 k [.ref a_t, .int x1] (w_X9_ends k a_t a_t_s a_t_past a_t_aside a_t_text a_t_told a_t_bottoms a_t_planned v_t_pasts v_t_typed v_t_at v_t_kind v_t_from v_t_value v_t_planLength v_t_planAmount v_t_aside v_t_past) (w_X9_ends k a_t a_t_s a_t_past a_t_aside a_t_text a_t_told a_t_bottoms a_t_planned q.2.1 v_t_typed v_t_at v_t_kind v_t_from v_t_value v_t_planLength v_t_planAmount v_t_aside q.2.2) (some (.int q.1)) := by
  refine mg_Mi RX9 [(0, .ref a_t), (1, .int x1)] (by decide +kernel) rfl rfl (Nat.le_of_ble_eq_true rfl) ?_
  intro z A Q hl C E
  subst hl
  unfold f_X9_ends at hf
  have L52 : ∀ (x1 : Int32) (v_t_pasts : Int32) (n_ : Nat) (x2 : Int32) (v_t_past : Nat → Int32) (q_ : Int32 × (Nat → Int32)), f_X9_ends_L52 v_t_pasts v_t_aside n_ x2 v_t_past = some q_ → (mg z k A 3 0 0 Q (w_X9_ends k a_t a_t_s a_t_past a_t_aside a_t_text a_t_told a_t_bottoms a_t_planned v_t_pasts v_t_typed v_t_at v_t_kind v_t_from v_t_value v_t_planLength v_t_planAmount v_t_aside q_.2) [(0, .ref a_t), (1, .int x1)] 86 []) → mg z k A 3 0 0 Q (w_X9_ends k a_t a_t_s a_t_past a_t_aside a_t_text a_t_told a_t_bottoms a_t_planned v_t_pasts v_t_typed v_t_at v_t_kind v_t_from v_t_value v_t_planLength v_t_planAmount v_t_aside v_t_past) [(0, .ref a_t), (1, .int x1), (2, .int x2)] 52 [] := by
    intro x1 v_t_pasts n_
    induction n_ with
    | zero => intro x2 v_t_past q_ hf; exact mg_no (show none = some q_ from hf)
    | succ n_ ih =>
      intro x2 v_t_past q_ hf X0
      rw [f_X9_ends_L52] at hf
      refine mg_iload_n (pc := 52) C 2 dX9_ends_52 rfl rfl ?_
      refine mg_sipush (pc := 53) C dX9_ends_53 (v := 227) (by decide) ?_
      refine mg_icmp_ge (pc := 56) (tgt := 86) C dX9_ends_56 (by decide) hf (fun hf => ?_) (fun hf => ?_)
      · obtain rfl := Option.some.inj hf
        refine mg_lv [0, 1] rfl ?_
        exact X0
      · refine mg_aload_n (pc := 59) C 0 dX9_ends_59 rfl rfl ?_
        refine mg_get (pc := 60) C 0 rfl rfl inX9 1 (by decide) wm_875 rfl rfl dX9_ends_60 ?_
        refine mg_sipush (pc := 63) C dX9_ends_63 (v := 227) (by decide) ?_
        refine mg_aload_n (pc := 66) C 0 dX9_ends_66 rfl rfl ?_
        refine mg_get (pc := 67) C 0 rfl rfl inX9 3 (by decide) wm_877 rfl rfl dX9_ends_67 ?_
        refine mg_imul (pc := 70) C dX9_ends_70 ?_
        refine mg_iload_n (pc := 71) C 2 dX9_ends_71 rfl rfl ?_
        refine mg_iadd (pc := 72) C dX9_ends_72 ?_
        refine mg_aload_n (pc := 73) C 0 dX9_ends_73 rfl rfl ?_
        refine mg_get (pc := 74) C 0 rfl rfl inX9 2 (by decide) wm_876 rfl rfl dX9_ends_74 ?_
        refine mg_iload_n (pc := 77) C 2 dX9_ends_77 rfl rfl ?_
        refine mg_iald (pc := 78) C 1 rfl dX9_ends_78 hf (fun hf => ?_)
        refine mg_iast (pc := 79) C (w2 := w_X9_ends k a_t a_t_s a_t_past a_t_aside a_t_text a_t_told a_t_bottoms a_t_planned v_t_pasts v_t_typed v_t_at v_t_kind v_t_from v_t_value v_t_planLength v_t_planAmount v_t_aside (upd v_t_past (Int32.toNatClampNeg ((227 * v_t_pasts) + x2)) (v_t_aside (Int32.toNatClampNeg x2)))) 2 rfl dX9_ends_79 hf rfl (fun hf => ?_)
        refine mg_iinc (pc := 80) C (c := 1) (lv' := [(2, .int (x2 + 1)), (0, .ref a_t), (1, .int x1)]) 2 dX9_ends_80 rfl (by decide) (by decide) rfl ?_
        refine mg_goto (pc := 83) (tgt := 52) C dX9_ends_83 (by decide) ?_
        refine mg_lv [1, 2, 0] rfl ?_
        exact ih (x2 + 1) (upd v_t_past (Int32.toNatClampNeg ((227 * v_t_pasts) + x2)) (v_t_aside (Int32.toNatClampNeg x2))) _ hf X0
  have J50 : ∀ (x1 : Int32) (v_t_pasts : Int32) (v_t_past : Nat → Int32), f_X9_ends_J50 fuel v_t_pasts v_t_aside v_t_past x1 = some q → mg z k A 3 0 0 Q (w_X9_ends k a_t a_t_s a_t_past a_t_aside a_t_text a_t_told a_t_bottoms a_t_planned v_t_pasts v_t_typed v_t_at v_t_kind v_t_from v_t_value v_t_planLength v_t_planAmount v_t_aside v_t_past) [(0, .ref a_t), (1, .int x1)] 50 [] := by
    intro x1 v_t_pasts v_t_past hf
    unfold f_X9_ends_J50 at hf
    refine mg_iconst (pc := 50) C dX9_ends_50 (v := 0) (by decide) ?_
    refine mg_istore_n (pc := 51) C (lv' := [(2, .int 0), (0, .ref a_t), (1, .int x1)]) dX9_ends_51 rfl (by decide) rfl ?_
    obtain ⟨q1, h2, hf⟩ := mg_b hf
    refine mg_lv [1, 2, 0] rfl ?_
    refine L52 x1 v_t_pasts fuel 0 v_t_past q1 h2 ?_
    refine mg_aload_n (pc := 86) C 0 dX9_ends_86 rfl rfl ?_
    refine mg_dup (pc := 87) C dX9_ends_87 rfl ?_
    refine mg_get (pc := 88) C 0 rfl rfl inX9 3 (by decide) wm_877 rfl rfl dX9_ends_88 ?_
    refine mg_iconst (pc := 91) C dX9_ends_91 (v := 1) (by decide) ?_
    refine mg_iadd (pc := 92) C dX9_ends_92 ?_
    refine mg_puti (pc := 93) C (w2 := w_X9_ends k a_t a_t_s a_t_past a_t_aside a_t_text a_t_told a_t_bottoms a_t_planned (v_t_pasts + 1) v_t_typed v_t_at v_t_kind v_t_from v_t_value v_t_planLength v_t_planAmount v_t_aside q1.2) 0 rfl rfl inX9 3 (by decide) wm_877 rfl tyX9 tyX9_ok nmX9 rfl (by decide +kernel) (Nat.le_of_ble_eq_true rfl) rfl dX9_ends_93 ?_
    refine mg_iload_n (pc := 96) C 1 dX9_ends_96 rfl rfl ?_
    obtain rfl := Option.some.inj hf
    exact E _ _ dX9_ends_97
  have L11 : ∀ (x1 : Int32) (v_t_pasts : Int32) (n_ : Nat) (x2 : Int32) (v_t_past : Nat → Int32) (q_ : Int32 × (Nat → Int32)), f_X9_ends_L11 n_ x2 v_t_past = some q_ → (mg z k A 3 0 0 Q (w_X9_ends k a_t a_t_s a_t_past a_t_aside a_t_text a_t_told a_t_bottoms a_t_planned v_t_pasts v_t_typed v_t_at v_t_kind v_t_from v_t_value v_t_planLength v_t_planAmount v_t_aside q_.2) [(0, .ref a_t), (1, .int x1)] 40 []) → mg z k A 3 0 0 Q (w_X9_ends k a_t a_t_s a_t_past a_t_aside a_t_text a_t_told a_t_bottoms a_t_planned v_t_pasts v_t_typed v_t_at v_t_kind v_t_from v_t_value v_t_planLength v_t_planAmount v_t_aside v_t_past) [(0, .ref a_t), (1, .int x1), (2, .int x2)] 11 [] := by
    intro x1 v_t_pasts n_
    induction n_ with
    | zero => intro x2 v_t_past q_ hf; exact mg_no (show none = some q_ from hf)
    | succ n_ ih =>
      intro x2 v_t_past q_ hf X0
      rw [f_X9_ends_L11] at hf
      refine mg_iload_n (pc := 11) C 2 dX9_ends_11 rfl rfl ?_
      refine mg_sipush (pc := 12) C dX9_ends_12 (v := 1135) (by decide) ?_
      refine mg_icmp_ge (pc := 15) (tgt := 40) C dX9_ends_15 (by decide) hf (fun hf => ?_) (fun hf => ?_)
      · obtain rfl := Option.some.inj hf
        refine mg_lv [0, 1] rfl ?_
        exact X0
      · refine mg_aload_n (pc := 18) C 0 dX9_ends_18 rfl rfl ?_
        refine mg_get (pc := 19) C 0 rfl rfl inX9 1 (by decide) wm_875 rfl rfl dX9_ends_19 ?_
        refine mg_iload_n (pc := 22) C 2 dX9_ends_22 rfl rfl ?_
        refine mg_aload_n (pc := 23) C 0 dX9_ends_23 rfl rfl ?_
        refine mg_get (pc := 24) C 0 rfl rfl inX9 1 (by decide) wm_875 rfl rfl dX9_ends_24 ?_
        refine mg_iload_n (pc := 27) C 2 dX9_ends_27 rfl rfl ?_
        refine mg_sipush (pc := 28) C dX9_ends_28 (v := 227) (by decide) ?_
        refine mg_iadd (pc := 31) C dX9_ends_31 ?_
        refine mg_iald (pc := 32) C 2 rfl dX9_ends_32 hf (fun hf => ?_)
        refine mg_iast (pc := 33) C (w2 := w_X9_ends k a_t a_t_s a_t_past a_t_aside a_t_text a_t_told a_t_bottoms a_t_planned v_t_pasts v_t_typed v_t_at v_t_kind v_t_from v_t_value v_t_planLength v_t_planAmount v_t_aside (upd v_t_past (Int32.toNatClampNeg x2) (v_t_past (Int32.toNatClampNeg (x2 + 227))))) 2 rfl dX9_ends_33 hf rfl (fun hf => ?_)
        refine mg_iinc (pc := 34) C (c := 1) (lv' := [(2, .int (x2 + 1)), (0, .ref a_t), (1, .int x1)]) 2 dX9_ends_34 rfl (by decide) (by decide) rfl ?_
        refine mg_goto (pc := 37) (tgt := 11) C dX9_ends_37 (by decide) ?_
        refine mg_lv [1, 2, 0] rfl ?_
        exact ih (x2 + 1) (upd v_t_past (Int32.toNatClampNeg x2) (v_t_past (Int32.toNatClampNeg (x2 + 227)))) _ hf X0
  refine mg_aload_n (pc := 0) C 0 dX9_ends_0 rfl rfl ?_
  refine mg_get (pc := 1) C 0 rfl rfl inX9 3 (by decide) wm_877 rfl rfl dX9_ends_1 ?_
  refine mg_bipush (pc := 4) C dX9_ends_4 (v := 6) (by decide) ?_
  refine mg_icmp_ne (pc := 6) (tgt := 50) C dX9_ends_6 (by decide) hf (fun hf => ?_) (fun hf => ?_)
  · exact J50 x1 v_t_pasts v_t_past hf
  · refine mg_iconst (pc := 9) C dX9_ends_9 (v := 0) (by decide) ?_
    refine mg_istore_n (pc := 10) C (lv' := [(2, .int 0), (0, .ref a_t), (1, .int x1)]) dX9_ends_10 rfl (by decide) rfl ?_
    obtain ⟨q3, h4, hf⟩ := mg_b hf
    refine mg_lv [1, 2, 0] rfl ?_
    refine L11 x1 v_t_pasts fuel 0 v_t_past q3 h4 ?_
    refine mg_aload_n (pc := 40) C 0 dX9_ends_40 rfl rfl ?_
    refine mg_dup (pc := 41) C dX9_ends_41 rfl ?_
    refine mg_get (pc := 42) C 0 rfl rfl inX9 3 (by decide) wm_877 rfl rfl dX9_ends_42 ?_
    refine mg_iconst (pc := 45) C dX9_ends_45 (v := 1) (by decide) ?_
    refine mg_isub (pc := 46) C dX9_ends_46 ?_
    refine mg_puti (pc := 47) C (w2 := w_X9_ends k a_t a_t_s a_t_past a_t_aside a_t_text a_t_told a_t_bottoms a_t_planned (v_t_pasts - 1) v_t_typed v_t_at v_t_kind v_t_from v_t_value v_t_planLength v_t_planAmount v_t_aside q3.2) 0 rfl rfl inX9 3 (by decide) wm_877 rfl tyX9 tyX9_ok nmX9 rfl (by decide +kernel) (Nat.le_of_ble_eq_true rfl) rfl dX9_ends_47 ?_
    exact J50 x1 (v_t_pasts - 1) q3.2 hf
abbrev w_X9_records (k : mg_K) (a_t a_t_s a_t_past a_t_aside a_t_text a_t_told a_t_bottoms a_t_planned : Nat) (v_t_pasts : Int32) (v_t_typed : Int32) (v_t_at : Int32) (v_t_kind : Int32) (v_t_from : Int32) (v_t_value : Int32) (v_t_planLength : Int32) (v_t_planAmount : Int32) (v_t_s : Nat → Int32) : va_W := [(a_t, .inr (9, [.ref a_t_s, .ref a_t_past, .ref a_t_aside, .int v_t_pasts, .ref a_t_text, .int v_t_typed, .int v_t_at, .int v_t_kind, .int v_t_from, .int v_t_value, .ref a_t_told, .ref a_t_bottoms, .ref a_t_planned, .int v_t_planLength, .int v_t_planAmount])), (a_t_s, .inl (k.2.1, 227, .inl v_t_s))]
def f_X9_records_J56 (v_t_s : Nat → Int32) (x1 : Int32) (x2 : Int32) : Option ((Nat → Int32)) := if mg_ix (167 + (3 * (v_t_s 166))) 227 = true then (if mg_ix ((167 + (3 * (v_t_s 166))) + 1) 227 = true then (if mg_ix ((167 + (3 * (v_t_s 166))) + 2) 227 = true then (some (upd (upd (upd (upd v_t_s (Int32.toNatClampNeg (167 + (3 * (v_t_s 166)))) x1) (Int32.toNatClampNeg ((167 + (3 * (v_t_s 166))) + 1)) x2) (Int32.toNatClampNeg ((167 + (3 * (v_t_s 166))) + 2)) ((upd (upd v_t_s (Int32.toNatClampNeg (167 + (3 * (v_t_s 166)))) x1) (Int32.toNatClampNeg ((167 + (3 * (v_t_s 166))) + 1)) x2) 2)) 166 (((upd (upd (upd v_t_s (Int32.toNatClampNeg (167 + (3 * (v_t_s 166)))) x1) (Int32.toNatClampNeg ((167 + (3 * (v_t_s 166))) + 1)) x2) (Int32.toNatClampNeg ((167 + (3 * (v_t_s 166))) + 2)) ((upd (upd v_t_s (Int32.toNatClampNeg (167 + (3 * (v_t_s 166)))) x1) (Int32.toNatClampNeg ((167 + (3 * (v_t_s 166))) + 1)) x2) 2)) 166) + 1))) else none) else none) else none
def f_X9_records_L17 : Nat → Int32 → (Nat → Int32) → Option (Int32 × (Nat → Int32))
  | 0, _, _ => none
  | n_ + 1, x3, v_t_s => if 224 ≤ x3 then (some ((x3, v_t_s))) else (if mg_ix (x3 + 3) 227 = true then (if mg_ix x3 227 = true then (f_X9_records_L17 n_ (x3 + 1) (upd v_t_s (Int32.toNatClampNeg x3) (v_t_s (Int32.toNatClampNeg (x3 + 3))))) else none) else none)
def f_X9_records (fuel : Nat) (v_t_s : Nat → Int32) (x1 : Int32) (x2 : Int32) : Option ((Nat → Int32)) := if (v_t_s 166) = 20 then ((f_X9_records_L17 fuel 167 v_t_s).bind (fun q1 => f_X9_records_J56 (upd q1.2 166 ((q1.2 166) - 1)) x1 x2)) else (f_X9_records_J56 v_t_s x1 x2)
theorem Y_X9_records : mg_Y yX9_records cX9_records 4 none 2 := ⟨wm_1181, wp_59, wm_11, wm_1182, ⟨by decide +kernel, by decide +kernel, by decide +kernel⟩, by decide⟩
set_option maxRecDepth 100000 in
set_option maxHeartbeats 4000000 in
theorem c_X9_records (l : Launch) (k : mg_K) (a_t a_t_s a_t_past a_t_aside a_t_text a_t_told a_t_bottoms a_t_planned : Nat) (v_t_pasts : Int32) (v_t_typed : Int32) (v_t_at : Int32) (v_t_kind : Int32) (v_t_from : Int32) (v_t_value : Int32) (v_t_planLength : Int32) (v_t_planAmount : Int32) (v_t_s : Nat → Int32) (fuel : Nat) (x1 : Int32) (x2 : Int32) (q : (Nat → Int32)) (hf : f_X9_records fuel v_t_s x1 x2 = some q) : mg_M l yX9_records cX9_records 4 none 0 k [.ref a_t, .int x1, .int x2] (w_X9_records k a_t a_t_s a_t_past a_t_aside a_t_text a_t_told a_t_bottoms a_t_planned v_t_pasts v_t_typed v_t_at v_t_kind v_t_from v_t_value v_t_planLength v_t_planAmount v_t_s) (w_X9_records k a_t a_t_s a_t_past a_t_aside a_t_text a_t_told a_t_bottoms a_t_planned v_t_pasts v_t_typed v_t_at v_t_kind v_t_from v_t_value v_t_planLength v_t_planAmount q) none := by
  refine mg_Mv RX9 [(0, .ref a_t), (1, .int x1), (2, .int x2)] (by decide +kernel) rfl rfl (Nat.le_of_ble_eq_true rfl) ?_
  intro z A Q hl C E
  subst hl
  unfold f_X9_records at hf
  have J56 : ∀ (x1 : Int32) (x2 : Int32) (v_t_s : Nat → Int32), f_X9_records_J56 v_t_s x1 x2 = some q → mg z k A 4 0 0 Q (w_X9_records k a_t a_t_s a_t_past a_t_aside a_t_text a_t_told a_t_bottoms a_t_planned v_t_pasts v_t_typed v_t_at v_t_kind v_t_from v_t_value v_t_planLength v_t_planAmount v_t_s) [(0, .ref a_t), (1, .int x1), (2, .int x2)] 56 [] := by
    intro x1 x2 v_t_s hf
    unfold f_X9_records_J56 at hf
    refine mg_sipush (pc := 56) C dX9_records_56 (v := 167) (by decide) ?_
    refine mg_iconst (pc := 59) C dX9_records_59 (v := 3) (by decide) ?_
    refine mg_aload_n (pc := 60) C 0 dX9_records_60 rfl rfl ?_
    refine mg_get (pc := 61) C 0 rfl rfl inX9 0 (by decide) wm_874 rfl rfl dX9_records_61 ?_
    refine mg_sipush (pc := 64) C dX9_records_64 (v := 166) (by decide) ?_
    refine mg_ialdK (pc := 67) C 1 166 rfl dX9_records_67 (by decide) (by decide) ?_
    refine mg_imul (pc := 68) C dX9_records_68 ?_
    refine mg_iadd (pc := 69) C dX9_records_69 ?_
    refine mg_istore_n (pc := 70) C (lv' := [(3, .int (167 + (3 * (v_t_s 166)))), (0, .ref a_t), (1, .int x1), (2, .int x2)]) dX9_records_70 rfl (by decide) rfl ?_
    refine mg_aload_n (pc := 71) C 1 dX9_records_71 rfl rfl ?_
    refine mg_get (pc := 72) C 0 rfl rfl inX9 0 (by decide) wm_874 rfl rfl dX9_records_72 ?_
    refine mg_iload_n (pc := 75) C 0 dX9_records_75 rfl rfl ?_
    refine mg_iload_n (pc := 76) C 2 dX9_records_76 rfl rfl ?_
    refine mg_iast (pc := 77) C (w2 := w_X9_records k a_t a_t_s a_t_past a_t_aside a_t_text a_t_told a_t_bottoms a_t_planned v_t_pasts v_t_typed v_t_at v_t_kind v_t_from v_t_value v_t_planLength v_t_planAmount (upd v_t_s (Int32.toNatClampNeg (167 + (3 * (v_t_s 166)))) x1)) 1 rfl dX9_records_77 hf rfl (fun hf => ?_)
    refine mg_aload_n (pc := 78) C 1 dX9_records_78 rfl rfl ?_
    refine mg_get (pc := 79) C 0 rfl rfl inX9 0 (by decide) wm_874 rfl rfl dX9_records_79 ?_
    refine mg_iload_n (pc := 82) C 0 dX9_records_82 rfl rfl ?_
    refine mg_iconst (pc := 83) C dX9_records_83 (v := 1) (by decide) ?_
    refine mg_iadd (pc := 84) C dX9_records_84 ?_
    refine mg_iload_n (pc := 85) C 3 dX9_records_85 rfl rfl ?_
    refine mg_iast (pc := 86) C (w2 := w_X9_records k a_t a_t_s a_t_past a_t_aside a_t_text a_t_told a_t_bottoms a_t_planned v_t_pasts v_t_typed v_t_at v_t_kind v_t_from v_t_value v_t_planLength v_t_planAmount (upd (upd v_t_s (Int32.toNatClampNeg (167 + (3 * (v_t_s 166)))) x1) (Int32.toNatClampNeg ((167 + (3 * (v_t_s 166))) + 1)) x2)) 1 rfl dX9_records_86 hf rfl (fun hf => ?_)
    refine mg_aload_n (pc := 87) C 1 dX9_records_87 rfl rfl ?_
    refine mg_get (pc := 88) C 0 rfl rfl inX9 0 (by decide) wm_874 rfl rfl dX9_records_88 ?_
    refine mg_iload_n (pc := 91) C 0 dX9_records_91 rfl rfl ?_
    refine mg_iconst (pc := 92) C dX9_records_92 (v := 2) (by decide) ?_
    refine mg_iadd (pc := 93) C dX9_records_93 ?_
    refine mg_aload_n (pc := 94) C 1 dX9_records_94 rfl rfl ?_
    refine mg_get (pc := 95) C 0 rfl rfl inX9 0 (by decide) wm_874 rfl rfl dX9_records_95 ?_
    refine mg_iconst (pc := 98) C dX9_records_98 (v := 2) (by decide) ?_
    refine mg_ialdK (pc := 99) C 1 2 rfl dX9_records_99 (by decide) (by decide) ?_
    refine mg_iast (pc := 100) C (w2 := w_X9_records k a_t a_t_s a_t_past a_t_aside a_t_text a_t_told a_t_bottoms a_t_planned v_t_pasts v_t_typed v_t_at v_t_kind v_t_from v_t_value v_t_planLength v_t_planAmount (upd (upd (upd v_t_s (Int32.toNatClampNeg (167 + (3 * (v_t_s 166)))) x1) (Int32.toNatClampNeg ((167 + (3 * (v_t_s 166))) + 1)) x2) (Int32.toNatClampNeg ((167 + (3 * (v_t_s 166))) + 2)) ((upd (upd v_t_s (Int32.toNatClampNeg (167 + (3 * (v_t_s 166)))) x1) (Int32.toNatClampNeg ((167 + (3 * (v_t_s 166))) + 1)) x2) 2))) 1 rfl dX9_records_100 hf rfl (fun hf => ?_)
    refine mg_aload_n (pc := 101) C 1 dX9_records_101 rfl rfl ?_
    refine mg_get (pc := 102) C 0 rfl rfl inX9 0 (by decide) wm_874 rfl rfl dX9_records_102 ?_
    refine mg_sipush (pc := 105) C dX9_records_105 (v := 166) (by decide) ?_
    refine mg_dup2 (pc := 108) C dX9_records_108 rfl rfl ?_
    refine mg_ialdK (pc := 109) C 1 166 rfl dX9_records_109 (by decide) (by decide) ?_
    refine mg_iconst (pc := 110) C dX9_records_110 (v := 1) (by decide) ?_
    refine mg_iadd (pc := 111) C dX9_records_111 ?_
    refine mg_iastK (pc := 112) C (w2 := w_X9_records k a_t a_t_s a_t_past a_t_aside a_t_text a_t_told a_t_bottoms a_t_planned v_t_pasts v_t_typed v_t_at v_t_kind v_t_from v_t_value v_t_planLength v_t_planAmount (upd (upd (upd (upd v_t_s (Int32.toNatClampNeg (167 + (3 * (v_t_s 166)))) x1) (Int32.toNatClampNeg ((167 + (3 * (v_t_s 166))) + 1)) x2) (Int32.toNatClampNeg ((167 + (3 * (v_t_s 166))) + 2)) ((upd (upd v_t_s (Int32.toNatClampNeg (167 + (3 * (v_t_s 166)))) x1) (Int32.toNatClampNeg ((167 + (3 * (v_t_s 166))) + 1)) x2) 2)) 166 (((upd (upd (upd v_t_s (Int32.toNatClampNeg (167 + (3 * (v_t_s 166)))) x1) (Int32.toNatClampNeg ((167 + (3 * (v_t_s 166))) + 1)) x2) (Int32.toNatClampNeg ((167 + (3 * (v_t_s 166))) + 2)) ((upd (upd v_t_s (Int32.toNatClampNeg (167 + (3 * (v_t_s 166)))) x1) (Int32.toNatClampNeg ((167 + (3 * (v_t_s 166))) + 1)) x2) 2)) 166) + 1))) 1 166 rfl dX9_records_112 (by decide) (by decide) rfl ?_
    obtain rfl := Option.some.inj hf
    exact E _ _ dX9_records_113
  have L17 : ∀ (x1 : Int32) (x2 : Int32) (n_ : Nat) (x3 : Int32) (v_t_s : Nat → Int32) (q_ : Int32 × (Nat → Int32)), f_X9_records_L17 n_ x3 v_t_s = some q_ → (mg z k A 4 0 0 Q (w_X9_records k a_t a_t_s a_t_past a_t_aside a_t_text a_t_told a_t_bottoms a_t_planned v_t_pasts v_t_typed v_t_at v_t_kind v_t_from v_t_value v_t_planLength v_t_planAmount q_.2) [(0, .ref a_t), (1, .int x1), (2, .int x2)] 44 []) → mg z k A 4 0 0 Q (w_X9_records k a_t a_t_s a_t_past a_t_aside a_t_text a_t_told a_t_bottoms a_t_planned v_t_pasts v_t_typed v_t_at v_t_kind v_t_from v_t_value v_t_planLength v_t_planAmount v_t_s) [(0, .ref a_t), (1, .int x1), (2, .int x2), (3, .int x3)] 17 [] := by
    intro x1 x2 n_
    induction n_ with
    | zero => intro x3 v_t_s q_ hf; exact mg_no (show none = some q_ from hf)
    | succ n_ ih =>
      intro x3 v_t_s q_ hf X0
      rw [f_X9_records_L17] at hf
      refine mg_iload_n (pc := 17) C 3 dX9_records_17 rfl rfl ?_
      refine mg_sipush (pc := 18) C dX9_records_18 (v := 224) (by decide) ?_
      refine mg_icmp_ge (pc := 21) (tgt := 44) C dX9_records_21 (by decide) hf (fun hf => ?_) (fun hf => ?_)
      · obtain rfl := Option.some.inj hf
        refine mg_lv [0, 1, 2] rfl ?_
        exact X0
      · refine mg_aload_n (pc := 24) C 0 dX9_records_24 rfl rfl ?_
        refine mg_get (pc := 25) C 0 rfl rfl inX9 0 (by decide) wm_874 rfl rfl dX9_records_25 ?_
        refine mg_iload_n (pc := 28) C 3 dX9_records_28 rfl rfl ?_
        refine mg_aload_n (pc := 29) C 0 dX9_records_29 rfl rfl ?_
        refine mg_get (pc := 30) C 0 rfl rfl inX9 0 (by decide) wm_874 rfl rfl dX9_records_30 ?_
        refine mg_iload_n (pc := 33) C 3 dX9_records_33 rfl rfl ?_
        refine mg_iconst (pc := 34) C dX9_records_34 (v := 3) (by decide) ?_
        refine mg_iadd (pc := 35) C dX9_records_35 ?_
        refine mg_iald (pc := 36) C 1 rfl dX9_records_36 hf (fun hf => ?_)
        refine mg_iast (pc := 37) C (w2 := w_X9_records k a_t a_t_s a_t_past a_t_aside a_t_text a_t_told a_t_bottoms a_t_planned v_t_pasts v_t_typed v_t_at v_t_kind v_t_from v_t_value v_t_planLength v_t_planAmount (upd v_t_s (Int32.toNatClampNeg x3) (v_t_s (Int32.toNatClampNeg (x3 + 3))))) 1 rfl dX9_records_37 hf rfl (fun hf => ?_)
        refine mg_iinc (pc := 38) C (c := 1) (lv' := [(3, .int (x3 + 1)), (0, .ref a_t), (1, .int x1), (2, .int x2)]) 3 dX9_records_38 rfl (by decide) (by decide) rfl ?_
        refine mg_goto (pc := 41) (tgt := 17) C dX9_records_41 (by decide) ?_
        refine mg_lv [1, 2, 3, 0] rfl ?_
        exact ih (x3 + 1) (upd v_t_s (Int32.toNatClampNeg x3) (v_t_s (Int32.toNatClampNeg (x3 + 3)))) _ hf X0
  refine mg_aload_n (pc := 0) C 0 dX9_records_0 rfl rfl ?_
  refine mg_get (pc := 1) C 0 rfl rfl inX9 0 (by decide) wm_874 rfl rfl dX9_records_1 ?_
  refine mg_sipush (pc := 4) C dX9_records_4 (v := 166) (by decide) ?_
  refine mg_ialdK (pc := 7) C 1 166 rfl dX9_records_7 (by decide) (by decide) ?_
  refine mg_bipush (pc := 8) C dX9_records_8 (v := 20) (by decide) ?_
  refine mg_icmp_ne (pc := 10) (tgt := 56) C dX9_records_10 (by decide) hf (fun hf => ?_) (fun hf => ?_)
  · exact J56 x1 x2 v_t_s hf
  · refine mg_sipush (pc := 13) C dX9_records_13 (v := 167) (by decide) ?_
    refine mg_istore_n (pc := 16) C (lv' := [(3, .int 167), (0, .ref a_t), (1, .int x1), (2, .int x2)]) dX9_records_16 rfl (by decide) rfl ?_
    obtain ⟨q1, h2, hf⟩ := mg_b hf
    refine mg_lv [1, 2, 3, 0] rfl ?_
    refine L17 x1 x2 fuel 167 v_t_s q1 h2 ?_
    refine mg_aload_n (pc := 44) C 0 dX9_records_44 rfl rfl ?_
    refine mg_get (pc := 45) C 0 rfl rfl inX9 0 (by decide) wm_874 rfl rfl dX9_records_45 ?_
    refine mg_sipush (pc := 48) C dX9_records_48 (v := 166) (by decide) ?_
    refine mg_dup2 (pc := 51) C dX9_records_51 rfl rfl ?_
    refine mg_ialdK (pc := 52) C 1 166 rfl dX9_records_52 (by decide) (by decide) ?_
    refine mg_iconst (pc := 53) C dX9_records_53 (v := 1) (by decide) ?_
    refine mg_isub (pc := 54) C dX9_records_54 ?_
    refine mg_iastK (pc := 55) C (w2 := w_X9_records k a_t a_t_s a_t_past a_t_aside a_t_text a_t_told a_t_bottoms a_t_planned v_t_pasts v_t_typed v_t_at v_t_kind v_t_from v_t_value v_t_planLength v_t_planAmount (upd q1.2 166 ((q1.2 166) - 1))) 1 166 rfl dX9_records_55 (by decide) (by decide) rfl ?_
    exact J56 x1 x2 (upd q1.2 166 ((q1.2 166) - 1)) hf
abbrev w_X9_isCell (k : mg_K) (a_t a_t_s a_t_past a_t_aside a_t_text a_t_told a_t_bottoms a_t_planned : Nat) (v_t_pasts : Int32) (v_t_typed : Int32) (v_t_at : Int32) (v_t_kind : Int32) (v_t_from : Int32) (v_t_value : Int32) (v_t_planLength : Int32) (v_t_planAmount : Int32) (v_t_s : Nat → Int32) : va_W := [(a_t, .inr (9, [.ref a_t_s, .ref a_t_past, .ref a_t_aside, .int v_t_pasts, .ref a_t_text, .int v_t_typed, .int v_t_at, .int v_t_kind, .int v_t_from, .int v_t_value, .ref a_t_told, .ref a_t_bottoms, .ref a_t_planned, .int v_t_planLength, .int v_t_planAmount])), (a_t_s, .inl (k.2.1, 227, .inl v_t_s))]
def f_X9_isCell (v_t_s : Nat → Int32) (x1 : Int32) : Option (Int32) := (f_X9_in x1 0 (((v_t_s 0) * (v_t_s 1)) - 1)).bind (fun q1 => if q1 &&& 1 = q1 then some q1 else none)
theorem Y_X9_isCell : mg_Y yX9_isCell cX9_isCell 2 (some .boolean) 1 := ⟨wm_1034, wp_36, wm_11, wm_1035, ⟨by decide +kernel, by decide +kernel, by decide +kernel⟩, by decide⟩
set_option maxRecDepth 100000 in
set_option maxHeartbeats 4000000 in
theorem c_X9_isCell (l : Launch) (k : mg_K) (a_t a_t_s a_t_past a_t_aside a_t_text a_t_told a_t_bottoms a_t_planned : Nat) (v_t_pasts : Int32) (v_t_typed : Int32) (v_t_at : Int32) (v_t_kind : Int32) (v_t_from : Int32) (v_t_value : Int32) (v_t_planLength : Int32) (v_t_planAmount : Int32) (v_t_s : Nat → Int32) (x1 : Int32) (q : Int32) (hf : f_X9_isCell v_t_s x1 = some q) : mg_M l yX9_isCell cX9_isCell 2 (some .boolean) 1 k [.ref a_t, .int x1] (w_X9_isCell k a_t a_t_s a_t_past a_t_aside a_t_text a_t_told a_t_bottoms a_t_planned v_t_pasts v_t_typed v_t_at v_t_kind v_t_from v_t_value v_t_planLength v_t_planAmount v_t_s) (w_X9_isCell k a_t a_t_s a_t_past a_t_aside a_t_text a_t_told a_t_bottoms a_t_planned v_t_pasts v_t_typed v_t_at v_t_kind v_t_from v_t_value v_t_planLength v_t_planAmount v_t_s) (some (.int q)) := by
  refine mg_Mz RX9 [(0, .ref a_t), (1, .int x1)] (by decide +kernel) rfl rfl (Nat.le_of_ble_eq_true rfl) ?_
  intro z A Q hl C E
  subst hl
  unfold f_X9_isCell at hf
  refine mg_iload_n (pc := 0) C 1 dX9_isCell_0 rfl rfl ?_
  refine mg_iconst (pc := 1) C dX9_isCell_1 (v := 0) (by decide) ?_
  refine mg_aload_n (pc := 2) C 0 dX9_isCell_2 rfl rfl ?_
  refine mg_get (pc := 3) C 0 rfl rfl inX9 0 (by decide) wm_874 rfl rfl dX9_isCell_3 ?_
  refine mg_iconst (pc := 6) C dX9_isCell_6 (v := 0) (by decide) ?_
  refine mg_ialdK (pc := 7) C 1 0 rfl dX9_isCell_7 (by decide) (by decide) ?_
  refine mg_aload_n (pc := 8) C 0 dX9_isCell_8 rfl rfl ?_
  refine mg_get (pc := 9) C 0 rfl rfl inX9 0 (by decide) wm_874 rfl rfl dX9_isCell_9 ?_
  refine mg_iconst (pc := 12) C dX9_isCell_12 (v := 1) (by decide) ?_
  refine mg_ialdK (pc := 13) C 1 1 rfl dX9_isCell_13 (by decide) (by decide) ?_
  refine mg_imul (pc := 14) C dX9_isCell_14 ?_
  refine mg_iconst (pc := 15) C dX9_isCell_15 (v := 1) (by decide) ?_
  refine mg_isub (pc := 16) C dX9_isCell_16 ?_
  obtain ⟨q1, h2, hf⟩ := mg_b hf
  refine mg_callS (pc := 17) C (w2 := w_X9_isCell k a_t a_t_s a_t_past a_t_aside a_t_text a_t_told a_t_bottoms a_t_planned v_t_pasts v_t_typed v_t_at v_t_kind v_t_from v_t_value v_t_planLength v_t_planAmount v_t_s) (c_X9_in z.2.1 k x1 0 (((v_t_s 0) * (v_t_s 1)) - 1) q1 h2) Y_X9_in wm_924 (by decide) rfl [] rfl (by decide) rfl [none, none] (by decide) rfl (Nat.le_of_ble_eq_true rfl) rfl dX9_isCell_17 ?_
  obtain ⟨d3, hf⟩ := mg_ck hf
  obtain rfl := Option.some.inj hf
  exact E (mg_nb d3) _ _ dX9_isCell_20
abbrev w_X9_columnOf (k : mg_K) (a_t a_t_s a_t_past a_t_aside a_t_text a_t_told a_t_bottoms a_t_planned : Nat) (v_t_pasts : Int32) (v_t_typed : Int32) (v_t_at : Int32) (v_t_kind : Int32) (v_t_from : Int32) (v_t_value : Int32) (v_t_planLength : Int32) (v_t_planAmount : Int32) (v_t_s : Nat → Int32) : va_W := [(a_t, .inr (9, [.ref a_t_s, .ref a_t_past, .ref a_t_aside, .int v_t_pasts, .ref a_t_text, .int v_t_typed, .int v_t_at, .int v_t_kind, .int v_t_from, .int v_t_value, .ref a_t_told, .ref a_t_bottoms, .ref a_t_planned, .int v_t_planLength, .int v_t_planAmount])), (a_t_s, .inl (k.2.1, 227, .inl v_t_s))]
def f_X9_columnOf (v_t_s : Nat → Int32) (x1 : Int32) : Option (Int32) := if (v_t_s 0) = 0 then none else (some (x1 - x1 / (v_t_s 0) * (v_t_s 0)))
theorem Y_X9_columnOf : mg_Y yX9_columnOf cX9_columnOf 2 (some .int) 1 := ⟨wm_1079, wp_43, wm_11, wm_1080, ⟨by decide +kernel, by decide +kernel, by decide +kernel⟩, by decide⟩
set_option maxRecDepth 100000 in
set_option maxHeartbeats 4000000 in
theorem c_X9_columnOf (l : Launch) (k : mg_K) (a_t a_t_s a_t_past a_t_aside a_t_text a_t_told a_t_bottoms a_t_planned : Nat) (v_t_pasts : Int32) (v_t_typed : Int32) (v_t_at : Int32) (v_t_kind : Int32) (v_t_from : Int32) (v_t_value : Int32) (v_t_planLength : Int32) (v_t_planAmount : Int32) (v_t_s : Nat → Int32) (x1 : Int32) (q : Int32) (hf : f_X9_columnOf v_t_s x1 = some q) : mg_M l yX9_columnOf cX9_columnOf 2 (some .int) 0 k [.ref a_t, .int x1] (w_X9_columnOf k a_t a_t_s a_t_past a_t_aside a_t_text a_t_told a_t_bottoms a_t_planned v_t_pasts v_t_typed v_t_at v_t_kind v_t_from v_t_value v_t_planLength v_t_planAmount v_t_s) (w_X9_columnOf k a_t a_t_s a_t_past a_t_aside a_t_text a_t_told a_t_bottoms a_t_planned v_t_pasts v_t_typed v_t_at v_t_kind v_t_from v_t_value v_t_planLength v_t_planAmount v_t_s) (some (.int q)) := by
  refine mg_Mi RX9 [(0, .ref a_t), (1, .int x1)] (by decide +kernel) rfl rfl (Nat.le_of_ble_eq_true rfl) ?_
  intro z A Q hl C E
  subst hl
  unfold f_X9_columnOf at hf
  refine mg_iload_n (pc := 0) C 1 dX9_columnOf_0 rfl rfl ?_
  refine mg_aload_n (pc := 1) C 0 dX9_columnOf_1 rfl rfl ?_
  refine mg_get (pc := 2) C 0 rfl rfl inX9 0 (by decide) wm_874 rfl rfl dX9_columnOf_2 ?_
  refine mg_iconst (pc := 5) C dX9_columnOf_5 (v := 0) (by decide) ?_
  refine mg_ialdK (pc := 6) C 1 0 rfl dX9_columnOf_6 (by decide) (by decide) ?_
  obtain ⟨d1, hf⟩ := mg_ck' hf
  refine mg_irem (pc := 7) C dX9_columnOf_7 d1 ?_
  obtain rfl := Option.some.inj hf
  exact E _ _ dX9_columnOf_8
abbrev w_X9_rowOf (k : mg_K) (a_t a_t_s a_t_past a_t_aside a_t_text a_t_told a_t_bottoms a_t_planned : Nat) (v_t_pasts : Int32) (v_t_typed : Int32) (v_t_at : Int32) (v_t_kind : Int32) (v_t_from : Int32) (v_t_value : Int32) (v_t_planLength : Int32) (v_t_planAmount : Int32) (v_t_s : Nat → Int32) : va_W := [(a_t, .inr (9, [.ref a_t_s, .ref a_t_past, .ref a_t_aside, .int v_t_pasts, .ref a_t_text, .int v_t_typed, .int v_t_at, .int v_t_kind, .int v_t_from, .int v_t_value, .ref a_t_told, .ref a_t_bottoms, .ref a_t_planned, .int v_t_planLength, .int v_t_planAmount])), (a_t_s, .inl (k.2.1, 227, .inl v_t_s))]
def f_X9_rowOf (v_t_s : Nat → Int32) (x1 : Int32) : Option (Int32) := if (v_t_s 0) = 0 then none else (some (x1 / (v_t_s 0)))
theorem Y_X9_rowOf : mg_Y yX9_rowOf cX9_rowOf 2 (some .int) 1 := ⟨wm_1083, wp_44, wm_11, wm_1084, ⟨by decide +kernel, by decide +kernel, by decide +kernel⟩, by decide⟩
set_option maxRecDepth 100000 in
set_option maxHeartbeats 4000000 in
theorem c_X9_rowOf (l : Launch) (k : mg_K) (a_t a_t_s a_t_past a_t_aside a_t_text a_t_told a_t_bottoms a_t_planned : Nat) (v_t_pasts : Int32) (v_t_typed : Int32) (v_t_at : Int32) (v_t_kind : Int32) (v_t_from : Int32) (v_t_value : Int32) (v_t_planLength : Int32) (v_t_planAmount : Int32) (v_t_s : Nat → Int32) (x1 : Int32) (q : Int32) (hf : f_X9_rowOf v_t_s x1 = some q) : mg_M l yX9_rowOf cX9_rowOf 2 (some .int) 0 k [.ref a_t, .int x1] (w_X9_rowOf k a_t a_t_s a_t_past a_t_aside a_t_text a_t_told a_t_bottoms a_t_planned v_t_pasts v_t_typed v_t_at v_t_kind v_t_from v_t_value v_t_planLength v_t_planAmount v_t_s) (w_X9_rowOf k a_t a_t_s a_t_past a_t_aside a_t_text a_t_told a_t_bottoms a_t_planned v_t_pasts v_t_typed v_t_at v_t_kind v_t_from v_t_value v_t_planLength v_t_planAmount v_t_s) (some (.int q)) := by
  refine mg_Mi RX9 [(0, .ref a_t), (1, .int x1)] (by decide +kernel) rfl rfl (Nat.le_of_ble_eq_true rfl) ?_
  intro z A Q hl C E
  subst hl
  unfold f_X9_rowOf at hf
  refine mg_iload_n (pc := 0) C 1 dX9_rowOf_0 rfl rfl ?_
  refine mg_aload_n (pc := 1) C 0 dX9_rowOf_1 rfl rfl ?_
  refine mg_get (pc := 2) C 0 rfl rfl inX9 0 (by decide) wm_874 rfl rfl dX9_rowOf_2 ?_
  refine mg_iconst (pc := 5) C dX9_rowOf_5 (v := 0) (by decide) ?_
  refine mg_ialdK (pc := 6) C 1 0 rfl dX9_rowOf_6 (by decide) (by decide) ?_
  obtain ⟨d1, hf⟩ := mg_ck' hf
  refine mg_idiv (pc := 7) C dX9_rowOf_7 d1 ?_
  obtain rfl := Option.some.inj hf
  exact E _ _ dX9_rowOf_8
abbrev w_X9_isOn (k : mg_K) (a_t a_t_s a_t_past a_t_aside a_t_text a_t_told a_t_bottoms a_t_planned : Nat) (v_t_pasts : Int32) (v_t_typed : Int32) (v_t_at : Int32) (v_t_kind : Int32) (v_t_from : Int32) (v_t_value : Int32) (v_t_planLength : Int32) (v_t_planAmount : Int32) (v_t_s : Nat → Int32) : va_W := [(a_t, .inr (9, [.ref a_t_s, .ref a_t_past, .ref a_t_aside, .int v_t_pasts, .ref a_t_text, .int v_t_typed, .int v_t_at, .int v_t_kind, .int v_t_from, .int v_t_value, .ref a_t_told, .ref a_t_bottoms, .ref a_t_planned, .int v_t_planLength, .int v_t_planAmount])), (a_t_s, .inl (k.2.1, 227, .inl v_t_s))]
def f_X9_isOn (v_t_s : Nat → Int32) (x1 : Int32) (x2 : Int32) : Option (Int32) := if x2 = 0 then ((f_X9_columnOf v_t_s x1).bind (fun q2 => if q2 = 0 then (some 1) else (some 0))) else if x2 = 1 then ((f_X9_columnOf v_t_s x1).bind (fun q5 => if q5 = ((v_t_s 0) - 1) then (some 1) else (some 0))) else if x2 = 2 then ((f_X9_rowOf v_t_s x1).bind (fun q8 => if q8 = 0 then (some 1) else (some 0))) else ((f_X9_rowOf v_t_s x1).bind (fun q10 => if q10 = ((v_t_s 1) - 1) then (some 1) else (some 0)))
theorem Y_X9_isOn : mg_Y yX9_isOn cX9_isOn 3 (some .boolean) 2 := ⟨wm_1075, wp_42, wm_11, wm_1076, ⟨by decide +kernel, by decide +kernel, by decide +kernel⟩, by decide⟩
set_option maxRecDepth 100000 in
set_option maxHeartbeats 4000000 in
theorem c_X9_isOn (l : Launch) (k : mg_K) (a_t a_t_s a_t_past a_t_aside a_t_text a_t_told a_t_bottoms a_t_planned : Nat) (v_t_pasts : Int32) (v_t_typed : Int32) (v_t_at : Int32) (v_t_kind : Int32) (v_t_from : Int32) (v_t_value : Int32) (v_t_planLength : Int32) (v_t_planAmount : Int32) (v_t_s : Nat → Int32) (x1 : Int32) (x2 : Int32) (q : Int32) (hf : f_X9_isOn v_t_s x1 x2 = some q) : mg_M l yX9_isOn cX9_isOn 3 (some .boolean) 1 k [.ref a_t, .int x1, .int x2] (w_X9_isOn k a_t a_t_s a_t_past a_t_aside a_t_text a_t_told a_t_bottoms a_t_planned v_t_pasts v_t_typed v_t_at v_t_kind v_t_from v_t_value v_t_planLength v_t_planAmount v_t_s) (w_X9_isOn k a_t a_t_s a_t_past a_t_aside a_t_text a_t_told a_t_bottoms a_t_planned v_t_pasts v_t_typed v_t_at v_t_kind v_t_from v_t_value v_t_planLength v_t_planAmount v_t_s) (some (.int q)) := by
  refine mg_Mz RX9 [(0, .ref a_t), (1, .int x1), (2, .int x2)] (by decide +kernel) rfl rfl (Nat.le_of_ble_eq_true rfl) ?_
  intro z A Q hl C E
  subst hl
  unfold f_X9_isOn at hf
  refine mg_iload_n (pc := 0) C 2 dX9_isOn_0 rfl rfl ?_
  refine mg_cs hf (fun e1 hf => ?_) (fun e1 hf => ?_)
  · refine mg_tableIn (pc := 1) (off := 27) (tgt := 28) C 0 e1 dX9_isOn_1 (by decide) (by decide) (by decide) (by decide) ?_
    refine mg_aload_n (pc := 28) C 0 dX9_isOn_28 rfl rfl ?_
    refine mg_iload_n (pc := 29) C 1 dX9_isOn_29 rfl rfl ?_
    obtain ⟨q2, h3, hf⟩ := mg_b hf
    refine mg_callV (pc := 30) C (w2 := w_X9_isOn k a_t a_t_s a_t_past a_t_aside a_t_text a_t_told a_t_bottoms a_t_planned v_t_pasts v_t_typed v_t_at v_t_kind v_t_from v_t_value v_t_planLength v_t_planAmount v_t_s) (c_X9_columnOf z.2.1 k a_t a_t_s a_t_past a_t_aside a_t_text a_t_told a_t_bottoms a_t_planned v_t_pasts v_t_typed v_t_at v_t_kind v_t_from v_t_value v_t_planLength v_t_planAmount v_t_s x1 q2 h3) Y_X9_columnOf wm_1077 (by decide) rfl 0 rfl rfl rfl [0, 1] rfl (by decide) rfl [some 0, some 1] (by decide) rfl (Nat.le_of_ble_eq_true rfl) rfl dX9_isOn_30 ?_
    refine mg_if_ne (pc := 33) (tgt := 40) C dX9_isOn_33 (by decide) hf (fun hf => ?_) (fun hf => ?_)
    · refine mg_iconst (pc := 40) C dX9_isOn_40 (v := 0) (by decide) ?_
      obtain rfl := Option.some.inj hf
      exact E mg_n0 _ _ dX9_isOn_41
    · refine mg_iconst (pc := 36) C dX9_isOn_36 (v := 1) (by decide) ?_
      refine mg_goto (pc := 37) (tgt := 41) C dX9_isOn_37 (by decide) ?_
      obtain rfl := Option.some.inj hf
      exact E mg_n1 _ _ dX9_isOn_41
  refine mg_cs hf (fun e4 hf => ?_) (fun e4 hf => ?_)
  · refine mg_tableIn (pc := 1) (off := 41) (tgt := 42) C 1 e4 dX9_isOn_1 (by decide) (by decide) (by decide) (by decide) ?_
    refine mg_aload_n (pc := 42) C 0 dX9_isOn_42 rfl rfl ?_
    refine mg_iload_n (pc := 43) C 1 dX9_isOn_43 rfl rfl ?_
    obtain ⟨q5, h6, hf⟩ := mg_b hf
    refine mg_callV (pc := 44) C (w2 := w_X9_isOn k a_t a_t_s a_t_past a_t_aside a_t_text a_t_told a_t_bottoms a_t_planned v_t_pasts v_t_typed v_t_at v_t_kind v_t_from v_t_value v_t_planLength v_t_planAmount v_t_s) (c_X9_columnOf z.2.1 k a_t a_t_s a_t_past a_t_aside a_t_text a_t_told a_t_bottoms a_t_planned v_t_pasts v_t_typed v_t_at v_t_kind v_t_from v_t_value v_t_planLength v_t_planAmount v_t_s x1 q5 h6) Y_X9_columnOf wm_1077 (by decide) rfl 0 rfl rfl rfl [0, 1] rfl (by decide) rfl [some 0, some 1] (by decide) rfl (Nat.le_of_ble_eq_true rfl) rfl dX9_isOn_44 ?_
    refine mg_aload_n (pc := 47) C 0 dX9_isOn_47 rfl rfl ?_
    refine mg_get (pc := 48) C 0 rfl rfl inX9 0 (by decide) wm_874 rfl rfl dX9_isOn_48 ?_
    refine mg_iconst (pc := 51) C dX9_isOn_51 (v := 0) (by decide) ?_
    refine mg_ialdK (pc := 52) C 1 0 rfl dX9_isOn_52 (by decide) (by decide) ?_
    refine mg_iconst (pc := 53) C dX9_isOn_53 (v := 1) (by decide) ?_
    refine mg_isub (pc := 54) C dX9_isOn_54 ?_
    refine mg_icmp_ne (pc := 55) (tgt := 62) C dX9_isOn_55 (by decide) hf (fun hf => ?_) (fun hf => ?_)
    · refine mg_iconst (pc := 62) C dX9_isOn_62 (v := 0) (by decide) ?_
      obtain rfl := Option.some.inj hf
      exact E mg_n0 _ _ dX9_isOn_63
    · refine mg_iconst (pc := 58) C dX9_isOn_58 (v := 1) (by decide) ?_
      refine mg_goto (pc := 59) (tgt := 63) C dX9_isOn_59 (by decide) ?_
      obtain rfl := Option.some.inj hf
      exact E mg_n1 _ _ dX9_isOn_63
  refine mg_cs hf (fun e7 hf => ?_) (fun e7 hf => ?_)
  · refine mg_tableIn (pc := 1) (off := 63) (tgt := 64) C 2 e7 dX9_isOn_1 (by decide) (by decide) (by decide) (by decide) ?_
    refine mg_aload_n (pc := 64) C 0 dX9_isOn_64 rfl rfl ?_
    refine mg_iload_n (pc := 65) C 1 dX9_isOn_65 rfl rfl ?_
    obtain ⟨q8, h9, hf⟩ := mg_b hf
    refine mg_callV (pc := 66) C (w2 := w_X9_isOn k a_t a_t_s a_t_past a_t_aside a_t_text a_t_told a_t_bottoms a_t_planned v_t_pasts v_t_typed v_t_at v_t_kind v_t_from v_t_value v_t_planLength v_t_planAmount v_t_s) (c_X9_rowOf z.2.1 k a_t a_t_s a_t_past a_t_aside a_t_text a_t_told a_t_bottoms a_t_planned v_t_pasts v_t_typed v_t_at v_t_kind v_t_from v_t_value v_t_planLength v_t_planAmount v_t_s x1 q8 h9) Y_X9_rowOf wm_1081 (by decide) rfl 0 rfl rfl rfl [0, 1] rfl (by decide) rfl [some 0, some 1] (by decide) rfl (Nat.le_of_ble_eq_true rfl) rfl dX9_isOn_66 ?_
    refine mg_if_ne (pc := 69) (tgt := 76) C dX9_isOn_69 (by decide) hf (fun hf => ?_) (fun hf => ?_)
    · refine mg_iconst (pc := 76) C dX9_isOn_76 (v := 0) (by decide) ?_
      obtain rfl := Option.some.inj hf
      exact E mg_n0 _ _ dX9_isOn_77
    · refine mg_iconst (pc := 72) C dX9_isOn_72 (v := 1) (by decide) ?_
      refine mg_goto (pc := 73) (tgt := 77) C dX9_isOn_73 (by decide) ?_
      obtain rfl := Option.some.inj hf
      exact E mg_n1 _ _ dX9_isOn_77
  refine mg_tableOut (pc := 1) (tgt := 78) C dX9_isOn_1 (by have e1_ := mg_ne e1 (i := 0) (by decide); have e4_ := mg_ne e4 (i := 1) (by decide); have e7_ := mg_ne e7 (i := 2) (by decide); omega) (by decide) ?_
  refine mg_aload_n (pc := 78) C 0 dX9_isOn_78 rfl rfl ?_
  refine mg_iload_n (pc := 79) C 1 dX9_isOn_79 rfl rfl ?_
  obtain ⟨q10, h11, hf⟩ := mg_b hf
  refine mg_callV (pc := 80) C (w2 := w_X9_isOn k a_t a_t_s a_t_past a_t_aside a_t_text a_t_told a_t_bottoms a_t_planned v_t_pasts v_t_typed v_t_at v_t_kind v_t_from v_t_value v_t_planLength v_t_planAmount v_t_s) (c_X9_rowOf z.2.1 k a_t a_t_s a_t_past a_t_aside a_t_text a_t_told a_t_bottoms a_t_planned v_t_pasts v_t_typed v_t_at v_t_kind v_t_from v_t_value v_t_planLength v_t_planAmount v_t_s x1 q10 h11) Y_X9_rowOf wm_1081 (by decide) rfl 0 rfl rfl rfl [0, 1] rfl (by decide) rfl [some 0, some 1] (by decide) rfl (Nat.le_of_ble_eq_true rfl) rfl dX9_isOn_80 ?_
  refine mg_aload_n (pc := 83) C 0 dX9_isOn_83 rfl rfl ?_
  refine mg_get (pc := 84) C 0 rfl rfl inX9 0 (by decide) wm_874 rfl rfl dX9_isOn_84 ?_
  refine mg_iconst (pc := 87) C dX9_isOn_87 (v := 1) (by decide) ?_
  refine mg_ialdK (pc := 88) C 1 1 rfl dX9_isOn_88 (by decide) (by decide) ?_
  refine mg_iconst (pc := 89) C dX9_isOn_89 (v := 1) (by decide) ?_
  refine mg_isub (pc := 90) C dX9_isOn_90 ?_
  refine mg_icmp_ne (pc := 91) (tgt := 98) C dX9_isOn_91 (by decide) hf (fun hf => ?_) (fun hf => ?_)
  · refine mg_iconst (pc := 98) C dX9_isOn_98 (v := 0) (by decide) ?_
    obtain rfl := Option.some.inj hf
    exact E mg_n0 _ _ dX9_isOn_99
  · refine mg_iconst (pc := 94) C dX9_isOn_94 (v := 1) (by decide) ?_
    refine mg_goto (pc := 95) (tgt := 99) C dX9_isOn_95 (by decide) ?_
    obtain rfl := Option.some.inj hf
    exact E mg_n1 _ _ dX9_isOn_99
abbrev w_X9_isEdge (k : mg_K) (a_t a_t_s a_t_past a_t_aside a_t_text a_t_told a_t_bottoms a_t_planned : Nat) (v_t_pasts : Int32) (v_t_typed : Int32) (v_t_at : Int32) (v_t_kind : Int32) (v_t_from : Int32) (v_t_value : Int32) (v_t_planLength : Int32) (v_t_planAmount : Int32) (v_t_s : Nat → Int32) : va_W := [(a_t, .inr (9, [.ref a_t_s, .ref a_t_past, .ref a_t_aside, .int v_t_pasts, .ref a_t_text, .int v_t_typed, .int v_t_at, .int v_t_kind, .int v_t_from, .int v_t_value, .ref a_t_told, .ref a_t_bottoms, .ref a_t_planned, .int v_t_planLength, .int v_t_planAmount])), (a_t_s, .inl (k.2.1, 227, .inl v_t_s))]
def f_X9_isEdge (v_t_s : Nat → Int32) (x1 : Int32) : Option (Int32) := (f_X9_isCell v_t_s x1).bind (fun q1 => if q1 = 0 then (some 0) else ((f_X9_isOn v_t_s x1 0).bind (fun q3 => if q3 = 0 then ((f_X9_isOn v_t_s x1 1).bind (fun q5 => if q5 = 0 then ((f_X9_isOn v_t_s x1 2).bind (fun q7 => if q7 = 0 then ((f_X9_isOn v_t_s x1 3).bind (fun q9 => if q9 = 0 then (some 0) else (some 1))) else (some 1))) else (some 1))) else (some 1))))
theorem Y_X9_isEdge : mg_Y yX9_isEdge cX9_isEdge 2 (some .boolean) 1 := ⟨wm_1071, wp_41, wm_11, wm_1072, ⟨by decide +kernel, by decide +kernel, by decide +kernel⟩, by decide⟩
set_option maxRecDepth 100000 in
set_option maxHeartbeats 4000000 in
theorem c_X9_isEdge (l : Launch) (k : mg_K) (a_t a_t_s a_t_past a_t_aside a_t_text a_t_told a_t_bottoms a_t_planned : Nat) (v_t_pasts : Int32) (v_t_typed : Int32) (v_t_at : Int32) (v_t_kind : Int32) (v_t_from : Int32) (v_t_value : Int32) (v_t_planLength : Int32) (v_t_planAmount : Int32) (v_t_s : Nat → Int32) (x1 : Int32) (q : Int32) (hf : f_X9_isEdge v_t_s x1 = some q) : mg_M l yX9_isEdge cX9_isEdge 2 (some .boolean) 2 k [.ref a_t, .int x1] (w_X9_isEdge k a_t a_t_s a_t_past a_t_aside a_t_text a_t_told a_t_bottoms a_t_planned v_t_pasts v_t_typed v_t_at v_t_kind v_t_from v_t_value v_t_planLength v_t_planAmount v_t_s) (w_X9_isEdge k a_t a_t_s a_t_past a_t_aside a_t_text a_t_told a_t_bottoms a_t_planned v_t_pasts v_t_typed v_t_at v_t_kind v_t_from v_t_value v_t_planLength v_t_planAmount v_t_s) (some (.int q)) := by
  refine mg_Mz RX9 [(0, .ref a_t), (1, .int x1)] (by decide +kernel) rfl rfl (Nat.le_of_ble_eq_true rfl) ?_
  intro z A Q hl C E
  subst hl
  unfold f_X9_isEdge at hf
  refine mg_aload_n (pc := 0) C 0 dX9_isEdge_0 rfl rfl ?_
  refine mg_iload_n (pc := 1) C 1 dX9_isEdge_1 rfl rfl ?_
  obtain ⟨q1, h2, hf⟩ := mg_b hf
  refine mg_callV (pc := 2) C (w2 := w_X9_isEdge k a_t a_t_s a_t_past a_t_aside a_t_text a_t_told a_t_bottoms a_t_planned v_t_pasts v_t_typed v_t_at v_t_kind v_t_from v_t_value v_t_planLength v_t_planAmount v_t_s) (c_X9_isCell z.2.1 k a_t a_t_s a_t_past a_t_aside a_t_text a_t_told a_t_bottoms a_t_planned v_t_pasts v_t_typed v_t_at v_t_kind v_t_from v_t_value v_t_planLength v_t_planAmount v_t_s x1 q1 h2) Y_X9_isCell wm_1032 (by decide) rfl 0 rfl rfl rfl [0, 1] rfl (by decide) rfl [some 0, some 1] (by decide) rfl (Nat.le_of_ble_eq_true rfl) rfl dX9_isEdge_2 ?_
  refine mg_if_eq (pc := 5) (tgt := 48) C dX9_isEdge_5 (by decide) hf (fun hf => ?_) (fun hf => ?_)
  · refine mg_iconst (pc := 48) C dX9_isEdge_48 (v := 0) (by decide) ?_
    obtain rfl := Option.some.inj hf
    exact E mg_n0 _ _ dX9_isEdge_49
  · refine mg_aload_n (pc := 8) C 0 dX9_isEdge_8 rfl rfl ?_
    refine mg_iload_n (pc := 9) C 1 dX9_isEdge_9 rfl rfl ?_
    refine mg_iconst (pc := 10) C dX9_isEdge_10 (v := 0) (by decide) ?_
    obtain ⟨q3, h4, hf⟩ := mg_b hf
    refine mg_callV (pc := 11) C (w2 := w_X9_isEdge k a_t a_t_s a_t_past a_t_aside a_t_text a_t_told a_t_bottoms a_t_planned v_t_pasts v_t_typed v_t_at v_t_kind v_t_from v_t_value v_t_planLength v_t_planAmount v_t_s) (c_X9_isOn z.2.1 k a_t a_t_s a_t_past a_t_aside a_t_text a_t_told a_t_bottoms a_t_planned v_t_pasts v_t_typed v_t_at v_t_kind v_t_from v_t_value v_t_planLength v_t_planAmount v_t_s x1 0 q3 h4) Y_X9_isOn wm_1073 (by decide) rfl 0 rfl rfl rfl [0, 1] rfl (by decide) rfl [some 0, some 1] (by decide) rfl (Nat.le_of_ble_eq_true rfl) rfl dX9_isEdge_11 ?_
    refine mg_if_ne (pc := 14) (tgt := 44) C dX9_isEdge_14 (by decide) hf (fun hf => ?_) (fun hf => ?_)
    · refine mg_iconst (pc := 44) C dX9_isEdge_44 (v := 1) (by decide) ?_
      refine mg_goto (pc := 45) (tgt := 49) C dX9_isEdge_45 (by decide) ?_
      obtain rfl := Option.some.inj hf
      exact E mg_n1 _ _ dX9_isEdge_49
    · refine mg_aload_n (pc := 17) C 0 dX9_isEdge_17 rfl rfl ?_
      refine mg_iload_n (pc := 18) C 1 dX9_isEdge_18 rfl rfl ?_
      refine mg_iconst (pc := 19) C dX9_isEdge_19 (v := 1) (by decide) ?_
      obtain ⟨q5, h6, hf⟩ := mg_b hf
      refine mg_callV (pc := 20) C (w2 := w_X9_isEdge k a_t a_t_s a_t_past a_t_aside a_t_text a_t_told a_t_bottoms a_t_planned v_t_pasts v_t_typed v_t_at v_t_kind v_t_from v_t_value v_t_planLength v_t_planAmount v_t_s) (c_X9_isOn z.2.1 k a_t a_t_s a_t_past a_t_aside a_t_text a_t_told a_t_bottoms a_t_planned v_t_pasts v_t_typed v_t_at v_t_kind v_t_from v_t_value v_t_planLength v_t_planAmount v_t_s x1 1 q5 h6) Y_X9_isOn wm_1073 (by decide) rfl 0 rfl rfl rfl [0, 1] rfl (by decide) rfl [some 0, some 1] (by decide) rfl (Nat.le_of_ble_eq_true rfl) rfl dX9_isEdge_20 ?_
      refine mg_if_ne (pc := 23) (tgt := 44) C dX9_isEdge_23 (by decide) hf (fun hf => ?_) (fun hf => ?_)
      · refine mg_iconst (pc := 44) C dX9_isEdge_44 (v := 1) (by decide) ?_
        refine mg_goto (pc := 45) (tgt := 49) C dX9_isEdge_45 (by decide) ?_
        obtain rfl := Option.some.inj hf
        exact E mg_n1 _ _ dX9_isEdge_49
      · refine mg_aload_n (pc := 26) C 0 dX9_isEdge_26 rfl rfl ?_
        refine mg_iload_n (pc := 27) C 1 dX9_isEdge_27 rfl rfl ?_
        refine mg_iconst (pc := 28) C dX9_isEdge_28 (v := 2) (by decide) ?_
        obtain ⟨q7, h8, hf⟩ := mg_b hf
        refine mg_callV (pc := 29) C (w2 := w_X9_isEdge k a_t a_t_s a_t_past a_t_aside a_t_text a_t_told a_t_bottoms a_t_planned v_t_pasts v_t_typed v_t_at v_t_kind v_t_from v_t_value v_t_planLength v_t_planAmount v_t_s) (c_X9_isOn z.2.1 k a_t a_t_s a_t_past a_t_aside a_t_text a_t_told a_t_bottoms a_t_planned v_t_pasts v_t_typed v_t_at v_t_kind v_t_from v_t_value v_t_planLength v_t_planAmount v_t_s x1 2 q7 h8) Y_X9_isOn wm_1073 (by decide) rfl 0 rfl rfl rfl [0, 1] rfl (by decide) rfl [some 0, some 1] (by decide) rfl (Nat.le_of_ble_eq_true rfl) rfl dX9_isEdge_29 ?_
        refine mg_if_ne (pc := 32) (tgt := 44) C dX9_isEdge_32 (by decide) hf (fun hf => ?_) (fun hf => ?_)
        · refine mg_iconst (pc := 44) C dX9_isEdge_44 (v := 1) (by decide) ?_
          refine mg_goto (pc := 45) (tgt := 49) C dX9_isEdge_45 (by decide) ?_
          obtain rfl := Option.some.inj hf
          exact E mg_n1 _ _ dX9_isEdge_49
        · refine mg_aload_n (pc := 35) C 0 dX9_isEdge_35 rfl rfl ?_
          refine mg_iload_n (pc := 36) C 1 dX9_isEdge_36 rfl rfl ?_
          refine mg_iconst (pc := 37) C dX9_isEdge_37 (v := 3) (by decide) ?_
          obtain ⟨q9, h10, hf⟩ := mg_b hf
          refine mg_callV (pc := 38) C (w2 := w_X9_isEdge k a_t a_t_s a_t_past a_t_aside a_t_text a_t_told a_t_bottoms a_t_planned v_t_pasts v_t_typed v_t_at v_t_kind v_t_from v_t_value v_t_planLength v_t_planAmount v_t_s) (c_X9_isOn z.2.1 k a_t a_t_s a_t_past a_t_aside a_t_text a_t_told a_t_bottoms a_t_planned v_t_pasts v_t_typed v_t_at v_t_kind v_t_from v_t_value v_t_planLength v_t_planAmount v_t_s x1 3 q9 h10) Y_X9_isOn wm_1073 (by decide) rfl 0 rfl rfl rfl [0, 1] rfl (by decide) rfl [some 0, some 1] (by decide) rfl (Nat.le_of_ble_eq_true rfl) rfl dX9_isEdge_38 ?_
          refine mg_if_eq (pc := 41) (tgt := 48) C dX9_isEdge_41 (by decide) hf (fun hf => ?_) (fun hf => ?_)
          · refine mg_iconst (pc := 48) C dX9_isEdge_48 (v := 0) (by decide) ?_
            obtain rfl := Option.some.inj hf
            exact E mg_n0 _ _ dX9_isEdge_49
          · refine mg_iconst (pc := 44) C dX9_isEdge_44 (v := 1) (by decide) ?_
            refine mg_goto (pc := 45) (tgt := 49) C dX9_isEdge_45 (by decide) ?_
            obtain rfl := Option.some.inj hf
            exact E mg_n1 _ _ dX9_isEdge_49
abbrev w_X9_isWell (k : mg_K) (a_t a_t_s a_t_past a_t_aside a_t_text a_t_told a_t_bottoms a_t_planned : Nat) (v_t_pasts : Int32) (v_t_typed : Int32) (v_t_at : Int32) (v_t_kind : Int32) (v_t_from : Int32) (v_t_value : Int32) (v_t_planLength : Int32) (v_t_planAmount : Int32) (v_t_s : Nat → Int32) : va_W := [(a_t, .inr (9, [.ref a_t_s, .ref a_t_past, .ref a_t_aside, .int v_t_pasts, .ref a_t_text, .int v_t_typed, .int v_t_at, .int v_t_kind, .int v_t_from, .int v_t_value, .ref a_t_told, .ref a_t_bottoms, .ref a_t_planned, .int v_t_planLength, .int v_t_planAmount])), (a_t_s, .inl (k.2.1, 227, .inl v_t_s))]
def f_X9_isWell (v_t_s : Nat → Int32) (x1 : Int32) : Option (Int32) := (f_X9_isCell v_t_s x1).bind (fun q1 => if q1 = 0 then (some 0) else ((f_X9_isEdge v_t_s x1).bind (fun q3 => if q3 = 0 then (some 1) else (some 0))))
theorem Y_X9_isWell : mg_Y yX9_isWell cX9_isWell 2 (some .boolean) 1 := ⟨wm_1122, wp_52, wm_11, wm_1123, ⟨by decide +kernel, by decide +kernel, by decide +kernel⟩, by decide⟩
set_option maxRecDepth 100000 in
set_option maxHeartbeats 4000000 in
theorem c_X9_isWell (l : Launch) (k : mg_K) (a_t a_t_s a_t_past a_t_aside a_t_text a_t_told a_t_bottoms a_t_planned : Nat) (v_t_pasts : Int32) (v_t_typed : Int32) (v_t_at : Int32) (v_t_kind : Int32) (v_t_from : Int32) (v_t_value : Int32) (v_t_planLength : Int32) (v_t_planAmount : Int32) (v_t_s : Nat → Int32) (x1 : Int32) (q : Int32) (hf : f_X9_isWell v_t_s x1 = some q) : mg_M l yX9_isWell cX9_isWell 2 (some .boolean) 3 k [.ref a_t, .int x1] (w_X9_isWell k a_t a_t_s a_t_past a_t_aside a_t_text a_t_told a_t_bottoms a_t_planned v_t_pasts v_t_typed v_t_at v_t_kind v_t_from v_t_value v_t_planLength v_t_planAmount v_t_s) (w_X9_isWell k a_t a_t_s a_t_past a_t_aside a_t_text a_t_told a_t_bottoms a_t_planned v_t_pasts v_t_typed v_t_at v_t_kind v_t_from v_t_value v_t_planLength v_t_planAmount v_t_s) (some (.int q)) := by
  refine mg_Mz RX9 [(0, .ref a_t), (1, .int x1)] (by decide +kernel) rfl rfl (Nat.le_of_ble_eq_true rfl) ?_
  intro z A Q hl C E
  subst hl
  unfold f_X9_isWell at hf
  refine mg_aload_n (pc := 0) C 0 dX9_isWell_0 rfl rfl ?_
  refine mg_iload_n (pc := 1) C 1 dX9_isWell_1 rfl rfl ?_
  obtain ⟨q1, h2, hf⟩ := mg_b hf
  refine mg_callV (pc := 2) C (w2 := w_X9_isWell k a_t a_t_s a_t_past a_t_aside a_t_text a_t_told a_t_bottoms a_t_planned v_t_pasts v_t_typed v_t_at v_t_kind v_t_from v_t_value v_t_planLength v_t_planAmount v_t_s) (c_X9_isCell z.2.1 k a_t a_t_s a_t_past a_t_aside a_t_text a_t_told a_t_bottoms a_t_planned v_t_pasts v_t_typed v_t_at v_t_kind v_t_from v_t_value v_t_planLength v_t_planAmount v_t_s x1 q1 h2) Y_X9_isCell wm_1032 (by decide) rfl 0 rfl rfl rfl [0, 1] rfl (by decide) rfl [some 0, some 1] (by decide) rfl (Nat.le_of_ble_eq_true rfl) rfl dX9_isWell_2 ?_
  refine mg_if_eq (pc := 5) (tgt := 20) C dX9_isWell_5 (by decide) hf (fun hf => ?_) (fun hf => ?_)
  · refine mg_iconst (pc := 20) C dX9_isWell_20 (v := 0) (by decide) ?_
    obtain rfl := Option.some.inj hf
    exact E mg_n0 _ _ dX9_isWell_21
  · refine mg_aload_n (pc := 8) C 0 dX9_isWell_8 rfl rfl ?_
    refine mg_iload_n (pc := 9) C 1 dX9_isWell_9 rfl rfl ?_
    obtain ⟨q3, h4, hf⟩ := mg_b hf
    refine mg_callV (pc := 10) C (w2 := w_X9_isWell k a_t a_t_s a_t_past a_t_aside a_t_text a_t_told a_t_bottoms a_t_planned v_t_pasts v_t_typed v_t_at v_t_kind v_t_from v_t_value v_t_planLength v_t_planAmount v_t_s) (c_X9_isEdge z.2.1 k a_t a_t_s a_t_past a_t_aside a_t_text a_t_told a_t_bottoms a_t_planned v_t_pasts v_t_typed v_t_at v_t_kind v_t_from v_t_value v_t_planLength v_t_planAmount v_t_s x1 q3 h4) Y_X9_isEdge wm_1069 (by decide) rfl 0 rfl rfl rfl [0, 1] rfl (by decide) rfl [some 0, some 1] (by decide) rfl (Nat.le_of_ble_eq_true rfl) rfl dX9_isWell_10 ?_
    refine mg_if_ne (pc := 13) (tgt := 20) C dX9_isWell_13 (by decide) hf (fun hf => ?_) (fun hf => ?_)
    · refine mg_iconst (pc := 20) C dX9_isWell_20 (v := 0) (by decide) ?_
      obtain rfl := Option.some.inj hf
      exact E mg_n0 _ _ dX9_isWell_21
    · refine mg_iconst (pc := 16) C dX9_isWell_16 (v := 1) (by decide) ?_
      refine mg_goto (pc := 17) (tgt := 21) C dX9_isWell_17 (by decide) ?_
      obtain rfl := Option.some.inj hf
      exact E mg_n1 _ _ dX9_isWell_21
abbrev w_X9_near (k : mg_K) : va_W := []
def f_X9_near (x0 : Int32) (x1 : Int32) : Option (Int32) := if 1 ≤ x0 then (if x0 ≤ (x1 - 2) then (some x0) else (some (x1 - 2))) else (some 1)
theorem Y_X9_near : mg_YS yX9_near cX9_near 2 (some .int) 2 := ⟨wm_1102, wm_11, wm_1103, ⟨by decide +kernel, by decide +kernel, by decide +kernel⟩, by decide⟩
set_option maxRecDepth 100000 in
set_option maxHeartbeats 4000000 in
theorem c_X9_near (l : Launch) (k : mg_K) (x0 : Int32) (x1 : Int32) (q : Int32) (hf : f_X9_near x0 x1 = some q) : mg_M l yX9_near cX9_near 2 (some .int) 0 k [.int x0, .int x1] (w_X9_near k) (w_X9_near k) (some (.int q)) := by
  refine mg_Mi RX9 [(0, .int x0), (1, .int x1)] (by decide +kernel) rfl rfl (Nat.le_of_ble_eq_true rfl) ?_
  intro z A Q hl C E
  subst hl
  unfold f_X9_near at hf
  refine mg_iload_n (pc := 0) C 0 dX9_near_0 rfl rfl ?_
  refine mg_iconst (pc := 1) C dX9_near_1 (v := 1) (by decide) ?_
  refine mg_icmp_ge (pc := 2) (tgt := 9) C dX9_near_2 (by decide) hf (fun hf => ?_) (fun hf => ?_)
  · refine mg_iload_n (pc := 9) C 0 dX9_near_9 rfl rfl ?_
    refine mg_iload_n (pc := 10) C 1 dX9_near_10 rfl rfl ?_
    refine mg_iconst (pc := 11) C dX9_near_11 (v := 2) (by decide) ?_
    refine mg_isub (pc := 12) C dX9_near_12 ?_
    refine mg_icmp_le (pc := 13) (tgt := 22) C dX9_near_13 (by decide) hf (fun hf => ?_) (fun hf => ?_)
    · refine mg_iload_n (pc := 22) C 0 dX9_near_22 rfl rfl ?_
      obtain rfl := Option.some.inj hf
      exact E _ _ dX9_near_23
    · refine mg_iload_n (pc := 16) C 1 dX9_near_16 rfl rfl ?_
      refine mg_iconst (pc := 17) C dX9_near_17 (v := 2) (by decide) ?_
      refine mg_isub (pc := 18) C dX9_near_18 ?_
      refine mg_goto (pc := 19) (tgt := 23) C dX9_near_19 (by decide) ?_
      obtain rfl := Option.some.inj hf
      exact E _ _ dX9_near_23
  · refine mg_iconst (pc := 5) C dX9_near_5 (v := 1) (by decide) ?_
    refine mg_goto (pc := 6) (tgt := 23) C dX9_near_6 (by decide) ?_
    obtain rfl := Option.some.inj hf
    exact E _ _ dX9_near_23
abbrev w_X9_wellBeside (k : mg_K) (a_t a_t_s a_t_past a_t_aside a_t_text a_t_told a_t_bottoms a_t_planned : Nat) (v_t_pasts : Int32) (v_t_typed : Int32) (v_t_at : Int32) (v_t_kind : Int32) (v_t_from : Int32) (v_t_value : Int32) (v_t_planLength : Int32) (v_t_planAmount : Int32) (v_t_s : Nat → Int32) : va_W := [(a_t, .inr (9, [.ref a_t_s, .ref a_t_past, .ref a_t_aside, .int v_t_pasts, .ref a_t_text, .int v_t_typed, .int v_t_at, .int v_t_kind, .int v_t_from, .int v_t_value, .ref a_t_told, .ref a_t_bottoms, .ref a_t_planned, .int v_t_planLength, .int v_t_planAmount])), (a_t_s, .inl (k.2.1, 227, .inl v_t_s))]
def f_X9_wellBeside (v_t_s : Nat → Int32) (x1 : Int32) : Option (Int32) := (f_X9_rowOf v_t_s x1).bind (fun q1 => (f_X9_near q1 (v_t_s 1)).bind (fun q3 => (f_X9_columnOf v_t_s x1).bind (fun q5 => (f_X9_near q5 (v_t_s 0)).bind (fun q7 => some ((q3 * (v_t_s 0)) + q7)))))
theorem Y_X9_wellBeside : mg_Y yX9_wellBeside cX9_wellBeside 2 (some .int) 1 := ⟨wm_1099, wp_48, wm_11, wm_1100, ⟨by decide +kernel, by decide +kernel, by decide +kernel⟩, by decide⟩
set_option maxRecDepth 100000 in
set_option maxHeartbeats 4000000 in
theorem c_X9_wellBeside (l : Launch) (k : mg_K) (a_t a_t_s a_t_past a_t_aside a_t_text a_t_told a_t_bottoms a_t_planned : Nat) (v_t_pasts : Int32) (v_t_typed : Int32) (v_t_at : Int32) (v_t_kind : Int32) (v_t_from : Int32) (v_t_value : Int32) (v_t_planLength : Int32) (v_t_planAmount : Int32) (v_t_s : Nat → Int32) (x1 : Int32) (q : Int32) (hf : f_X9_wellBeside v_t_s x1 = some q) : mg_M l yX9_wellBeside cX9_wellBeside 2 (some .int) 1 k [.ref a_t, .int x1] (w_X9_wellBeside k a_t a_t_s a_t_past a_t_aside a_t_text a_t_told a_t_bottoms a_t_planned v_t_pasts v_t_typed v_t_at v_t_kind v_t_from v_t_value v_t_planLength v_t_planAmount v_t_s) (w_X9_wellBeside k a_t a_t_s a_t_past a_t_aside a_t_text a_t_told a_t_bottoms a_t_planned v_t_pasts v_t_typed v_t_at v_t_kind v_t_from v_t_value v_t_planLength v_t_planAmount v_t_s) (some (.int q)) := by
  refine mg_Mi RX9 [(0, .ref a_t), (1, .int x1)] (by decide +kernel) rfl rfl (Nat.le_of_ble_eq_true rfl) ?_
  intro z A Q hl C E
  subst hl
  unfold f_X9_wellBeside at hf
  refine mg_aload_n (pc := 0) C 0 dX9_wellBeside_0 rfl rfl ?_
  refine mg_iload_n (pc := 1) C 1 dX9_wellBeside_1 rfl rfl ?_
  obtain ⟨q1, h2, hf⟩ := mg_b hf
  refine mg_callV (pc := 2) C (w2 := w_X9_wellBeside k a_t a_t_s a_t_past a_t_aside a_t_text a_t_told a_t_bottoms a_t_planned v_t_pasts v_t_typed v_t_at v_t_kind v_t_from v_t_value v_t_planLength v_t_planAmount v_t_s) (c_X9_rowOf z.2.1 k a_t a_t_s a_t_past a_t_aside a_t_text a_t_told a_t_bottoms a_t_planned v_t_pasts v_t_typed v_t_at v_t_kind v_t_from v_t_value v_t_planLength v_t_planAmount v_t_s x1 q1 h2) Y_X9_rowOf wm_1081 (by decide) rfl 0 rfl rfl rfl [0, 1] rfl (by decide) rfl [some 0, some 1] (by decide) rfl (Nat.le_of_ble_eq_true rfl) rfl dX9_wellBeside_2 ?_
  refine mg_aload_n (pc := 5) C 0 dX9_wellBeside_5 rfl rfl ?_
  refine mg_get (pc := 6) C 0 rfl rfl inX9 0 (by decide) wm_874 rfl rfl dX9_wellBeside_6 ?_
  refine mg_iconst (pc := 9) C dX9_wellBeside_9 (v := 1) (by decide) ?_
  refine mg_ialdK (pc := 10) C 1 1 rfl dX9_wellBeside_10 (by decide) (by decide) ?_
  obtain ⟨q3, h4, hf⟩ := mg_b hf
  refine mg_callS (pc := 11) C (w2 := w_X9_wellBeside k a_t a_t_s a_t_past a_t_aside a_t_text a_t_told a_t_bottoms a_t_planned v_t_pasts v_t_typed v_t_at v_t_kind v_t_from v_t_value v_t_planLength v_t_planAmount v_t_s) (c_X9_near z.2.1 k q1 (v_t_s 1) q3 h4) Y_X9_near wm_1101 (by decide) rfl [] rfl (by decide) rfl [none, none] (by decide) rfl (Nat.le_of_ble_eq_true rfl) rfl dX9_wellBeside_11 ?_
  refine mg_aload_n (pc := 14) C 0 dX9_wellBeside_14 rfl rfl ?_
  refine mg_get (pc := 15) C 0 rfl rfl inX9 0 (by decide) wm_874 rfl rfl dX9_wellBeside_15 ?_
  refine mg_iconst (pc := 18) C dX9_wellBeside_18 (v := 0) (by decide) ?_
  refine mg_ialdK (pc := 19) C 1 0 rfl dX9_wellBeside_19 (by decide) (by decide) ?_
  refine mg_imul (pc := 20) C dX9_wellBeside_20 ?_
  refine mg_aload_n (pc := 21) C 0 dX9_wellBeside_21 rfl rfl ?_
  refine mg_iload_n (pc := 22) C 1 dX9_wellBeside_22 rfl rfl ?_
  obtain ⟨q5, h6, hf⟩ := mg_b hf
  refine mg_callV (pc := 23) C (w2 := w_X9_wellBeside k a_t a_t_s a_t_past a_t_aside a_t_text a_t_told a_t_bottoms a_t_planned v_t_pasts v_t_typed v_t_at v_t_kind v_t_from v_t_value v_t_planLength v_t_planAmount v_t_s) (c_X9_columnOf z.2.1 k a_t a_t_s a_t_past a_t_aside a_t_text a_t_told a_t_bottoms a_t_planned v_t_pasts v_t_typed v_t_at v_t_kind v_t_from v_t_value v_t_planLength v_t_planAmount v_t_s x1 q5 h6) Y_X9_columnOf wm_1077 (by decide) rfl 0 rfl rfl rfl [0, 1] rfl (by decide) rfl [some 0, some 1] (by decide) rfl (Nat.le_of_ble_eq_true rfl) rfl dX9_wellBeside_23 ?_
  refine mg_aload_n (pc := 26) C 0 dX9_wellBeside_26 rfl rfl ?_
  refine mg_get (pc := 27) C 0 rfl rfl inX9 0 (by decide) wm_874 rfl rfl dX9_wellBeside_27 ?_
  refine mg_iconst (pc := 30) C dX9_wellBeside_30 (v := 0) (by decide) ?_
  refine mg_ialdK (pc := 31) C 1 0 rfl dX9_wellBeside_31 (by decide) (by decide) ?_
  obtain ⟨q7, h8, hf⟩ := mg_b hf
  refine mg_callS (pc := 32) C (w2 := w_X9_wellBeside k a_t a_t_s a_t_past a_t_aside a_t_text a_t_told a_t_bottoms a_t_planned v_t_pasts v_t_typed v_t_at v_t_kind v_t_from v_t_value v_t_planLength v_t_planAmount v_t_s) (c_X9_near z.2.1 k q5 (v_t_s 0) q7 h8) Y_X9_near wm_1101 (by decide) rfl [] rfl (by decide) rfl [none, none] (by decide) rfl (Nat.le_of_ble_eq_true rfl) rfl dX9_wellBeside_32 ?_
  refine mg_iadd (pc := 35) C dX9_wellBeside_35 ?_
  obtain rfl := Option.some.inj hf
  exact E _ _ dX9_wellBeside_36
abbrev w_X9_layerAt (k : mg_K) (a_t a_t_s a_t_past a_t_aside a_t_text a_t_told a_t_bottoms a_t_planned : Nat) (v_t_pasts : Int32) (v_t_typed : Int32) (v_t_at : Int32) (v_t_kind : Int32) (v_t_from : Int32) (v_t_value : Int32) (v_t_planLength : Int32) (v_t_planAmount : Int32) (v_t_s : Nat → Int32) : va_W := [(a_t, .inr (9, [.ref a_t_s, .ref a_t_past, .ref a_t_aside, .int v_t_pasts, .ref a_t_text, .int v_t_typed, .int v_t_at, .int v_t_kind, .int v_t_from, .int v_t_value, .ref a_t_told, .ref a_t_bottoms, .ref a_t_planned, .int v_t_planLength, .int v_t_planAmount])), (a_t_s, .inl (k.2.1, 227, .inl v_t_s))]
def f_X9_layerAt_L4 (v_t_s : Nat → Int32) (x1 : Int32) : Nat → Int32 → Int32 → Option (Int32 × Int32)
  | 0, _, _ => none
  | n_ + 1, x2, x3 => if (v_t_s 8) ≤ x2 then (some ((x2, x3))) else (if mg_ix (9 + (3 * x2)) 227 = true then (if x1 < (x3 + (v_t_s (Int32.toNatClampNeg (9 + (3 * x2))))) then (some ((x2, x3))) else (if mg_ix (9 + (3 * x2)) 227 = true then (f_X9_layerAt_L4 v_t_s x1 n_ (x2 + 1) (x3 + (v_t_s (Int32.toNatClampNeg (9 + (3 * x2)))))) else none)) else none)
def f_X9_layerAt (fuel : Nat) (v_t_s : Nat → Int32) (x1 : Int32) : Option (Int32) := (f_X9_layerAt_L4 v_t_s x1 fuel 0 0).bind (fun q1 => some q1.1)
theorem Y_X9_layerAt : mg_Y yX9_layerAt cX9_layerAt 4 (some .int) 1 := ⟨wm_1047, wp_38, wm_11, wm_1048, ⟨by decide +kernel, by decide +kernel, by decide +kernel⟩, by decide⟩
set_option maxRecDepth 100000 in
set_option maxHeartbeats 4000000 in
theorem c_X9_layerAt (l : Launch) (k : mg_K) (a_t a_t_s a_t_past a_t_aside a_t_text a_t_told a_t_bottoms a_t_planned : Nat) (v_t_pasts : Int32) (v_t_typed : Int32) (v_t_at : Int32) (v_t_kind : Int32) (v_t_from : Int32) (v_t_value : Int32) (v_t_planLength : Int32) (v_t_planAmount : Int32) (v_t_s : Nat → Int32) (fuel : Nat) (x1 : Int32) (q : Int32) (hf : f_X9_layerAt fuel v_t_s x1 = some q) : mg_M l yX9_layerAt cX9_layerAt 4 (some .int) 0 k [.ref a_t, .int x1] (w_X9_layerAt k a_t a_t_s a_t_past a_t_aside a_t_text a_t_told a_t_bottoms a_t_planned v_t_pasts v_t_typed v_t_at v_t_kind v_t_from v_t_value v_t_planLength v_t_planAmount v_t_s) (w_X9_layerAt k a_t a_t_s a_t_past a_t_aside a_t_text a_t_told a_t_bottoms a_t_planned v_t_pasts v_t_typed v_t_at v_t_kind v_t_from v_t_value v_t_planLength v_t_planAmount v_t_s) (some (.int q)) := by
  refine mg_Mi RX9 [(0, .ref a_t), (1, .int x1)] (by decide +kernel) rfl rfl (Nat.le_of_ble_eq_true rfl) ?_
  intro z A Q hl C E
  subst hl
  unfold f_X9_layerAt at hf
  have L4 : ∀ (x1 : Int32) (n_ : Nat) (x2 : Int32) (x3 : Int32) (q_ : Int32 × Int32), f_X9_layerAt_L4 v_t_s x1 n_ x2 x3 = some q_ → (mg z k A 4 0 0 Q (w_X9_layerAt k a_t a_t_s a_t_past a_t_aside a_t_text a_t_told a_t_bottoms a_t_planned v_t_pasts v_t_typed v_t_at v_t_kind v_t_from v_t_value v_t_planLength v_t_planAmount v_t_s) [(2, .int q_.1)] 52 []) → mg z k A 4 0 0 Q (w_X9_layerAt k a_t a_t_s a_t_past a_t_aside a_t_text a_t_told a_t_bottoms a_t_planned v_t_pasts v_t_typed v_t_at v_t_kind v_t_from v_t_value v_t_planLength v_t_planAmount v_t_s) [(0, .ref a_t), (1, .int x1), (2, .int x2), (3, .int x3)] 4 [] := by
    intro x1 n_
    induction n_ with
    | zero => intro x2 x3 q_ hf; exact mg_no (show none = some q_ from hf)
    | succ n_ ih =>
      intro x2 x3 q_ hf X0
      rw [f_X9_layerAt_L4] at hf
      refine mg_iload_n (pc := 4) C 2 dX9_layerAt_4 rfl rfl ?_
      refine mg_aload_n (pc := 5) C 0 dX9_layerAt_5 rfl rfl ?_
      refine mg_get (pc := 6) C 0 rfl rfl inX9 0 (by decide) wm_874 rfl rfl dX9_layerAt_6 ?_
      refine mg_bipush (pc := 9) C dX9_layerAt_9 (v := 8) (by decide) ?_
      refine mg_ialdK (pc := 11) C 1 8 rfl dX9_layerAt_11 (by decide) (by decide) ?_
      refine mg_icmp_ge (pc := 12) (tgt := 52) C dX9_layerAt_12 (by decide) hf (fun hf => ?_) (fun hf => ?_)
      · obtain rfl := Option.some.inj hf
        refine mg_lv [2] rfl ?_
        exact X0
      · refine mg_iload_n (pc := 15) C 3 dX9_layerAt_15 rfl rfl ?_
        refine mg_aload_n (pc := 16) C 0 dX9_layerAt_16 rfl rfl ?_
        refine mg_get (pc := 17) C 0 rfl rfl inX9 0 (by decide) wm_874 rfl rfl dX9_layerAt_17 ?_
        refine mg_bipush (pc := 20) C dX9_layerAt_20 (v := 9) (by decide) ?_
        refine mg_iconst (pc := 22) C dX9_layerAt_22 (v := 3) (by decide) ?_
        refine mg_iload_n (pc := 23) C 2 dX9_layerAt_23 rfl rfl ?_
        refine mg_imul (pc := 24) C dX9_layerAt_24 ?_
        refine mg_iadd (pc := 25) C dX9_layerAt_25 ?_
        refine mg_iald (pc := 26) C 1 rfl dX9_layerAt_26 hf (fun hf => ?_)
        refine mg_iadd (pc := 27) C dX9_layerAt_27 ?_
        refine mg_iload_n (pc := 28) C 1 dX9_layerAt_28 rfl rfl ?_
        refine mg_icmp_gt (pc := 29) (tgt := 52) C dX9_layerAt_29 (by decide) hf (fun hf => ?_) (fun hf => ?_)
        · obtain rfl := Option.some.inj hf
          refine mg_lv [2] rfl ?_
          exact X0
        · refine mg_iload_n (pc := 32) C 3 dX9_layerAt_32 rfl rfl ?_
          refine mg_aload_n (pc := 33) C 0 dX9_layerAt_33 rfl rfl ?_
          refine mg_get (pc := 34) C 0 rfl rfl inX9 0 (by decide) wm_874 rfl rfl dX9_layerAt_34 ?_
          refine mg_bipush (pc := 37) C dX9_layerAt_37 (v := 9) (by decide) ?_
          refine mg_iconst (pc := 39) C dX9_layerAt_39 (v := 3) (by decide) ?_
          refine mg_iload_n (pc := 40) C 2 dX9_layerAt_40 rfl rfl ?_
          refine mg_imul (pc := 41) C dX9_layerAt_41 ?_
          refine mg_iadd (pc := 42) C dX9_layerAt_42 ?_
          refine mg_iald (pc := 43) C 1 rfl dX9_layerAt_43 hf (fun hf => ?_)
          refine mg_iadd (pc := 44) C dX9_layerAt_44 ?_
          refine mg_istore_n (pc := 45) C (lv' := [(3, .int (x3 + (v_t_s (Int32.toNatClampNeg (9 + (3 * x2)))))), (0, .ref a_t), (1, .int x1), (2, .int x2)]) dX9_layerAt_45 rfl (by decide) rfl ?_
          refine mg_iinc (pc := 46) C (c := 1) (lv' := [(2, .int (x2 + 1)), (3, .int (x3 + (v_t_s (Int32.toNatClampNeg (9 + (3 * x2)))))), (0, .ref a_t), (1, .int x1)]) 3 dX9_layerAt_46 rfl (by decide) (by decide) rfl ?_
          refine mg_goto (pc := 49) (tgt := 4) C dX9_layerAt_49 (by decide) ?_
          refine mg_lv [2, 3, 0, 1] rfl ?_
          exact ih (x2 + 1) (x3 + (v_t_s (Int32.toNatClampNeg (9 + (3 * x2))))) _ hf X0
  refine mg_iconst (pc := 0) C dX9_layerAt_0 (v := 0) (by decide) ?_
  refine mg_istore_n (pc := 1) C (lv' := [(2, .int 0), (0, .ref a_t), (1, .int x1)]) dX9_layerAt_1 rfl (by decide) rfl ?_
  refine mg_iconst (pc := 2) C dX9_layerAt_2 (v := 0) (by decide) ?_
  refine mg_istore_n (pc := 3) C (lv' := [(3, .int 0), (2, .int 0), (0, .ref a_t), (1, .int x1)]) dX9_layerAt_3 rfl (by decide) rfl ?_
  obtain ⟨q1, h2, hf⟩ := mg_b hf
  refine mg_lv [2, 3, 1, 0] rfl ?_
  refine L4 x1 fuel 0 0 q1 h2 ?_
  refine mg_iload_n (pc := 52) C 0 dX9_layerAt_52 rfl rfl ?_
  obtain rfl := Option.some.inj hf
  exact E _ _ dX9_layerAt_53
abbrev w_X9_groundAt (k : mg_K) (a_t a_t_s a_t_past a_t_aside a_t_text a_t_told a_t_bottoms a_t_planned : Nat) (v_t_pasts : Int32) (v_t_typed : Int32) (v_t_at : Int32) (v_t_kind : Int32) (v_t_from : Int32) (v_t_value : Int32) (v_t_planLength : Int32) (v_t_planAmount : Int32) (v_t_s : Nat → Int32) : va_W := [(a_t, .inr (9, [.ref a_t_s, .ref a_t_past, .ref a_t_aside, .int v_t_pasts, .ref a_t_text, .int v_t_typed, .int v_t_at, .int v_t_kind, .int v_t_from, .int v_t_value, .ref a_t_told, .ref a_t_bottoms, .ref a_t_planned, .int v_t_planLength, .int v_t_planAmount])), (a_t_s, .inl (k.2.1, 227, .inl v_t_s))]
def f_X9_groundAt (fuel : Nat) (v_t_s : Nat → Int32) (x1 : Int32) (x2 : Int32) : Option (Int32) := (f_X9_layerAt fuel v_t_s x1).bind (fun q1 => if q1 = (v_t_s 8) then (if x2 = 0 then (some 60) else (some 9)) else (if mg_ix (((9 + (3 * q1)) + 1) + x2) 227 = true then (some (v_t_s (Int32.toNatClampNeg (((9 + (3 * q1)) + 1) + x2)))) else none))
theorem Y_X9_groundAt : mg_Y yX9_groundAt cX9_groundAt 4 (some .int) 2 := ⟨wm_1043, wp_37, wm_11, wm_1044, ⟨by decide +kernel, by decide +kernel, by decide +kernel⟩, by decide⟩
set_option maxRecDepth 100000 in
set_option maxHeartbeats 4000000 in
theorem c_X9_groundAt (l : Launch) (k : mg_K) (a_t a_t_s a_t_past a_t_aside a_t_text a_t_told a_t_bottoms a_t_planned : Nat) (v_t_pasts : Int32) (v_t_typed : Int32) (v_t_at : Int32) (v_t_kind : Int32) (v_t_from : Int32) (v_t_value : Int32) (v_t_planLength : Int32) (v_t_planAmount : Int32) (v_t_s : Nat → Int32) (fuel : Nat) (x1 : Int32) (x2 : Int32) (q : Int32) (hf : f_X9_groundAt fuel v_t_s x1 x2 = some q) : mg_M l yX9_groundAt cX9_groundAt 4 (some .int) 1 k [.ref a_t, .int x1, .int x2] (w_X9_groundAt k a_t a_t_s a_t_past a_t_aside a_t_text a_t_told a_t_bottoms a_t_planned v_t_pasts v_t_typed v_t_at v_t_kind v_t_from v_t_value v_t_planLength v_t_planAmount v_t_s) (w_X9_groundAt k a_t a_t_s a_t_past a_t_aside a_t_text a_t_told a_t_bottoms a_t_planned v_t_pasts v_t_typed v_t_at v_t_kind v_t_from v_t_value v_t_planLength v_t_planAmount v_t_s) (some (.int q)) := by
  refine mg_Mi RX9 [(0, .ref a_t), (1, .int x1), (2, .int x2)] (by decide +kernel) rfl rfl (Nat.le_of_ble_eq_true rfl) ?_
  intro z A Q hl C E
  subst hl
  unfold f_X9_groundAt at hf
  refine mg_aload_n (pc := 0) C 0 dX9_groundAt_0 rfl rfl ?_
  refine mg_iload_n (pc := 1) C 1 dX9_groundAt_1 rfl rfl ?_
  obtain ⟨q1, h2, hf⟩ := mg_b hf
  refine mg_callV (pc := 2) C (w2 := w_X9_groundAt k a_t a_t_s a_t_past a_t_aside a_t_text a_t_told a_t_bottoms a_t_planned v_t_pasts v_t_typed v_t_at v_t_kind v_t_from v_t_value v_t_planLength v_t_planAmount v_t_s) (c_X9_layerAt z.2.1 k a_t a_t_s a_t_past a_t_aside a_t_text a_t_told a_t_bottoms a_t_planned v_t_pasts v_t_typed v_t_at v_t_kind v_t_from v_t_value v_t_planLength v_t_planAmount v_t_s fuel x1 q1 h2) Y_X9_layerAt wm_1045 (by decide) rfl 0 rfl rfl rfl [0, 1] rfl (by decide) rfl [some 0, some 1] (by decide) rfl (Nat.le_of_ble_eq_true rfl) rfl dX9_groundAt_2 ?_
  refine mg_istore_n (pc := 5) C (lv' := [(3, .int q1), (0, .ref a_t), (1, .int x1), (2, .int x2)]) dX9_groundAt_5 rfl (by decide) rfl ?_
  refine mg_iload_n (pc := 6) C 0 dX9_groundAt_6 rfl rfl ?_
  refine mg_aload_n (pc := 7) C 1 dX9_groundAt_7 rfl rfl ?_
  refine mg_get (pc := 8) C 0 rfl rfl inX9 0 (by decide) wm_874 rfl rfl dX9_groundAt_8 ?_
  refine mg_bipush (pc := 11) C dX9_groundAt_11 (v := 8) (by decide) ?_
  refine mg_ialdK (pc := 13) C 1 8 rfl dX9_groundAt_13 (by decide) (by decide) ?_
  refine mg_icmp_ne (pc := 14) (tgt := 31) C dX9_groundAt_14 (by decide) hf (fun hf => ?_) (fun hf => ?_)
  · refine mg_aload_n (pc := 31) C 1 dX9_groundAt_31 rfl rfl ?_
    refine mg_get (pc := 32) C 0 rfl rfl inX9 0 (by decide) wm_874 rfl rfl dX9_groundAt_32 ?_
    refine mg_bipush (pc := 35) C dX9_groundAt_35 (v := 9) (by decide) ?_
    refine mg_iconst (pc := 37) C dX9_groundAt_37 (v := 3) (by decide) ?_
    refine mg_iload_n (pc := 38) C 0 dX9_groundAt_38 rfl rfl ?_
    refine mg_imul (pc := 39) C dX9_groundAt_39 ?_
    refine mg_iadd (pc := 40) C dX9_groundAt_40 ?_
    refine mg_iconst (pc := 41) C dX9_groundAt_41 (v := 1) (by decide) ?_
    refine mg_iadd (pc := 42) C dX9_groundAt_42 ?_
    refine mg_iload_n (pc := 43) C 3 dX9_groundAt_43 rfl rfl ?_
    refine mg_iadd (pc := 44) C dX9_groundAt_44 ?_
    refine mg_iald (pc := 45) C 1 rfl dX9_groundAt_45 hf (fun hf => ?_)
    obtain rfl := Option.some.inj hf
    exact E _ _ dX9_groundAt_46
  · refine mg_iload_n (pc := 17) C 3 dX9_groundAt_17 rfl rfl ?_
    refine mg_if_ne (pc := 18) (tgt := 26) C dX9_groundAt_18 (by decide) hf (fun hf => ?_) (fun hf => ?_)
    · refine mg_bipush (pc := 26) C dX9_groundAt_26 (v := 9) (by decide) ?_
      refine mg_goto (pc := 28) (tgt := 46) C dX9_groundAt_28 (by decide) ?_
      obtain rfl := Option.some.inj hf
      exact E _ _ dX9_groundAt_46
    · refine mg_bipush (pc := 21) C dX9_groundAt_21 (v := 60) (by decide) ?_
      refine mg_goto (pc := 23) (tgt := 46) C dX9_groundAt_23 (by decide) ?_
      obtain rfl := Option.some.inj hf
      exact E _ _ dX9_groundAt_46
abbrev w_X9_frictions (k : mg_K) (a_t a_t_s a_t_past a_t_aside a_t_text a_t_told a_t_bottoms a_t_planned : Nat) (v_t_pasts : Int32) (v_t_typed : Int32) (v_t_at : Int32) (v_t_kind : Int32) (v_t_from : Int32) (v_t_value : Int32) (v_t_planLength : Int32) (v_t_planAmount : Int32) (v_t_s : Nat → Int32) : va_W := [(a_t, .inr (9, [.ref a_t_s, .ref a_t_past, .ref a_t_aside, .int v_t_pasts, .ref a_t_text, .int v_t_typed, .int v_t_at, .int v_t_kind, .int v_t_from, .int v_t_value, .ref a_t_told, .ref a_t_bottoms, .ref a_t_planned, .int v_t_planLength, .int v_t_planAmount])), (a_t_s, .inl (k.2.1, 227, .inl v_t_s))]
def f_X9_frictions_J51 (rec_ : Int32 → Int32 → Int32 → Option (Int32 × Int32 × Int32)) (v_t_s : Nat → Int32) (x2 : Int32) (x3 : Int32) (x4 : Int32) (y0 : Int32) : Option (Int32 × Int32 × Int32) := if mg_ix ((9 + (3 * x4)) + 2) 227 = true then (rec_ (x2 - y0) (x3 + (y0 * (v_t_s (Int32.toNatClampNeg ((9 + (3 * x4)) + 2))))) (x4 + 1)) else none
def f_X9_frictions_L7 (v_t_s : Nat → Int32) : Nat → Int32 → Int32 → Int32 → Option (Int32 × Int32 × Int32)
  | 0, _, _, _ => none
  | n_ + 1, x2, x3, x4 => if (v_t_s 8) ≤ x4 then (some ((x2, x3, x4))) else (if mg_ix (9 + (3 * x4)) 227 = true then (if x2 ≤ (v_t_s (Int32.toNatClampNeg (9 + (3 * x4)))) then (f_X9_frictions_J51 (f_X9_frictions_L7 v_t_s n_) v_t_s x2 x3 x4 x2) else (if mg_ix (9 + (3 * x4)) 227 = true then (f_X9_frictions_J51 (f_X9_frictions_L7 v_t_s n_) v_t_s x2 x3 x4 (v_t_s (Int32.toNatClampNeg (9 + (3 * x4))))) else none)) else none)
def f_X9_frictions (fuel : Nat) (v_t_s : Nat → Int32) (x1 : Int32) : Option (Int32) := (f_X9_frictions_L7 v_t_s fuel x1 0 0).bind (fun q1 => some (q1.2.1 + (9 * q1.1)))
theorem Y_X9_frictions : mg_Y yX9_frictions cX9_frictions 6 (some .int) 1 := ⟨wm_1110, wp_50, wm_11, wm_1111, ⟨by decide +kernel, by decide +kernel, by decide +kernel⟩, by decide⟩
set_option maxRecDepth 100000 in
set_option maxHeartbeats 4000000 in
theorem c_X9_frictions (l : Launch) (k : mg_K) (a_t a_t_s a_t_past a_t_aside a_t_text a_t_told a_t_bottoms a_t_planned : Nat) (v_t_pasts : Int32) (v_t_typed : Int32) (v_t_at : Int32) (v_t_kind : Int32) (v_t_from : Int32) (v_t_value : Int32) (v_t_planLength : Int32) (v_t_planAmount : Int32) (v_t_s : Nat → Int32) (fuel : Nat) (x1 : Int32) (q : Int32) (hf : f_X9_frictions fuel v_t_s x1 = some q) : mg_M l yX9_frictions cX9_frictions 6 (some .int) 0 k [.ref a_t, .int x1] (w_X9_frictions k a_t a_t_s a_t_past a_t_aside a_t_text a_t_told a_t_bottoms a_t_planned v_t_pasts v_t_typed v_t_at v_t_kind v_t_from v_t_value v_t_planLength v_t_planAmount v_t_s) (w_X9_frictions k a_t a_t_s a_t_past a_t_aside a_t_text a_t_told a_t_bottoms a_t_planned v_t_pasts v_t_typed v_t_at v_t_kind v_t_from v_t_value v_t_planLength v_t_planAmount v_t_s) (some (.int q)) := by
  refine mg_Mi RX9 [(0, .ref a_t), (1, .int x1)] (by decide +kernel) rfl rfl (Nat.le_of_ble_eq_true rfl) ?_
  intro z A Q hl C E
  subst hl
  unfold f_X9_frictions at hf
  have L7 : ∀ (n_ : Nat) (x2 : Int32) (x3 : Int32) (x4 : Int32) (q_ : Int32 × Int32 × Int32), f_X9_frictions_L7 v_t_s n_ x2 x3 x4 = some q_ → (mg z k A 6 0 0 Q (w_X9_frictions k a_t a_t_s a_t_past a_t_aside a_t_text a_t_told a_t_bottoms a_t_planned v_t_pasts v_t_typed v_t_at v_t_kind v_t_from v_t_value v_t_planLength v_t_planAmount v_t_s) [(2, .int q_.1), (3, .int q_.2.1)] 84 []) → mg z k A 6 0 0 Q (w_X9_frictions k a_t a_t_s a_t_past a_t_aside a_t_text a_t_told a_t_bottoms a_t_planned v_t_pasts v_t_typed v_t_at v_t_kind v_t_from v_t_value v_t_planLength v_t_planAmount v_t_s) [(0, .ref a_t), (2, .int x2), (3, .int x3), (4, .int x4)] 7 [] := by
    intro n_
    induction n_ with
    | zero => intro x2 x3 x4 q_ hf; exact mg_no (show none = some q_ from hf)
    | succ n_ ih =>
      intro x2 x3 x4 q_ hf X0
      rw [f_X9_frictions_L7] at hf
      have J51 : ∀ (x2 : Int32) (x3 : Int32) (x4 : Int32) (y0 : Int32), f_X9_frictions_J51 (f_X9_frictions_L7 v_t_s n_) v_t_s x2 x3 x4 y0 = some q_ → mg z k A 6 0 0 Q (w_X9_frictions k a_t a_t_s a_t_past a_t_aside a_t_text a_t_told a_t_bottoms a_t_planned v_t_pasts v_t_typed v_t_at v_t_kind v_t_from v_t_value v_t_planLength v_t_planAmount v_t_s) [(0, .ref a_t), (2, .int x2), (3, .int x3), (4, .int x4)] 51 [.int y0] := by
        intro x2 x3 x4 y0 hf
        unfold f_X9_frictions_J51 at hf
        refine mg_istore (pc := 51) C (lv' := [(5, .int y0), (0, .ref a_t), (2, .int x2), (3, .int x3), (4, .int x4)]) dX9_frictions_51 (by decide) rfl ?_
        refine mg_iload_n (pc := 53) C 3 dX9_frictions_53 rfl rfl ?_
        refine mg_iload (pc := 54) C 0 dX9_frictions_54 rfl ?_
        refine mg_aload_n (pc := 56) C 1 dX9_frictions_56 rfl rfl ?_
        refine mg_get (pc := 57) C 0 rfl rfl inX9 0 (by decide) wm_874 rfl rfl dX9_frictions_57 ?_
        refine mg_bipush (pc := 60) C dX9_frictions_60 (v := 9) (by decide) ?_
        refine mg_iconst (pc := 62) C dX9_frictions_62 (v := 3) (by decide) ?_
        refine mg_iload (pc := 63) C 4 dX9_frictions_63 rfl ?_
        refine mg_imul (pc := 65) C dX9_frictions_65 ?_
        refine mg_iadd (pc := 66) C dX9_frictions_66 ?_
        refine mg_iconst (pc := 67) C dX9_frictions_67 (v := 2) (by decide) ?_
        refine mg_iadd (pc := 68) C dX9_frictions_68 ?_
        refine mg_iald (pc := 69) C 1 rfl dX9_frictions_69 hf (fun hf => ?_)
        refine mg_imul (pc := 70) C dX9_frictions_70 ?_
        refine mg_iadd (pc := 71) C dX9_frictions_71 ?_
        refine mg_istore_n (pc := 72) C (lv' := [(3, .int (x3 + (y0 * (v_t_s (Int32.toNatClampNeg ((9 + (3 * x4)) + 2)))))), (5, .int y0), (0, .ref a_t), (2, .int x2), (4, .int x4)]) dX9_frictions_72 rfl (by decide) rfl ?_
        refine mg_iload_n (pc := 73) C 3 dX9_frictions_73 rfl rfl ?_
        refine mg_iload (pc := 74) C 1 dX9_frictions_74 rfl ?_
        refine mg_isub (pc := 76) C dX9_frictions_76 ?_
        refine mg_istore_n (pc := 77) C (lv' := [(2, .int (x2 - y0)), (3, .int (x3 + (y0 * (v_t_s (Int32.toNatClampNeg ((9 + (3 * x4)) + 2)))))), (5, .int y0), (0, .ref a_t), (4, .int x4)]) dX9_frictions_77 rfl (by decide) rfl ?_
        refine mg_iinc (pc := 78) C (c := 1) (lv' := [(4, .int (x4 + 1)), (2, .int (x2 - y0)), (3, .int (x3 + (y0 * (v_t_s (Int32.toNatClampNeg ((9 + (3 * x4)) + 2)))))), (5, .int y0), (0, .ref a_t)]) 4 dX9_frictions_78 rfl (by decide) (by decide) rfl ?_
        refine mg_goto (pc := 81) (tgt := 7) C dX9_frictions_81 (by decide) ?_
        refine mg_lv [4, 1, 2, 0] rfl ?_
        exact ih (x2 - y0) (x3 + (y0 * (v_t_s (Int32.toNatClampNeg ((9 + (3 * x4)) + 2))))) (x4 + 1) _ hf X0
      refine mg_iload (pc := 7) C 3 dX9_frictions_7 rfl ?_
      refine mg_aload_n (pc := 9) C 0 dX9_frictions_9 rfl rfl ?_
      refine mg_get (pc := 10) C 0 rfl rfl inX9 0 (by decide) wm_874 rfl rfl dX9_frictions_10 ?_
      refine mg_bipush (pc := 13) C dX9_frictions_13 (v := 8) (by decide) ?_
      refine mg_ialdK (pc := 15) C 1 8 rfl dX9_frictions_15 (by decide) (by decide) ?_
      refine mg_icmp_ge (pc := 16) (tgt := 84) C dX9_frictions_16 (by decide) hf (fun hf => ?_) (fun hf => ?_)
      · obtain rfl := Option.some.inj hf
        refine mg_lv [1, 2] rfl ?_
        exact X0
      · refine mg_aload_n (pc := 19) C 0 dX9_frictions_19 rfl rfl ?_
        refine mg_get (pc := 20) C 0 rfl rfl inX9 0 (by decide) wm_874 rfl rfl dX9_frictions_20 ?_
        refine mg_bipush (pc := 23) C dX9_frictions_23 (v := 9) (by decide) ?_
        refine mg_iconst (pc := 25) C dX9_frictions_25 (v := 3) (by decide) ?_
        refine mg_iload (pc := 26) C 3 dX9_frictions_26 rfl ?_
        refine mg_imul (pc := 28) C dX9_frictions_28 ?_
        refine mg_iadd (pc := 29) C dX9_frictions_29 ?_
        refine mg_iald (pc := 30) C 1 rfl dX9_frictions_30 hf (fun hf => ?_)
        refine mg_iload_n (pc := 31) C 1 dX9_frictions_31 rfl rfl ?_
        refine mg_icmp_ge (pc := 32) (tgt := 50) C dX9_frictions_32 (by decide) hf (fun hf => ?_) (fun hf => ?_)
        · refine mg_iload_n (pc := 50) C 1 dX9_frictions_50 rfl rfl ?_
          exact J51 x2 x3 x4 x2 hf
        · refine mg_aload_n (pc := 35) C 0 dX9_frictions_35 rfl rfl ?_
          refine mg_get (pc := 36) C 0 rfl rfl inX9 0 (by decide) wm_874 rfl rfl dX9_frictions_36 ?_
          refine mg_bipush (pc := 39) C dX9_frictions_39 (v := 9) (by decide) ?_
          refine mg_iconst (pc := 41) C dX9_frictions_41 (v := 3) (by decide) ?_
          refine mg_iload (pc := 42) C 3 dX9_frictions_42 rfl ?_
          refine mg_imul (pc := 44) C dX9_frictions_44 ?_
          refine mg_iadd (pc := 45) C dX9_frictions_45 ?_
          refine mg_iald (pc := 46) C 1 rfl dX9_frictions_46 hf (fun hf => ?_)
          refine mg_goto (pc := 47) (tgt := 51) C dX9_frictions_47 (by decide) ?_
          exact J51 x2 x3 x4 (v_t_s (Int32.toNatClampNeg (9 + (3 * x4)))) hf
  refine mg_iload_n (pc := 0) C 1 dX9_frictions_0 rfl rfl ?_
  refine mg_istore_n (pc := 1) C (lv' := [(2, .int x1), (0, .ref a_t), (1, .int x1)]) dX9_frictions_1 rfl (by decide) rfl ?_
  refine mg_iconst (pc := 2) C dX9_frictions_2 (v := 0) (by decide) ?_
  refine mg_istore_n (pc := 3) C (lv' := [(3, .int 0), (2, .int x1), (0, .ref a_t), (1, .int x1)]) dX9_frictions_3 rfl (by decide) rfl ?_
  refine mg_iconst (pc := 4) C dX9_frictions_4 (v := 0) (by decide) ?_
  refine mg_istore (pc := 5) C (lv' := [(4, .int 0), (3, .int 0), (2, .int x1), (0, .ref a_t), (1, .int x1)]) dX9_frictions_5 (by decide) rfl ?_
  obtain ⟨q1, h2, hf⟩ := mg_b hf
  refine mg_lv [3, 2, 1, 0] rfl ?_
  refine L7  fuel x1 0 0 q1 h2 ?_
  refine mg_iload_n (pc := 84) C 1 dX9_frictions_84 rfl rfl ?_
  refine mg_bipush (pc := 85) C dX9_frictions_85 (v := 9) (by decide) ?_
  refine mg_iload_n (pc := 87) C 0 dX9_frictions_87 rfl rfl ?_
  refine mg_imul (pc := 88) C dX9_frictions_88 ?_
  refine mg_iadd (pc := 89) C dX9_frictions_89 ?_
  obtain rfl := Option.some.inj hf
  exact E _ _ dX9_frictions_90
abbrev w_X9_arm (k : mg_K) (a_t a_t_s a_t_past a_t_aside a_t_text a_t_told a_t_bottoms a_t_planned : Nat) (v_t_pasts : Int32) (v_t_typed : Int32) (v_t_at : Int32) (v_t_kind : Int32) (v_t_from : Int32) (v_t_value : Int32) (v_t_planLength : Int32) (v_t_planAmount : Int32) (v_t_s : Nat → Int32) : va_W := [(a_t, .inr (9, [.ref a_t_s, .ref a_t_past, .ref a_t_aside, .int v_t_pasts, .ref a_t_text, .int v_t_typed, .int v_t_at, .int v_t_kind, .int v_t_from, .int v_t_value, .ref a_t_told, .ref a_t_bottoms, .ref a_t_planned, .int v_t_planLength, .int v_t_planAmount])), (a_t_s, .inl (k.2.1, 227, .inl v_t_s))]
def f_X9_arm (v_t_s : Nat → Int32) (x1 : Int32) (x2 : Int32) : Option (Int32) := if x2 = 0 then ((f_X9_columnOf v_t_s x1).bind (fun q3 => some (((2 * q3) - (v_t_s 0)) + 1))) else ((f_X9_rowOf v_t_s x1).bind (fun q1 => some (((2 * q1) - (v_t_s 1)) + 1)))
theorem Y_X9_arm : mg_Y yX9_arm cX9_arm 3 (some .int) 2 := ⟨wm_1091, wp_46, wm_11, wm_1092, ⟨by decide +kernel, by decide +kernel, by decide +kernel⟩, by decide⟩
set_option maxRecDepth 100000 in
set_option maxHeartbeats 4000000 in
theorem c_X9_arm (l : Launch) (k : mg_K) (a_t a_t_s a_t_past a_t_aside a_t_text a_t_told a_t_bottoms a_t_planned : Nat) (v_t_pasts : Int32) (v_t_typed : Int32) (v_t_at : Int32) (v_t_kind : Int32) (v_t_from : Int32) (v_t_value : Int32) (v_t_planLength : Int32) (v_t_planAmount : Int32) (v_t_s : Nat → Int32) (x1 : Int32) (x2 : Int32) (q : Int32) (hf : f_X9_arm v_t_s x1 x2 = some q) : mg_M l yX9_arm cX9_arm 3 (some .int) 1 k [.ref a_t, .int x1, .int x2] (w_X9_arm k a_t a_t_s a_t_past a_t_aside a_t_text a_t_told a_t_bottoms a_t_planned v_t_pasts v_t_typed v_t_at v_t_kind v_t_from v_t_value v_t_planLength v_t_planAmount v_t_s) (w_X9_arm k a_t a_t_s a_t_past a_t_aside a_t_text a_t_told a_t_bottoms a_t_planned v_t_pasts v_t_typed v_t_at v_t_kind v_t_from v_t_value v_t_planLength v_t_planAmount v_t_s) (some (.int q)) := by
  refine mg_Mi RX9 [(0, .ref a_t), (1, .int x1), (2, .int x2)] (by decide +kernel) rfl rfl (Nat.le_of_ble_eq_true rfl) ?_
  intro z A Q hl C E
  subst hl
  unfold f_X9_arm at hf
  refine mg_iload_n (pc := 0) C 2 dX9_arm_0 rfl rfl ?_
  refine mg_if_ne (pc := 1) (tgt := 23) C dX9_arm_1 (by decide) hf (fun hf => ?_) (fun hf => ?_)
  · refine mg_iconst (pc := 23) C dX9_arm_23 (v := 2) (by decide) ?_
    refine mg_aload_n (pc := 24) C 0 dX9_arm_24 rfl rfl ?_
    refine mg_iload_n (pc := 25) C 1 dX9_arm_25 rfl rfl ?_
    obtain ⟨q1, h2, hf⟩ := mg_b hf
    refine mg_callV (pc := 26) C (w2 := w_X9_arm k a_t a_t_s a_t_past a_t_aside a_t_text a_t_told a_t_bottoms a_t_planned v_t_pasts v_t_typed v_t_at v_t_kind v_t_from v_t_value v_t_planLength v_t_planAmount v_t_s) (c_X9_rowOf z.2.1 k a_t a_t_s a_t_past a_t_aside a_t_text a_t_told a_t_bottoms a_t_planned v_t_pasts v_t_typed v_t_at v_t_kind v_t_from v_t_value v_t_planLength v_t_planAmount v_t_s x1 q1 h2) Y_X9_rowOf wm_1081 (by decide) rfl 0 rfl rfl rfl [0, 1] rfl (by decide) rfl [some 0, some 1] (by decide) rfl (Nat.le_of_ble_eq_true rfl) rfl dX9_arm_26 ?_
    refine mg_imul (pc := 29) C dX9_arm_29 ?_
    refine mg_aload_n (pc := 30) C 0 dX9_arm_30 rfl rfl ?_
    refine mg_get (pc := 31) C 0 rfl rfl inX9 0 (by decide) wm_874 rfl rfl dX9_arm_31 ?_
    refine mg_iconst (pc := 34) C dX9_arm_34 (v := 1) (by decide) ?_
    refine mg_ialdK (pc := 35) C 1 1 rfl dX9_arm_35 (by decide) (by decide) ?_
    refine mg_isub (pc := 36) C dX9_arm_36 ?_
    refine mg_iconst (pc := 37) C dX9_arm_37 (v := 1) (by decide) ?_
    refine mg_iadd (pc := 38) C dX9_arm_38 ?_
    obtain rfl := Option.some.inj hf
    exact E _ _ dX9_arm_39
  · refine mg_iconst (pc := 4) C dX9_arm_4 (v := 2) (by decide) ?_
    refine mg_aload_n (pc := 5) C 0 dX9_arm_5 rfl rfl ?_
    refine mg_iload_n (pc := 6) C 1 dX9_arm_6 rfl rfl ?_
    obtain ⟨q3, h4, hf⟩ := mg_b hf
    refine mg_callV (pc := 7) C (w2 := w_X9_arm k a_t a_t_s a_t_past a_t_aside a_t_text a_t_told a_t_bottoms a_t_planned v_t_pasts v_t_typed v_t_at v_t_kind v_t_from v_t_value v_t_planLength v_t_planAmount v_t_s) (c_X9_columnOf z.2.1 k a_t a_t_s a_t_past a_t_aside a_t_text a_t_told a_t_bottoms a_t_planned v_t_pasts v_t_typed v_t_at v_t_kind v_t_from v_t_value v_t_planLength v_t_planAmount v_t_s x1 q3 h4) Y_X9_columnOf wm_1077 (by decide) rfl 0 rfl rfl rfl [0, 1] rfl (by decide) rfl [some 0, some 1] (by decide) rfl (Nat.le_of_ble_eq_true rfl) rfl dX9_arm_7 ?_
    refine mg_imul (pc := 10) C dX9_arm_10 ?_
    refine mg_aload_n (pc := 11) C 0 dX9_arm_11 rfl rfl ?_
    refine mg_get (pc := 12) C 0 rfl rfl inX9 0 (by decide) wm_874 rfl rfl dX9_arm_12 ?_
    refine mg_iconst (pc := 15) C dX9_arm_15 (v := 0) (by decide) ?_
    refine mg_ialdK (pc := 16) C 1 0 rfl dX9_arm_16 (by decide) (by decide) ?_
    refine mg_isub (pc := 17) C dX9_arm_17 ?_
    refine mg_iconst (pc := 18) C dX9_arm_18 (v := 1) (by decide) ?_
    refine mg_iadd (pc := 19) C dX9_arm_19 ?_
    refine mg_goto (pc := 20) (tgt := 39) C dX9_arm_20 (by decide) ?_
    obtain rfl := Option.some.inj hf
    exact E _ _ dX9_arm_39
abbrev w_X9_edgeDepth (k : mg_K) (a_t a_t_s a_t_past a_t_aside a_t_text a_t_told a_t_bottoms a_t_planned : Nat) (v_t_pasts : Int32) (v_t_typed : Int32) (v_t_at : Int32) (v_t_kind : Int32) (v_t_from : Int32) (v_t_value : Int32) (v_t_planLength : Int32) (v_t_planAmount : Int32) (v_t_s : Nat → Int32) : va_W := [(a_t, .inr (9, [.ref a_t_s, .ref a_t_past, .ref a_t_aside, .int v_t_pasts, .ref a_t_text, .int v_t_typed, .int v_t_at, .int v_t_kind, .int v_t_from, .int v_t_value, .ref a_t_told, .ref a_t_bottoms, .ref a_t_planned, .int v_t_planLength, .int v_t_planAmount])), (a_t_s, .inl (k.2.1, 227, .inl v_t_s))]
def f_X9_edgeDepth (v_t_s : Nat → Int32) (x1 : Int32) : Option (Int32) := (f_X9_arm v_t_s x1 0).bind (fun q1 => (f_X9_arm v_t_s x1 1).bind (fun q3 => if 0 ≤ (((v_t_s 3) * q1) + ((v_t_s 4) * q3)) then (if 0 ≤ ((v_t_s 2) + ((((v_t_s 3) * q1) + ((v_t_s 4) * q3)) / 2)) then (some ((v_t_s 2) + ((((v_t_s 3) * q1) + ((v_t_s 4) * q3)) / 2))) else (some 0)) else (if ((((v_t_s 3) * q1) + ((v_t_s 4) * q3)) - (((v_t_s 3) * q1) + ((v_t_s 4) * q3)) / 2 * 2) = 0 then (if 0 ≤ ((v_t_s 2) + ((((v_t_s 3) * q1) + ((v_t_s 4) * q3)) / 2)) then (some ((v_t_s 2) + ((((v_t_s 3) * q1) + ((v_t_s 4) * q3)) / 2))) else (some 0)) else (if 0 ≤ ((v_t_s 2) + (((((v_t_s 3) * q1) + ((v_t_s 4) * q3)) / 2) - 1)) then (some ((v_t_s 2) + (((((v_t_s 3) * q1) + ((v_t_s 4) * q3)) / 2) - 1))) else (some 0)))))
theorem Y_X9_edgeDepth : mg_Y yX9_edgeDepth cX9_edgeDepth 4 (some .int) 1 := ⟨wm_1087, wp_45, wm_11, wm_1088, ⟨by decide +kernel, by decide +kernel, by decide +kernel⟩, by decide⟩
set_option maxRecDepth 100000 in
set_option maxHeartbeats 4000000 in
theorem c_X9_edgeDepth (l : Launch) (k : mg_K) (a_t a_t_s a_t_past a_t_aside a_t_text a_t_told a_t_bottoms a_t_planned : Nat) (v_t_pasts : Int32) (v_t_typed : Int32) (v_t_at : Int32) (v_t_kind : Int32) (v_t_from : Int32) (v_t_value : Int32) (v_t_planLength : Int32) (v_t_planAmount : Int32) (v_t_s : Nat → Int32) (x1 : Int32) (q : Int32) (hf : f_X9_edgeDepth v_t_s x1 = some q) : mg_M l yX9_edgeDepth cX9_edgeDepth 4 (some .int) 2 k [.ref a_t, .int x1] (w_X9_edgeDepth k a_t a_t_s a_t_past a_t_aside a_t_text a_t_told a_t_bottoms a_t_planned v_t_pasts v_t_typed v_t_at v_t_kind v_t_from v_t_value v_t_planLength v_t_planAmount v_t_s) (w_X9_edgeDepth k a_t a_t_s a_t_past a_t_aside a_t_text a_t_told a_t_bottoms a_t_planned v_t_pasts v_t_typed v_t_at v_t_kind v_t_from v_t_value v_t_planLength v_t_planAmount v_t_s) (some (.int q)) := by
  refine mg_Mi RX9 [(0, .ref a_t), (1, .int x1)] (by decide +kernel) rfl rfl (Nat.le_of_ble_eq_true rfl) ?_
  intro z A Q hl C E
  subst hl
  unfold f_X9_edgeDepth at hf
  refine mg_aload_n (pc := 0) C 0 dX9_edgeDepth_0 rfl rfl ?_
  refine mg_get (pc := 1) C 0 rfl rfl inX9 0 (by decide) wm_874 rfl rfl dX9_edgeDepth_1 ?_
  refine mg_iconst (pc := 4) C dX9_edgeDepth_4 (v := 3) (by decide) ?_
  refine mg_ialdK (pc := 5) C 1 3 rfl dX9_edgeDepth_5 (by decide) (by decide) ?_
  refine mg_aload_n (pc := 6) C 0 dX9_edgeDepth_6 rfl rfl ?_
  refine mg_iload_n (pc := 7) C 1 dX9_edgeDepth_7 rfl rfl ?_
  refine mg_iconst (pc := 8) C dX9_edgeDepth_8 (v := 0) (by decide) ?_
  obtain ⟨q1, h2, hf⟩ := mg_b hf
  refine mg_callV (pc := 9) C (w2 := w_X9_edgeDepth k a_t a_t_s a_t_past a_t_aside a_t_text a_t_told a_t_bottoms a_t_planned v_t_pasts v_t_typed v_t_at v_t_kind v_t_from v_t_value v_t_planLength v_t_planAmount v_t_s) (c_X9_arm z.2.1 k a_t a_t_s a_t_past a_t_aside a_t_text a_t_told a_t_bottoms a_t_planned v_t_pasts v_t_typed v_t_at v_t_kind v_t_from v_t_value v_t_planLength v_t_planAmount v_t_s x1 0 q1 h2) Y_X9_arm wm_1089 (by decide) rfl 0 rfl rfl rfl [0, 1] rfl (by decide) rfl [some 0, some 1] (by decide) rfl (Nat.le_of_ble_eq_true rfl) rfl dX9_edgeDepth_9 ?_
  refine mg_imul (pc := 12) C dX9_edgeDepth_12 ?_
  refine mg_aload_n (pc := 13) C 0 dX9_edgeDepth_13 rfl rfl ?_
  refine mg_get (pc := 14) C 0 rfl rfl inX9 0 (by decide) wm_874 rfl rfl dX9_edgeDepth_14 ?_
  refine mg_iconst (pc := 17) C dX9_edgeDepth_17 (v := 4) (by decide) ?_
  refine mg_ialdK (pc := 18) C 1 4 rfl dX9_edgeDepth_18 (by decide) (by decide) ?_
  refine mg_aload_n (pc := 19) C 0 dX9_edgeDepth_19 rfl rfl ?_
  refine mg_iload_n (pc := 20) C 1 dX9_edgeDepth_20 rfl rfl ?_
  refine mg_iconst (pc := 21) C dX9_edgeDepth_21 (v := 1) (by decide) ?_
  obtain ⟨q3, h4, hf⟩ := mg_b hf
  refine mg_callV (pc := 22) C (w2 := w_X9_edgeDepth k a_t a_t_s a_t_past a_t_aside a_t_text a_t_told a_t_bottoms a_t_planned v_t_pasts v_t_typed v_t_at v_t_kind v_t_from v_t_value v_t_planLength v_t_planAmount v_t_s) (c_X9_arm z.2.1 k a_t a_t_s a_t_past a_t_aside a_t_text a_t_told a_t_bottoms a_t_planned v_t_pasts v_t_typed v_t_at v_t_kind v_t_from v_t_value v_t_planLength v_t_planAmount v_t_s x1 1 q3 h4) Y_X9_arm wm_1089 (by decide) rfl 0 rfl rfl rfl [0, 1] rfl (by decide) rfl [some 0, some 1] (by decide) rfl (Nat.le_of_ble_eq_true rfl) rfl dX9_edgeDepth_22 ?_
  refine mg_imul (pc := 25) C dX9_edgeDepth_25 ?_
  refine mg_iadd (pc := 26) C dX9_edgeDepth_26 ?_
  refine mg_istore_n (pc := 27) C (lv' := [(2, .int (((v_t_s 3) * q1) + ((v_t_s 4) * q3))), (0, .ref a_t), (1, .int x1)]) dX9_edgeDepth_27 rfl (by decide) rfl ?_
  refine mg_aload_n (pc := 28) C 1 dX9_edgeDepth_28 rfl rfl ?_
  refine mg_get (pc := 29) C 0 rfl rfl inX9 0 (by decide) wm_874 rfl rfl dX9_edgeDepth_29 ?_
  refine mg_iconst (pc := 32) C dX9_edgeDepth_32 (v := 2) (by decide) ?_
  refine mg_ialdK (pc := 33) C 1 2 rfl dX9_edgeDepth_33 (by decide) (by decide) ?_
  refine mg_iload_n (pc := 34) C 0 dX9_edgeDepth_34 rfl rfl ?_
  refine mg_if_ge (pc := 35) (tgt := 52) C dX9_edgeDepth_35 (by decide) hf (fun hf => ?_) (fun hf => ?_)
  · refine mg_iload_n (pc := 52) C 0 dX9_edgeDepth_52 rfl rfl ?_
    refine mg_iconst (pc := 53) C dX9_edgeDepth_53 (v := 2) (by decide) ?_
    refine mg_idiv (pc := 54) C dX9_edgeDepth_54 (by decide) ?_
    refine mg_iadd (pc := 55) C dX9_edgeDepth_55 ?_
    refine mg_istore_n (pc := 56) C (lv' := [(3, .int ((v_t_s 2) + ((((v_t_s 3) * q1) + ((v_t_s 4) * q3)) / 2))), (2, .int (((v_t_s 3) * q1) + ((v_t_s 4) * q3))), (0, .ref a_t), (1, .int x1)]) dX9_edgeDepth_56 rfl (by decide) rfl ?_
    refine mg_iload_n (pc := 57) C 0 dX9_edgeDepth_57 rfl rfl ?_
    refine mg_if_ge (pc := 58) (tgt := 65) C dX9_edgeDepth_58 (by decide) hf (fun hf => ?_) (fun hf => ?_)
    · refine mg_iload_n (pc := 65) C 0 dX9_edgeDepth_65 rfl rfl ?_
      obtain rfl := Option.some.inj hf
      exact E _ _ dX9_edgeDepth_66
    · refine mg_iconst (pc := 61) C dX9_edgeDepth_61 (v := 0) (by decide) ?_
      refine mg_goto (pc := 62) (tgt := 66) C dX9_edgeDepth_62 (by decide) ?_
      obtain rfl := Option.some.inj hf
      exact E _ _ dX9_edgeDepth_66
  · refine mg_iload_n (pc := 38) C 0 dX9_edgeDepth_38 rfl rfl ?_
    refine mg_iconst (pc := 39) C dX9_edgeDepth_39 (v := 2) (by decide) ?_
    refine mg_irem (pc := 40) C dX9_edgeDepth_40 (by decide) ?_
    refine mg_if_eq (pc := 41) (tgt := 52) C dX9_edgeDepth_41 (by decide) hf (fun hf => ?_) (fun hf => ?_)
    · refine mg_iload_n (pc := 52) C 0 dX9_edgeDepth_52 rfl rfl ?_
      refine mg_iconst (pc := 53) C dX9_edgeDepth_53 (v := 2) (by decide) ?_
      refine mg_idiv (pc := 54) C dX9_edgeDepth_54 (by decide) ?_
      refine mg_iadd (pc := 55) C dX9_edgeDepth_55 ?_
      refine mg_istore_n (pc := 56) C (lv' := [(3, .int ((v_t_s 2) + ((((v_t_s 3) * q1) + ((v_t_s 4) * q3)) / 2))), (2, .int (((v_t_s 3) * q1) + ((v_t_s 4) * q3))), (0, .ref a_t), (1, .int x1)]) dX9_edgeDepth_56 rfl (by decide) rfl ?_
      refine mg_iload_n (pc := 57) C 0 dX9_edgeDepth_57 rfl rfl ?_
      refine mg_if_ge (pc := 58) (tgt := 65) C dX9_edgeDepth_58 (by decide) hf (fun hf => ?_) (fun hf => ?_)
      · refine mg_iload_n (pc := 65) C 0 dX9_edgeDepth_65 rfl rfl ?_
        obtain rfl := Option.some.inj hf
        exact E _ _ dX9_edgeDepth_66
      · refine mg_iconst (pc := 61) C dX9_edgeDepth_61 (v := 0) (by decide) ?_
        refine mg_goto (pc := 62) (tgt := 66) C dX9_edgeDepth_62 (by decide) ?_
        obtain rfl := Option.some.inj hf
        exact E _ _ dX9_edgeDepth_66
    · refine mg_iload_n (pc := 44) C 0 dX9_edgeDepth_44 rfl rfl ?_
      refine mg_iconst (pc := 45) C dX9_edgeDepth_45 (v := 2) (by decide) ?_
      refine mg_idiv (pc := 46) C dX9_edgeDepth_46 (by decide) ?_
      refine mg_iconst (pc := 47) C dX9_edgeDepth_47 (v := 1) (by decide) ?_
      refine mg_isub (pc := 48) C dX9_edgeDepth_48 ?_
      refine mg_goto (pc := 49) (tgt := 55) C dX9_edgeDepth_49 (by decide) ?_
      refine mg_iadd (pc := 55) C dX9_edgeDepth_55 ?_
      refine mg_istore_n (pc := 56) C (lv' := [(3, .int ((v_t_s 2) + (((((v_t_s 3) * q1) + ((v_t_s 4) * q3)) / 2) - 1))), (2, .int (((v_t_s 3) * q1) + ((v_t_s 4) * q3))), (0, .ref a_t), (1, .int x1)]) dX9_edgeDepth_56 rfl (by decide) rfl ?_
      refine mg_iload_n (pc := 57) C 0 dX9_edgeDepth_57 rfl rfl ?_
      refine mg_if_ge (pc := 58) (tgt := 65) C dX9_edgeDepth_58 (by decide) hf (fun hf => ?_) (fun hf => ?_)
      · refine mg_iload_n (pc := 65) C 0 dX9_edgeDepth_65 rfl rfl ?_
        obtain rfl := Option.some.inj hf
        exact E _ _ dX9_edgeDepth_66
      · refine mg_iconst (pc := 61) C dX9_edgeDepth_61 (v := 0) (by decide) ?_
        refine mg_goto (pc := 62) (tgt := 66) C dX9_edgeDepth_62 (by decide) ?_
        obtain rfl := Option.some.inj hf
        exact E _ _ dX9_edgeDepth_66
abbrev w_X9_support (k : mg_K) (a_t a_t_s a_t_past a_t_aside a_t_text a_t_told a_t_bottoms a_t_planned : Nat) (v_t_pasts : Int32) (v_t_typed : Int32) (v_t_at : Int32) (v_t_kind : Int32) (v_t_from : Int32) (v_t_value : Int32) (v_t_planLength : Int32) (v_t_planAmount : Int32) (v_t_s : Nat → Int32) : va_W := [(a_t, .inr (9, [.ref a_t_s, .ref a_t_past, .ref a_t_aside, .int v_t_pasts, .ref a_t_text, .int v_t_typed, .int v_t_at, .int v_t_kind, .int v_t_from, .int v_t_value, .ref a_t_told, .ref a_t_bottoms, .ref a_t_planned, .int v_t_planLength, .int v_t_planAmount])), (a_t_s, .inl (k.2.1, 227, .inl v_t_s))]
def f_X9_support_L54 (v_t_s : Nat → Int32) (x1 : Int32) (x2 : Int32) : Nat → Int32 → Int32 → Option (Int32 × Int32)
  | 0, _, _ => none
  | n_ + 1, x4, x5 => if (v_t_s 33) ≤ x5 then (some ((x4, x5))) else (if mg_ix (34 + (3 * x5)) 227 = true then (if (v_t_s (Int32.toNatClampNeg (34 + (3 * x5)))) = x1 then (if mg_ix ((34 + (3 * x5)) + 1) 227 = true then (if x2 < (v_t_s (Int32.toNatClampNeg ((34 + (3 * x5)) + 1))) then (f_X9_support_L54 v_t_s x1 x2 n_ (x4 + 0) (x5 + 1)) else (if mg_ix ((34 + (3 * x5)) + 2) 227 = true then (f_X9_support_L54 v_t_s x1 x2 n_ (x4 + (4 * (v_t_s (Int32.toNatClampNeg ((34 + (3 * x5)) + 2))))) (x5 + 1)) else none)) else none) else (f_X9_support_L54 v_t_s x1 x2 n_ (x4 + 0) (x5 + 1))) else none)
def f_X9_support_J48 (fuel : Nat) (v_t_s : Nat → Int32) (x1 : Int32) (x2 : Int32) (y0 : Int32) (y1 : Int32) : Option (Int32) := (f_X9_support_L54 v_t_s x1 x2 fuel (y0 * y1) 0).bind (fun q7 => some q7.1)
def f_X9_support (fuel : Nat) (v_t_s : Nat → Int32) (x1 : Int32) : Option (Int32) := (f_X9_edgeDepth v_t_s x1).bind (fun q1 => (f_X9_wellBeside v_t_s x1).bind (fun q3 => if mg_ix (117 + q3) 227 = true then ((f_X9_groundAt fuel v_t_s q1 0).bind (fun q5 => if 0 ≤ ((q1 - (v_t_s (Int32.toNatClampNeg (117 + q3)))) + 2) then (if ((q1 - (v_t_s (Int32.toNatClampNeg (117 + q3)))) + 2) ≤ 4 then (f_X9_support_J48 fuel v_t_s x1 q1 q5 ((q1 - (v_t_s (Int32.toNatClampNeg (117 + q3)))) + 2)) else (f_X9_support_J48 fuel v_t_s x1 q1 q5 4)) else (f_X9_support_J48 fuel v_t_s x1 q1 q5 0))) else none))
theorem Y_X9_support : mg_Y yX9_support cX9_support 6 (some .int) 1 := ⟨wm_1095, wp_47, wm_11, wm_1096, ⟨by decide +kernel, by decide +kernel, by decide +kernel⟩, by decide⟩
set_option maxRecDepth 100000 in
set_option maxHeartbeats 4000000 in
theorem c_X9_support (l : Launch) (k : mg_K) (a_t a_t_s a_t_past a_t_aside a_t_text a_t_told a_t_bottoms a_t_planned : Nat) (v_t_pasts : Int32) (v_t_typed : Int32) (v_t_at : Int32) (v_t_kind : Int32) (v_t_from : Int32) (v_t_value : Int32) (v_t_planLength : Int32) (v_t_planAmount : Int32) (v_t_s : Nat → Int32) (fuel : Nat) (x1 : Int32) (q : Int32) (hf : f_X9_support fuel v_t_s x1 = some q) : mg_M l yX9_support cX9_support 6 (some .int) 3 k [.ref a_t, .int x1] (w_X9_support k a_t a_t_s a_t_past a_t_aside a_t_text a_t_told a_t_bottoms a_t_planned v_t_pasts v_t_typed v_t_at v_t_kind v_t_from v_t_value v_t_planLength v_t_planAmount v_t_s) (w_X9_support k a_t a_t_s a_t_past a_t_aside a_t_text a_t_told a_t_bottoms a_t_planned v_t_pasts v_t_typed v_t_at v_t_kind v_t_from v_t_value v_t_planLength v_t_planAmount v_t_s) (some (.int q)) := by
  refine mg_Mi RX9 [(0, .ref a_t), (1, .int x1)] (by decide +kernel) rfl rfl (Nat.le_of_ble_eq_true rfl) ?_
  intro z A Q hl C E
  subst hl
  unfold f_X9_support at hf
  have L54 : ∀ (x1 : Int32) (x2 : Int32) (n_ : Nat) (x4 : Int32) (x5 : Int32) (q_ : Int32 × Int32), f_X9_support_L54 v_t_s x1 x2 n_ x4 x5 = some q_ → (mg z k A 6 0 0 Q (w_X9_support k a_t a_t_s a_t_past a_t_aside a_t_text a_t_told a_t_bottoms a_t_planned v_t_pasts v_t_typed v_t_at v_t_kind v_t_from v_t_value v_t_planLength v_t_planAmount v_t_s) [(4, .int q_.1)] 131 []) → mg z k A 6 0 0 Q (w_X9_support k a_t a_t_s a_t_past a_t_aside a_t_text a_t_told a_t_bottoms a_t_planned v_t_pasts v_t_typed v_t_at v_t_kind v_t_from v_t_value v_t_planLength v_t_planAmount v_t_s) [(0, .ref a_t), (1, .int x1), (2, .int x2), (4, .int x4), (5, .int x5)] 54 [] := by
    intro x1 x2 n_
    induction n_ with
    | zero => intro x4 x5 q_ hf; exact mg_no (show none = some q_ from hf)
    | succ n_ ih =>
      intro x4 x5 q_ hf X0
      rw [f_X9_support_L54] at hf
      refine mg_iload (pc := 54) C 4 dX9_support_54 rfl ?_
      refine mg_aload_n (pc := 56) C 0 dX9_support_56 rfl rfl ?_
      refine mg_get (pc := 57) C 0 rfl rfl inX9 0 (by decide) wm_874 rfl rfl dX9_support_57 ?_
      refine mg_bipush (pc := 60) C dX9_support_60 (v := 33) (by decide) ?_
      refine mg_ialdK (pc := 62) C 1 33 rfl dX9_support_62 (by decide) (by decide) ?_
      refine mg_icmp_ge (pc := 63) (tgt := 131) C dX9_support_63 (by decide) hf (fun hf => ?_) (fun hf => ?_)
      · obtain rfl := Option.some.inj hf
        refine mg_lv [3] rfl ?_
        exact X0
      · refine mg_iload (pc := 66) C 3 dX9_support_66 rfl ?_
        refine mg_aload_n (pc := 68) C 0 dX9_support_68 rfl rfl ?_
        refine mg_get (pc := 69) C 0 rfl rfl inX9 0 (by decide) wm_874 rfl rfl dX9_support_69 ?_
        refine mg_bipush (pc := 72) C dX9_support_72 (v := 34) (by decide) ?_
        refine mg_iconst (pc := 74) C dX9_support_74 (v := 3) (by decide) ?_
        refine mg_iload (pc := 75) C 4 dX9_support_75 rfl ?_
        refine mg_imul (pc := 77) C dX9_support_77 ?_
        refine mg_iadd (pc := 78) C dX9_support_78 ?_
        refine mg_iald (pc := 79) C 1 rfl dX9_support_79 hf (fun hf => ?_)
        refine mg_iload_n (pc := 80) C 1 dX9_support_80 rfl rfl ?_
        refine mg_icmp_ne (pc := 81) (tgt := 121) C dX9_support_81 (by decide) hf (fun hf => ?_) (fun hf => ?_)
        · refine mg_iconst (pc := 121) C dX9_support_121 (v := 0) (by decide) ?_
          refine mg_iadd (pc := 122) C dX9_support_122 ?_
          refine mg_istore (pc := 123) C (lv' := [(4, .int (x4 + 0)), (0, .ref a_t), (1, .int x1), (2, .int x2), (5, .int x5)]) dX9_support_123 (by decide) rfl ?_
          refine mg_iinc (pc := 125) C (c := 1) (lv' := [(5, .int (x5 + 1)), (4, .int (x4 + 0)), (0, .ref a_t), (1, .int x1), (2, .int x2)]) 4 dX9_support_125 rfl (by decide) (by decide) rfl ?_
          refine mg_goto (pc := 128) (tgt := 54) C dX9_support_128 (by decide) ?_
          refine mg_lv [2, 3, 4, 1, 0] rfl ?_
          exact ih (x4 + 0) (x5 + 1) _ hf X0
        · refine mg_aload_n (pc := 84) C 0 dX9_support_84 rfl rfl ?_
          refine mg_get (pc := 85) C 0 rfl rfl inX9 0 (by decide) wm_874 rfl rfl dX9_support_85 ?_
          refine mg_bipush (pc := 88) C dX9_support_88 (v := 34) (by decide) ?_
          refine mg_iconst (pc := 90) C dX9_support_90 (v := 3) (by decide) ?_
          refine mg_iload (pc := 91) C 4 dX9_support_91 rfl ?_
          refine mg_imul (pc := 93) C dX9_support_93 ?_
          refine mg_iadd (pc := 94) C dX9_support_94 ?_
          refine mg_iconst (pc := 95) C dX9_support_95 (v := 1) (by decide) ?_
          refine mg_iadd (pc := 96) C dX9_support_96 ?_
          refine mg_iald (pc := 97) C 1 rfl dX9_support_97 hf (fun hf => ?_)
          refine mg_iload_n (pc := 98) C 2 dX9_support_98 rfl rfl ?_
          refine mg_icmp_gt (pc := 99) (tgt := 121) C dX9_support_99 (by decide) hf (fun hf => ?_) (fun hf => ?_)
          · refine mg_iconst (pc := 121) C dX9_support_121 (v := 0) (by decide) ?_
            refine mg_iadd (pc := 122) C dX9_support_122 ?_
            refine mg_istore (pc := 123) C (lv' := [(4, .int (x4 + 0)), (0, .ref a_t), (1, .int x1), (2, .int x2), (5, .int x5)]) dX9_support_123 (by decide) rfl ?_
            refine mg_iinc (pc := 125) C (c := 1) (lv' := [(5, .int (x5 + 1)), (4, .int (x4 + 0)), (0, .ref a_t), (1, .int x1), (2, .int x2)]) 4 dX9_support_125 rfl (by decide) (by decide) rfl ?_
            refine mg_goto (pc := 128) (tgt := 54) C dX9_support_128 (by decide) ?_
            refine mg_lv [2, 3, 4, 1, 0] rfl ?_
            exact ih (x4 + 0) (x5 + 1) _ hf X0
          · refine mg_iconst (pc := 102) C dX9_support_102 (v := 4) (by decide) ?_
            refine mg_aload_n (pc := 103) C 0 dX9_support_103 rfl rfl ?_
            refine mg_get (pc := 104) C 0 rfl rfl inX9 0 (by decide) wm_874 rfl rfl dX9_support_104 ?_
            refine mg_bipush (pc := 107) C dX9_support_107 (v := 34) (by decide) ?_
            refine mg_iconst (pc := 109) C dX9_support_109 (v := 3) (by decide) ?_
            refine mg_iload (pc := 110) C 4 dX9_support_110 rfl ?_
            refine mg_imul (pc := 112) C dX9_support_112 ?_
            refine mg_iadd (pc := 113) C dX9_support_113 ?_
            refine mg_iconst (pc := 114) C dX9_support_114 (v := 2) (by decide) ?_
            refine mg_iadd (pc := 115) C dX9_support_115 ?_
            refine mg_iald (pc := 116) C 1 rfl dX9_support_116 hf (fun hf => ?_)
            refine mg_imul (pc := 117) C dX9_support_117 ?_
            refine mg_goto (pc := 118) (tgt := 122) C dX9_support_118 (by decide) ?_
            refine mg_iadd (pc := 122) C dX9_support_122 ?_
            refine mg_istore (pc := 123) C (lv' := [(4, .int (x4 + (4 * (v_t_s (Int32.toNatClampNeg ((34 + (3 * x5)) + 2)))))), (0, .ref a_t), (1, .int x1), (2, .int x2), (5, .int x5)]) dX9_support_123 (by decide) rfl ?_
            refine mg_iinc (pc := 125) C (c := 1) (lv' := [(5, .int (x5 + 1)), (4, .int (x4 + (4 * (v_t_s (Int32.toNatClampNeg ((34 + (3 * x5)) + 2)))))), (0, .ref a_t), (1, .int x1), (2, .int x2)]) 4 dX9_support_125 rfl (by decide) (by decide) rfl ?_
            refine mg_goto (pc := 128) (tgt := 54) C dX9_support_128 (by decide) ?_
            refine mg_lv [2, 3, 4, 1, 0] rfl ?_
            exact ih (x4 + (4 * (v_t_s (Int32.toNatClampNeg ((34 + (3 * x5)) + 2))))) (x5 + 1) _ hf X0
  have J48 : ∀ (x1 : Int32) (x2 : Int32) (y0 : Int32) (y1 : Int32), f_X9_support_J48 fuel v_t_s x1 x2 y0 y1 = some q → mg z k A 6 0 0 Q (w_X9_support k a_t a_t_s a_t_past a_t_aside a_t_text a_t_told a_t_bottoms a_t_planned v_t_pasts v_t_typed v_t_at v_t_kind v_t_from v_t_value v_t_planLength v_t_planAmount v_t_s) [(0, .ref a_t), (1, .int x1), (2, .int x2)] 48 [.int y1, .int y0] := by
    intro x1 x2 y0 y1 hf
    unfold f_X9_support_J48 at hf
    refine mg_imul (pc := 48) C dX9_support_48 ?_
    refine mg_istore (pc := 49) C (lv' := [(4, .int (y0 * y1)), (0, .ref a_t), (1, .int x1), (2, .int x2)]) dX9_support_49 (by decide) rfl ?_
    refine mg_iconst (pc := 51) C dX9_support_51 (v := 0) (by decide) ?_
    refine mg_istore (pc := 52) C (lv' := [(5, .int 0), (4, .int (y0 * y1)), (0, .ref a_t), (1, .int x1), (2, .int x2)]) dX9_support_52 (by decide) rfl ?_
    obtain ⟨q7, h8, hf⟩ := mg_b hf
    refine mg_lv [2, 3, 4, 1, 0] rfl ?_
    refine L54 x1 x2 fuel (y0 * y1) 0 q7 h8 ?_
    refine mg_iload (pc := 131) C 0 dX9_support_131 rfl ?_
    obtain rfl := Option.some.inj hf
    exact E _ _ dX9_support_133
  refine mg_aload_n (pc := 0) C 0 dX9_support_0 rfl rfl ?_
  refine mg_iload_n (pc := 1) C 1 dX9_support_1 rfl rfl ?_
  obtain ⟨q1, h2, hf⟩ := mg_b hf
  refine mg_callV (pc := 2) C (w2 := w_X9_support k a_t a_t_s a_t_past a_t_aside a_t_text a_t_told a_t_bottoms a_t_planned v_t_pasts v_t_typed v_t_at v_t_kind v_t_from v_t_value v_t_planLength v_t_planAmount v_t_s) (c_X9_edgeDepth z.2.1 k a_t a_t_s a_t_past a_t_aside a_t_text a_t_told a_t_bottoms a_t_planned v_t_pasts v_t_typed v_t_at v_t_kind v_t_from v_t_value v_t_planLength v_t_planAmount v_t_s x1 q1 h2) Y_X9_edgeDepth wm_1085 (by decide) rfl 0 rfl rfl rfl [0, 1] rfl (by decide) rfl [some 0, some 1] (by decide) rfl (Nat.le_of_ble_eq_true rfl) rfl dX9_support_2 ?_
  refine mg_istore_n (pc := 5) C (lv' := [(2, .int q1), (0, .ref a_t), (1, .int x1)]) dX9_support_5 rfl (by decide) rfl ?_
  refine mg_iload_n (pc := 6) C 0 dX9_support_6 rfl rfl ?_
  refine mg_aload_n (pc := 7) C 1 dX9_support_7 rfl rfl ?_
  refine mg_get (pc := 8) C 0 rfl rfl inX9 0 (by decide) wm_874 rfl rfl dX9_support_8 ?_
  refine mg_bipush (pc := 11) C dX9_support_11 (v := 117) (by decide) ?_
  refine mg_aload_n (pc := 13) C 1 dX9_support_13 rfl rfl ?_
  refine mg_iload_n (pc := 14) C 2 dX9_support_14 rfl rfl ?_
  obtain ⟨q3, h4, hf⟩ := mg_b hf
  refine mg_callV (pc := 15) C (w2 := w_X9_support k a_t a_t_s a_t_past a_t_aside a_t_text a_t_told a_t_bottoms a_t_planned v_t_pasts v_t_typed v_t_at v_t_kind v_t_from v_t_value v_t_planLength v_t_planAmount v_t_s) (c_X9_wellBeside z.2.1 k a_t a_t_s a_t_past a_t_aside a_t_text a_t_told a_t_bottoms a_t_planned v_t_pasts v_t_typed v_t_at v_t_kind v_t_from v_t_value v_t_planLength v_t_planAmount v_t_s x1 q3 h4) Y_X9_wellBeside wm_1097 (by decide) rfl 0 rfl rfl rfl [0, 1] rfl (by decide) rfl [some 0, some 1] (by decide) rfl (Nat.le_of_ble_eq_true rfl) rfl dX9_support_15 ?_
  refine mg_iadd (pc := 18) C dX9_support_18 ?_
  refine mg_iald (pc := 19) C 1 rfl dX9_support_19 hf (fun hf => ?_)
  refine mg_isub (pc := 20) C dX9_support_20 ?_
  refine mg_iconst (pc := 21) C dX9_support_21 (v := 2) (by decide) ?_
  refine mg_iadd (pc := 22) C dX9_support_22 ?_
  refine mg_istore_n (pc := 23) C (lv' := [(3, .int ((q1 - (v_t_s (Int32.toNatClampNeg (117 + q3)))) + 2)), (2, .int q1), (0, .ref a_t), (1, .int x1)]) dX9_support_23 rfl (by decide) rfl ?_
  refine mg_aload_n (pc := 24) C 2 dX9_support_24 rfl rfl ?_
  refine mg_iload_n (pc := 25) C 1 dX9_support_25 rfl rfl ?_
  refine mg_iconst (pc := 26) C dX9_support_26 (v := 0) (by decide) ?_
  obtain ⟨q5, h6, hf⟩ := mg_b hf
  refine mg_callV (pc := 27) C (w2 := w_X9_support k a_t a_t_s a_t_past a_t_aside a_t_text a_t_told a_t_bottoms a_t_planned v_t_pasts v_t_typed v_t_at v_t_kind v_t_from v_t_value v_t_planLength v_t_planAmount v_t_s) (c_X9_groundAt z.2.1 k a_t a_t_s a_t_past a_t_aside a_t_text a_t_told a_t_bottoms a_t_planned v_t_pasts v_t_typed v_t_at v_t_kind v_t_from v_t_value v_t_planLength v_t_planAmount v_t_s fuel q1 0 q5 h6) Y_X9_groundAt wm_1041 (by decide) rfl 0 rfl rfl rfl [0, 1] rfl (by decide) rfl [some 0, some 1] (by decide) rfl (Nat.le_of_ble_eq_true rfl) rfl dX9_support_27 ?_
  refine mg_iload_n (pc := 30) C 0 dX9_support_30 rfl rfl ?_
  refine mg_if_ge (pc := 31) (tgt := 38) C dX9_support_31 (by decide) hf (fun hf => ?_) (fun hf => ?_)
  · refine mg_iload_n (pc := 38) C 0 dX9_support_38 rfl rfl ?_
    refine mg_iconst (pc := 39) C dX9_support_39 (v := 4) (by decide) ?_
    refine mg_icmp_le (pc := 40) (tgt := 47) C dX9_support_40 (by decide) hf (fun hf => ?_) (fun hf => ?_)
    · refine mg_iload_n (pc := 47) C 0 dX9_support_47 rfl rfl ?_
      refine mg_lv [2, 3, 1] rfl ?_
      exact J48 x1 q1 q5 ((q1 - (v_t_s (Int32.toNatClampNeg (117 + q3)))) + 2) hf
    · refine mg_iconst (pc := 43) C dX9_support_43 (v := 4) (by decide) ?_
      refine mg_goto (pc := 44) (tgt := 48) C dX9_support_44 (by decide) ?_
      refine mg_lv [2, 3, 1] rfl ?_
      exact J48 x1 q1 q5 4 hf
  · refine mg_iconst (pc := 34) C dX9_support_34 (v := 0) (by decide) ?_
    refine mg_goto (pc := 35) (tgt := 48) C dX9_support_35 (by decide) ?_
    refine mg_lv [2, 3, 1] rfl ?_
    exact J48 x1 q1 q5 0 hf
abbrev w_X9_skin (k : mg_K) (a_t a_t_s a_t_past a_t_aside a_t_text a_t_told a_t_bottoms a_t_planned : Nat) (v_t_pasts : Int32) (v_t_typed : Int32) (v_t_at : Int32) (v_t_kind : Int32) (v_t_from : Int32) (v_t_value : Int32) (v_t_planLength : Int32) (v_t_planAmount : Int32) (v_t_s : Nat → Int32) : va_W := [(a_t, .inr (9, [.ref a_t_s, .ref a_t_past, .ref a_t_aside, .int v_t_pasts, .ref a_t_text, .int v_t_typed, .int v_t_at, .int v_t_kind, .int v_t_from, .int v_t_value, .ref a_t_told, .ref a_t_bottoms, .ref a_t_planned, .int v_t_planLength, .int v_t_planAmount])), (a_t_s, .inl (k.2.1, 227, .inl v_t_s))]
def f_X9_skin_L5 (v_t_s : Nat → Int32) (x1 : Int32) : Nat → Int32 → Int32 → Option (Int32 × Int32)
  | 0, _, _ => none
  | n_ + 1, x3, x4 => if 4 ≤ x4 then (some ((x3, x4))) else ((f_X9_isOn v_t_s x1 x4).bind (fun q1 => if q1 = 0 then (f_X9_skin_L5 v_t_s x1 n_ x3 (x4 + 1)) else (if mg_ix (64 + x4) 227 = true then (if (v_t_s (Int32.toNatClampNeg (64 + x4))) = 1 then (f_X9_skin_L5 v_t_s x1 n_ 1 (x4 + 1)) else (f_X9_skin_L5 v_t_s x1 n_ x3 (x4 + 1))) else none)))
def f_X9_skin (fuel : Nat) (v_t_s : Nat → Int32) (x1 : Int32) (x2 : Int32) : Option (Int32) := (f_X9_skin_L5 v_t_s x1 fuel 4 0).bind (fun q3 => (f_X9_frictions fuel v_t_s x2).bind (fun q5 => some (q3.1 * q5)))
theorem Y_X9_skin : mg_Y yX9_skin cX9_skin 5 (some .int) 2 := ⟨wm_1106, wp_49, wm_11, wm_1107, ⟨by decide +kernel, by decide +kernel, by decide +kernel⟩, by decide⟩
set_option maxRecDepth 100000 in
set_option maxHeartbeats 4000000 in
theorem c_X9_skin (l : Launch) (k : mg_K) (a_t a_t_s a_t_past a_t_aside a_t_text a_t_told a_t_bottoms a_t_planned : Nat) (v_t_pasts : Int32) (v_t_typed : Int32) (v_t_at : Int32) (v_t_kind : Int32) (v_t_from : Int32) (v_t_value : Int32) (v_t_planLength : Int32) (v_t_planAmount : Int32) (v_t_s : Nat → Int32) (fuel : Nat) (x1 : Int32) (x2 : Int32) (q : Int32) (hf : f_X9_skin fuel v_t_s x1 x2 = some q) : mg_M l yX9_skin cX9_skin 5 (some .int) 2 k [.ref a_t, .int x1, .int x2] (w_X9_skin k a_t a_t_s a_t_past a_t_aside a_t_text a_t_told a_t_bottoms a_t_planned v_t_pasts v_t_typed v_t_at v_t_kind v_t_from v_t_value v_t_planLength v_t_planAmount v_t_s) (w_X9_skin k a_t a_t_s a_t_past a_t_aside a_t_text a_t_told a_t_bottoms a_t_planned v_t_pasts v_t_typed v_t_at v_t_kind v_t_from v_t_value v_t_planLength v_t_planAmount v_t_s) (some (.int q)) := by
  refine mg_Mi RX9 [(0, .ref a_t), (1, .int x1), (2, .int x2)] (by decide +kernel) rfl rfl (Nat.le_of_ble_eq_true rfl) ?_
  intro z A Q hl C E
  subst hl
  unfold f_X9_skin at hf
  have L5 : ∀ (x1 : Int32) (x2 : Int32) (n_ : Nat) (x3 : Int32) (x4 : Int32) (q_ : Int32 × Int32), f_X9_skin_L5 v_t_s x1 n_ x3 x4 = some q_ → (mg z k A 5 0 0 Q (w_X9_skin k a_t a_t_s a_t_past a_t_aside a_t_text a_t_told a_t_bottoms a_t_planned v_t_pasts v_t_typed v_t_at v_t_kind v_t_from v_t_value v_t_planLength v_t_planAmount v_t_s) [(0, .ref a_t), (2, .int x2), (3, .int q_.1)] 47 []) → mg z k A 5 0 0 Q (w_X9_skin k a_t a_t_s a_t_past a_t_aside a_t_text a_t_told a_t_bottoms a_t_planned v_t_pasts v_t_typed v_t_at v_t_kind v_t_from v_t_value v_t_planLength v_t_planAmount v_t_s) [(0, .ref a_t), (1, .int x1), (2, .int x2), (3, .int x3), (4, .int x4)] 5 [] := by
    intro x1 x2 n_
    induction n_ with
    | zero => intro x3 x4 q_ hf; exact mg_no (show none = some q_ from hf)
    | succ n_ ih =>
      intro x3 x4 q_ hf X0
      rw [f_X9_skin_L5] at hf
      refine mg_iload (pc := 5) C 4 dX9_skin_5 rfl ?_
      refine mg_iconst (pc := 7) C dX9_skin_7 (v := 4) (by decide) ?_
      refine mg_icmp_ge (pc := 8) (tgt := 47) C dX9_skin_8 (by decide) hf (fun hf => ?_) (fun hf => ?_)
      · obtain rfl := Option.some.inj hf
        refine mg_lv [0, 2, 3] rfl ?_
        exact X0
      · refine mg_aload_n (pc := 11) C 0 dX9_skin_11 rfl rfl ?_
        refine mg_iload_n (pc := 12) C 1 dX9_skin_12 rfl rfl ?_
        refine mg_iload (pc := 13) C 4 dX9_skin_13 rfl ?_
        obtain ⟨q1, h2, hf⟩ := mg_b hf
        refine mg_callV (pc := 15) C (w2 := w_X9_skin k a_t a_t_s a_t_past a_t_aside a_t_text a_t_told a_t_bottoms a_t_planned v_t_pasts v_t_typed v_t_at v_t_kind v_t_from v_t_value v_t_planLength v_t_planAmount v_t_s) (c_X9_isOn z.2.1 k a_t a_t_s a_t_past a_t_aside a_t_text a_t_told a_t_bottoms a_t_planned v_t_pasts v_t_typed v_t_at v_t_kind v_t_from v_t_value v_t_planLength v_t_planAmount v_t_s x1 x4 q1 h2) Y_X9_isOn wm_1073 (by decide) rfl 0 rfl rfl rfl [0, 1] rfl (by decide) rfl [some 0, some 1] (by decide) rfl (Nat.le_of_ble_eq_true rfl) rfl dX9_skin_15 ?_
        refine mg_if_eq (pc := 18) (tgt := 39) C dX9_skin_18 (by decide) hf (fun hf => ?_) (fun hf => ?_)
        · refine mg_iload_n (pc := 39) C 3 dX9_skin_39 rfl rfl ?_
          refine mg_istore_n (pc := 40) C (lv' := [(3, .int x3), (0, .ref a_t), (1, .int x1), (2, .int x2), (4, .int x4)]) dX9_skin_40 rfl (by decide) rfl ?_
          refine mg_iinc (pc := 41) C (c := 1) (lv' := [(4, .int (x4 + 1)), (3, .int x3), (0, .ref a_t), (1, .int x1), (2, .int x2)]) 4 dX9_skin_41 rfl (by decide) (by decide) rfl ?_
          refine mg_goto (pc := 44) (tgt := 5) C dX9_skin_44 (by decide) ?_
          refine mg_lv [2, 3, 4, 1, 0] rfl ?_
          exact ih x3 (x4 + 1) _ hf X0
        · refine mg_aload_n (pc := 21) C 0 dX9_skin_21 rfl rfl ?_
          refine mg_get (pc := 22) C 0 rfl rfl inX9 0 (by decide) wm_874 rfl rfl dX9_skin_22 ?_
          refine mg_bipush (pc := 25) C dX9_skin_25 (v := 64) (by decide) ?_
          refine mg_iload (pc := 27) C 4 dX9_skin_27 rfl ?_
          refine mg_iadd (pc := 29) C dX9_skin_29 ?_
          refine mg_iald (pc := 30) C 1 rfl dX9_skin_30 hf (fun hf => ?_)
          refine mg_iconst (pc := 31) C dX9_skin_31 (v := 1) (by decide) ?_
          refine mg_icmp_ne (pc := 32) (tgt := 39) C dX9_skin_32 (by decide) hf (fun hf => ?_) (fun hf => ?_)
          · refine mg_iload_n (pc := 39) C 3 dX9_skin_39 rfl rfl ?_
            refine mg_istore_n (pc := 40) C (lv' := [(3, .int x3), (0, .ref a_t), (1, .int x1), (2, .int x2), (4, .int x4)]) dX9_skin_40 rfl (by decide) rfl ?_
            refine mg_iinc (pc := 41) C (c := 1) (lv' := [(4, .int (x4 + 1)), (3, .int x3), (0, .ref a_t), (1, .int x1), (2, .int x2)]) 4 dX9_skin_41 rfl (by decide) (by decide) rfl ?_
            refine mg_goto (pc := 44) (tgt := 5) C dX9_skin_44 (by decide) ?_
            refine mg_lv [2, 3, 4, 1, 0] rfl ?_
            exact ih x3 (x4 + 1) _ hf X0
          · refine mg_iconst (pc := 35) C dX9_skin_35 (v := 1) (by decide) ?_
            refine mg_goto (pc := 36) (tgt := 40) C dX9_skin_36 (by decide) ?_
            refine mg_istore_n (pc := 40) C (lv' := [(3, .int 1), (0, .ref a_t), (1, .int x1), (2, .int x2), (4, .int x4)]) dX9_skin_40 rfl (by decide) rfl ?_
            refine mg_iinc (pc := 41) C (c := 1) (lv' := [(4, .int (x4 + 1)), (3, .int 1), (0, .ref a_t), (1, .int x1), (2, .int x2)]) 4 dX9_skin_41 rfl (by decide) (by decide) rfl ?_
            refine mg_goto (pc := 44) (tgt := 5) C dX9_skin_44 (by decide) ?_
            refine mg_lv [2, 3, 4, 1, 0] rfl ?_
            exact ih 1 (x4 + 1) _ hf X0
  refine mg_iconst (pc := 0) C dX9_skin_0 (v := 4) (by decide) ?_
  refine mg_istore_n (pc := 1) C (lv' := [(3, .int 4), (0, .ref a_t), (1, .int x1), (2, .int x2)]) dX9_skin_1 rfl (by decide) rfl ?_
  refine mg_iconst (pc := 2) C dX9_skin_2 (v := 0) (by decide) ?_
  refine mg_istore (pc := 3) C (lv' := [(4, .int 0), (3, .int 4), (0, .ref a_t), (1, .int x1), (2, .int x2)]) dX9_skin_3 (by decide) rfl ?_
  obtain ⟨q3, h4, hf⟩ := mg_b hf
  refine mg_lv [2, 3, 4, 1, 0] rfl ?_
  refine L5 x1 x2 fuel 4 0 q3 h4 ?_
  refine mg_iload_n (pc := 47) C 2 dX9_skin_47 rfl rfl ?_
  refine mg_aload_n (pc := 48) C 0 dX9_skin_48 rfl rfl ?_
  refine mg_iload_n (pc := 49) C 1 dX9_skin_49 rfl rfl ?_
  obtain ⟨q5, h6, hf⟩ := mg_b hf
  refine mg_callV (pc := 50) C (w2 := w_X9_skin k a_t a_t_s a_t_past a_t_aside a_t_text a_t_told a_t_bottoms a_t_planned v_t_pasts v_t_typed v_t_at v_t_kind v_t_from v_t_value v_t_planLength v_t_planAmount v_t_s) (c_X9_frictions z.2.1 k a_t a_t_s a_t_past a_t_aside a_t_text a_t_told a_t_bottoms a_t_planned v_t_pasts v_t_typed v_t_at v_t_kind v_t_from v_t_value v_t_planLength v_t_planAmount v_t_s fuel x2 q5 h6) Y_X9_frictions wm_1108 (by decide) rfl 0 rfl rfl rfl [0, 1] rfl (by decide) rfl [some 0, some 1] (by decide) rfl (Nat.le_of_ble_eq_true rfl) rfl dX9_skin_50 ?_
  refine mg_imul (pc := 53) C dX9_skin_53 ?_
  obtain rfl := Option.some.inj hf
  exact E _ _ dX9_skin_54
abbrev w_X9_buoyancy (k : mg_K) (a_t a_t_s a_t_past a_t_aside a_t_text a_t_told a_t_bottoms a_t_planned : Nat) (v_t_pasts : Int32) (v_t_typed : Int32) (v_t_at : Int32) (v_t_kind : Int32) (v_t_from : Int32) (v_t_value : Int32) (v_t_planLength : Int32) (v_t_planAmount : Int32) (v_t_s : Nat → Int32) : va_W := [(a_t, .inr (9, [.ref a_t_s, .ref a_t_past, .ref a_t_aside, .int v_t_pasts, .ref a_t_text, .int v_t_typed, .int v_t_at, .int v_t_kind, .int v_t_from, .int v_t_value, .ref a_t_told, .ref a_t_bottoms, .ref a_t_planned, .int v_t_planLength, .int v_t_planAmount])), (a_t_s, .inl (k.2.1, 227, .inl v_t_s))]
def f_X9_buoyancy (v_t_s : Nat → Int32) (x1 : Int32) : Option (Int32) := if x1 ≤ (v_t_s 6) then (some 0) else (some (x1 - (v_t_s 6)))
theorem Y_X9_buoyancy : mg_Y yX9_buoyancy cX9_buoyancy 2 (some .int) 1 := ⟨wm_1114, wp_51, wm_11, wm_1115, ⟨by decide +kernel, by decide +kernel, by decide +kernel⟩, by decide⟩
set_option maxRecDepth 100000 in
set_option maxHeartbeats 4000000 in
theorem c_X9_buoyancy (l : Launch) (k : mg_K) (a_t a_t_s a_t_past a_t_aside a_t_text a_t_told a_t_bottoms a_t_planned : Nat) (v_t_pasts : Int32) (v_t_typed : Int32) (v_t_at : Int32) (v_t_kind : Int32) (v_t_from : Int32) (v_t_value : Int32) (v_t_planLength : Int32) (v_t_planAmount : Int32) (v_t_s : Nat → Int32) (x1 : Int32) (q : Int32) (hf : f_X9_buoyancy v_t_s x1 = some q) : mg_M l yX9_buoyancy cX9_buoyancy 2 (some .int) 0 k [.ref a_t, .int x1] (w_X9_buoyancy k a_t a_t_s a_t_past a_t_aside a_t_text a_t_told a_t_bottoms a_t_planned v_t_pasts v_t_typed v_t_at v_t_kind v_t_from v_t_value v_t_planLength v_t_planAmount v_t_s) (w_X9_buoyancy k a_t a_t_s a_t_past a_t_aside a_t_text a_t_told a_t_bottoms a_t_planned v_t_pasts v_t_typed v_t_at v_t_kind v_t_from v_t_value v_t_planLength v_t_planAmount v_t_s) (some (.int q)) := by
  refine mg_Mi RX9 [(0, .ref a_t), (1, .int x1)] (by decide +kernel) rfl rfl (Nat.le_of_ble_eq_true rfl) ?_
  intro z A Q hl C E
  subst hl
  unfold f_X9_buoyancy at hf
  refine mg_iload_n (pc := 0) C 1 dX9_buoyancy_0 rfl rfl ?_
  refine mg_aload_n (pc := 1) C 0 dX9_buoyancy_1 rfl rfl ?_
  refine mg_get (pc := 2) C 0 rfl rfl inX9 0 (by decide) wm_874 rfl rfl dX9_buoyancy_2 ?_
  refine mg_bipush (pc := 5) C dX9_buoyancy_5 (v := 6) (by decide) ?_
  refine mg_ialdK (pc := 7) C 1 6 rfl dX9_buoyancy_7 (by decide) (by decide) ?_
  refine mg_icmp_le (pc := 8) (tgt := 23) C dX9_buoyancy_8 (by decide) hf (fun hf => ?_) (fun hf => ?_)
  · refine mg_iconst (pc := 23) C dX9_buoyancy_23 (v := 0) (by decide) ?_
    obtain rfl := Option.some.inj hf
    exact E _ _ dX9_buoyancy_24
  · refine mg_iload_n (pc := 11) C 1 dX9_buoyancy_11 rfl rfl ?_
    refine mg_aload_n (pc := 12) C 0 dX9_buoyancy_12 rfl rfl ?_
    refine mg_get (pc := 13) C 0 rfl rfl inX9 0 (by decide) wm_874 rfl rfl dX9_buoyancy_13 ?_
    refine mg_bipush (pc := 16) C dX9_buoyancy_16 (v := 6) (by decide) ?_
    refine mg_ialdK (pc := 18) C 1 6 rfl dX9_buoyancy_18 (by decide) (by decide) ?_
    refine mg_isub (pc := 19) C dX9_buoyancy_19 ?_
    refine mg_goto (pc := 20) (tgt := 24) C dX9_buoyancy_20 (by decide) ?_
    obtain rfl := Option.some.inj hf
    exact E _ _ dX9_buoyancy_24
abbrev w_X9_resistance (k : mg_K) (a_t a_t_s a_t_past a_t_aside a_t_text a_t_told a_t_bottoms a_t_planned : Nat) (v_t_pasts : Int32) (v_t_typed : Int32) (v_t_at : Int32) (v_t_kind : Int32) (v_t_from : Int32) (v_t_value : Int32) (v_t_planLength : Int32) (v_t_planAmount : Int32) (v_t_s : Nat → Int32) : va_W := [(a_t, .inr (9, [.ref a_t_s, .ref a_t_past, .ref a_t_aside, .int v_t_pasts, .ref a_t_text, .int v_t_typed, .int v_t_at, .int v_t_kind, .int v_t_from, .int v_t_value, .ref a_t_told, .ref a_t_bottoms, .ref a_t_planned, .int v_t_planLength, .int v_t_planAmount])), (a_t_s, .inl (k.2.1, 227, .inl v_t_s))]
def f_X9_resistance (fuel : Nat) (v_t_s : Nat → Int32) (x1 : Int32) : Option (Int32) := (f_X9_edgeDepth v_t_s x1).bind (fun q1 => (f_X9_support fuel v_t_s x1).bind (fun q3 => (f_X9_skin fuel v_t_s x1 q1).bind (fun q5 => (f_X9_buoyancy v_t_s q1).bind (fun q7 => some ((q3 + q5) + q7)))))
theorem Y_X9_resistance : mg_Y yX9_resistance cX9_resistance 3 (some .int) 1 := ⟨wm_1134, wp_54, wm_11, wm_1135, ⟨by decide +kernel, by decide +kernel, by decide +kernel⟩, by decide⟩
set_option maxRecDepth 100000 in
set_option maxHeartbeats 4000000 in
theorem c_X9_resistance (l : Launch) (k : mg_K) (a_t a_t_s a_t_past a_t_aside a_t_text a_t_told a_t_bottoms a_t_planned : Nat) (v_t_pasts : Int32) (v_t_typed : Int32) (v_t_at : Int32) (v_t_kind : Int32) (v_t_from : Int32) (v_t_value : Int32) (v_t_planLength : Int32) (v_t_planAmount : Int32) (v_t_s : Nat → Int32) (fuel : Nat) (x1 : Int32) (q : Int32) (hf : f_X9_resistance fuel v_t_s x1 = some q) : mg_M l yX9_resistance cX9_resistance 3 (some .int) 4 k [.ref a_t, .int x1] (w_X9_resistance k a_t a_t_s a_t_past a_t_aside a_t_text a_t_told a_t_bottoms a_t_planned v_t_pasts v_t_typed v_t_at v_t_kind v_t_from v_t_value v_t_planLength v_t_planAmount v_t_s) (w_X9_resistance k a_t a_t_s a_t_past a_t_aside a_t_text a_t_told a_t_bottoms a_t_planned v_t_pasts v_t_typed v_t_at v_t_kind v_t_from v_t_value v_t_planLength v_t_planAmount v_t_s) (some (.int q)) := by
  refine mg_Mi RX9 [(0, .ref a_t), (1, .int x1)] (by decide +kernel) rfl rfl (Nat.le_of_ble_eq_true rfl) ?_
  intro z A Q hl C E
  subst hl
  unfold f_X9_resistance at hf
  refine mg_aload_n (pc := 0) C 0 dX9_resistance_0 rfl rfl ?_
  refine mg_iload_n (pc := 1) C 1 dX9_resistance_1 rfl rfl ?_
  obtain ⟨q1, h2, hf⟩ := mg_b hf
  refine mg_callV (pc := 2) C (w2 := w_X9_resistance k a_t a_t_s a_t_past a_t_aside a_t_text a_t_told a_t_bottoms a_t_planned v_t_pasts v_t_typed v_t_at v_t_kind v_t_from v_t_value v_t_planLength v_t_planAmount v_t_s) (c_X9_edgeDepth z.2.1 k a_t a_t_s a_t_past a_t_aside a_t_text a_t_told a_t_bottoms a_t_planned v_t_pasts v_t_typed v_t_at v_t_kind v_t_from v_t_value v_t_planLength v_t_planAmount v_t_s x1 q1 h2) Y_X9_edgeDepth wm_1085 (by decide) rfl 0 rfl rfl rfl [0, 1] rfl (by decide) rfl [some 0, some 1] (by decide) rfl (Nat.le_of_ble_eq_true rfl) rfl dX9_resistance_2 ?_
  refine mg_istore_n (pc := 5) C (lv' := [(2, .int q1), (0, .ref a_t), (1, .int x1)]) dX9_resistance_5 rfl (by decide) rfl ?_
  refine mg_aload_n (pc := 6) C 1 dX9_resistance_6 rfl rfl ?_
  refine mg_iload_n (pc := 7) C 2 dX9_resistance_7 rfl rfl ?_
  obtain ⟨q3, h4, hf⟩ := mg_b hf
  refine mg_callV (pc := 8) C (w2 := w_X9_resistance k a_t a_t_s a_t_past a_t_aside a_t_text a_t_told a_t_bottoms a_t_planned v_t_pasts v_t_typed v_t_at v_t_kind v_t_from v_t_value v_t_planLength v_t_planAmount v_t_s) (c_X9_support z.2.1 k a_t a_t_s a_t_past a_t_aside a_t_text a_t_told a_t_bottoms a_t_planned v_t_pasts v_t_typed v_t_at v_t_kind v_t_from v_t_value v_t_planLength v_t_planAmount v_t_s fuel x1 q3 h4) Y_X9_support wm_1093 (by decide) rfl 0 rfl rfl rfl [0, 1] rfl (by decide) rfl [some 0, some 1] (by decide) rfl (Nat.le_of_ble_eq_true rfl) rfl dX9_resistance_8 ?_
  refine mg_aload_n (pc := 11) C 1 dX9_resistance_11 rfl rfl ?_
  refine mg_iload_n (pc := 12) C 2 dX9_resistance_12 rfl rfl ?_
  refine mg_iload_n (pc := 13) C 0 dX9_resistance_13 rfl rfl ?_
  obtain ⟨q5, h6, hf⟩ := mg_b hf
  refine mg_callV (pc := 14) C (w2 := w_X9_resistance k a_t a_t_s a_t_past a_t_aside a_t_text a_t_told a_t_bottoms a_t_planned v_t_pasts v_t_typed v_t_at v_t_kind v_t_from v_t_value v_t_planLength v_t_planAmount v_t_s) (c_X9_skin z.2.1 k a_t a_t_s a_t_past a_t_aside a_t_text a_t_told a_t_bottoms a_t_planned v_t_pasts v_t_typed v_t_at v_t_kind v_t_from v_t_value v_t_planLength v_t_planAmount v_t_s fuel x1 q1 q5 h6) Y_X9_skin wm_1104 (by decide) rfl 0 rfl rfl rfl [0, 1] rfl (by decide) rfl [some 0, some 1] (by decide) rfl (Nat.le_of_ble_eq_true rfl) rfl dX9_resistance_14 ?_
  refine mg_iadd (pc := 17) C dX9_resistance_17 ?_
  refine mg_aload_n (pc := 18) C 1 dX9_resistance_18 rfl rfl ?_
  refine mg_iload_n (pc := 19) C 0 dX9_resistance_19 rfl rfl ?_
  obtain ⟨q7, h8, hf⟩ := mg_b hf
  refine mg_callV (pc := 20) C (w2 := w_X9_resistance k a_t a_t_s a_t_past a_t_aside a_t_text a_t_told a_t_bottoms a_t_planned v_t_pasts v_t_typed v_t_at v_t_kind v_t_from v_t_value v_t_planLength v_t_planAmount v_t_s) (c_X9_buoyancy z.2.1 k a_t a_t_s a_t_past a_t_aside a_t_text a_t_told a_t_bottoms a_t_planned v_t_pasts v_t_typed v_t_at v_t_kind v_t_from v_t_value v_t_planLength v_t_planAmount v_t_s q1 q7 h8) Y_X9_buoyancy wm_1112 (by decide) rfl 0 rfl rfl rfl [0, 1] rfl (by decide) rfl [some 0, some 1] (by decide) rfl (Nat.le_of_ble_eq_true rfl) rfl dX9_resistance_20 ?_
  refine mg_iadd (pc := 23) C dX9_resistance_23 ?_
  obtain rfl := Option.some.inj hf
  exact E _ _ dX9_resistance_24
abbrev w_X9_cells (k : mg_K) (a_t a_t_s a_t_past a_t_aside a_t_text a_t_told a_t_bottoms a_t_planned : Nat) (v_t_pasts : Int32) (v_t_typed : Int32) (v_t_at : Int32) (v_t_kind : Int32) (v_t_from : Int32) (v_t_value : Int32) (v_t_planLength : Int32) (v_t_planAmount : Int32) (v_t_s : Nat → Int32) : va_W := [(a_t, .inr (9, [.ref a_t_s, .ref a_t_past, .ref a_t_aside, .int v_t_pasts, .ref a_t_text, .int v_t_typed, .int v_t_at, .int v_t_kind, .int v_t_from, .int v_t_value, .ref a_t_told, .ref a_t_bottoms, .ref a_t_planned, .int v_t_planLength, .int v_t_planAmount])), (a_t_s, .inl (k.2.1, 227, .inl v_t_s))]
def f_X9_cells (v_t_s : Nat → Int32) : Option (Int32) := some ((v_t_s 0) * (v_t_s 1))
theorem Y_X9_cells : mg_Y yX9_cells cX9_cells 1 (some .int) 0 := ⟨wm_1063, wp_40, wm_11, wm_1064, ⟨by decide +kernel, by decide +kernel, by decide +kernel⟩, by decide⟩
set_option maxRecDepth 100000 in
set_option maxHeartbeats 4000000 in
theorem c_X9_cells (l : Launch) (k : mg_K) (a_t a_t_s a_t_past a_t_aside a_t_text a_t_told a_t_bottoms a_t_planned : Nat) (v_t_pasts : Int32) (v_t_typed : Int32) (v_t_at : Int32) (v_t_kind : Int32) (v_t_from : Int32) (v_t_value : Int32) (v_t_planLength : Int32) (v_t_planAmount : Int32) (v_t_s : Nat → Int32) (q : Int32) (hf : f_X9_cells v_t_s = some q) : mg_M l yX9_cells cX9_cells 1 (some .int) 0 k [.ref a_t] (w_X9_cells k a_t a_t_s a_t_past a_t_aside a_t_text a_t_told a_t_bottoms a_t_planned v_t_pasts v_t_typed v_t_at v_t_kind v_t_from v_t_value v_t_planLength v_t_planAmount v_t_s) (w_X9_cells k a_t a_t_s a_t_past a_t_aside a_t_text a_t_told a_t_bottoms a_t_planned v_t_pasts v_t_typed v_t_at v_t_kind v_t_from v_t_value v_t_planLength v_t_planAmount v_t_s) (some (.int q)) := by
  refine mg_Mi RX9 [(0, .ref a_t)] (by decide +kernel) rfl rfl (Nat.le_of_ble_eq_true rfl) ?_
  intro z A Q hl C E
  subst hl
  unfold f_X9_cells at hf
  refine mg_aload_n (pc := 0) C 0 dX9_cells_0 rfl rfl ?_
  refine mg_get (pc := 1) C 0 rfl rfl inX9 0 (by decide) wm_874 rfl rfl dX9_cells_1 ?_
  refine mg_iconst (pc := 4) C dX9_cells_4 (v := 0) (by decide) ?_
  refine mg_ialdK (pc := 5) C 1 0 rfl dX9_cells_5 (by decide) (by decide) ?_
  refine mg_aload_n (pc := 6) C 0 dX9_cells_6 rfl rfl ?_
  refine mg_get (pc := 7) C 0 rfl rfl inX9 0 (by decide) wm_874 rfl rfl dX9_cells_7 ?_
  refine mg_iconst (pc := 10) C dX9_cells_10 (v := 1) (by decide) ?_
  refine mg_ialdK (pc := 11) C 1 1 rfl dX9_cells_11 (by decide) (by decide) ?_
  refine mg_imul (pc := 12) C dX9_cells_12 ?_
  obtain rfl := Option.some.inj hf
  exact E _ _ dX9_cells_13
abbrev w_X9_loadOf (k : mg_K) (a_t a_t_s a_t_past a_t_aside a_t_text a_t_told a_t_bottoms a_t_planned : Nat) (v_t_pasts : Int32) (v_t_typed : Int32) (v_t_at : Int32) (v_t_kind : Int32) (v_t_from : Int32) (v_t_value : Int32) (v_t_planLength : Int32) (v_t_planAmount : Int32) (v_t_s : Nat → Int32) : va_W := [(a_t, .inr (9, [.ref a_t_s, .ref a_t_past, .ref a_t_aside, .int v_t_pasts, .ref a_t_text, .int v_t_typed, .int v_t_at, .int v_t_kind, .int v_t_from, .int v_t_value, .ref a_t_told, .ref a_t_bottoms, .ref a_t_planned, .int v_t_planLength, .int v_t_planAmount])), (a_t_s, .inl (k.2.1, 227, .inl v_t_s))]
def f_X9_loadOf_L9 (v_t_s : Nat → Int32) : Nat → Int32 → Int32 → Option (Int32 × Int32)
  | 0, _, _ => none
  | n_ + 1, x1, x2 => (f_X9_cells v_t_s).bind (fun q1 => if q1 ≤ x2 then (some ((x1, x2))) else (if mg_ix (68 + x2) 227 = true then (f_X9_loadOf_L9 v_t_s n_ (x1 + (v_t_s (Int32.toNatClampNeg (68 + x2)))) (x2 + 1)) else none))
def f_X9_loadOf (fuel : Nat) (v_t_s : Nat → Int32) : Option (Int32) := (f_X9_loadOf_L9 v_t_s fuel (v_t_s 5) 0).bind (fun q3 => some (4 * q3.1))
theorem Y_X9_loadOf : mg_Y yX9_loadOf cX9_loadOf 3 (some .int) 0 := ⟨wm_1059, wp_39, wm_11, wm_1060, ⟨by decide +kernel, by decide +kernel, by decide +kernel⟩, by decide⟩
set_option maxRecDepth 100000 in
set_option maxHeartbeats 4000000 in
theorem c_X9_loadOf (l : Launch) (k : mg_K) (a_t a_t_s a_t_past a_t_aside a_t_text a_t_told a_t_bottoms a_t_planned : Nat) (v_t_pasts : Int32) (v_t_typed : Int32) (v_t_at : Int32) (v_t_kind : Int32) (v_t_from : Int32) (v_t_value : Int32) (v_t_planLength : Int32) (v_t_planAmount : Int32) (v_t_s : Nat → Int32) (fuel : Nat) (q : Int32) (hf : f_X9_loadOf fuel v_t_s = some q) : mg_M l yX9_loadOf cX9_loadOf 3 (some .int) 1 k [.ref a_t] (w_X9_loadOf k a_t a_t_s a_t_past a_t_aside a_t_text a_t_told a_t_bottoms a_t_planned v_t_pasts v_t_typed v_t_at v_t_kind v_t_from v_t_value v_t_planLength v_t_planAmount v_t_s) (w_X9_loadOf k a_t a_t_s a_t_past a_t_aside a_t_text a_t_told a_t_bottoms a_t_planned v_t_pasts v_t_typed v_t_at v_t_kind v_t_from v_t_value v_t_planLength v_t_planAmount v_t_s) (some (.int q)) := by
  refine mg_Mi RX9 [(0, .ref a_t)] (by decide +kernel) rfl rfl (Nat.le_of_ble_eq_true rfl) ?_
  intro z A Q hl C E
  subst hl
  unfold f_X9_loadOf at hf
  have L9 : ∀ (n_ : Nat) (x1 : Int32) (x2 : Int32) (q_ : Int32 × Int32), f_X9_loadOf_L9 v_t_s n_ x1 x2 = some q_ → (mg z k A 3 0 0 Q (w_X9_loadOf k a_t a_t_s a_t_past a_t_aside a_t_text a_t_told a_t_bottoms a_t_planned v_t_pasts v_t_typed v_t_at v_t_kind v_t_from v_t_value v_t_planLength v_t_planAmount v_t_s) [(1, .int q_.1)] 35 []) → mg z k A 3 0 0 Q (w_X9_loadOf k a_t a_t_s a_t_past a_t_aside a_t_text a_t_told a_t_bottoms a_t_planned v_t_pasts v_t_typed v_t_at v_t_kind v_t_from v_t_value v_t_planLength v_t_planAmount v_t_s) [(0, .ref a_t), (1, .int x1), (2, .int x2)] 9 [] := by
    intro n_
    induction n_ with
    | zero => intro x1 x2 q_ hf; exact mg_no (show none = some q_ from hf)
    | succ n_ ih =>
      intro x1 x2 q_ hf X0
      rw [f_X9_loadOf_L9] at hf
      refine mg_iload_n (pc := 9) C 2 dX9_loadOf_9 rfl rfl ?_
      refine mg_aload_n (pc := 10) C 0 dX9_loadOf_10 rfl rfl ?_
      obtain ⟨q1, h2, hf⟩ := mg_b hf
      refine mg_callV (pc := 11) C (w2 := w_X9_loadOf k a_t a_t_s a_t_past a_t_aside a_t_text a_t_told a_t_bottoms a_t_planned v_t_pasts v_t_typed v_t_at v_t_kind v_t_from v_t_value v_t_planLength v_t_planAmount v_t_s) (c_X9_cells z.2.1 k a_t a_t_s a_t_past a_t_aside a_t_text a_t_told a_t_bottoms a_t_planned v_t_pasts v_t_typed v_t_at v_t_kind v_t_from v_t_value v_t_planLength v_t_planAmount v_t_s q1 h2) Y_X9_cells wm_1061 (by decide) rfl 0 rfl rfl rfl [0, 1] rfl (by decide) rfl [some 0, some 1] (by decide) rfl (Nat.le_of_ble_eq_true rfl) rfl dX9_loadOf_11 ?_
      refine mg_icmp_ge (pc := 14) (tgt := 35) C dX9_loadOf_14 (by decide) hf (fun hf => ?_) (fun hf => ?_)
      · obtain rfl := Option.some.inj hf
        refine mg_lv [1] rfl ?_
        exact X0
      · refine mg_iload_n (pc := 17) C 1 dX9_loadOf_17 rfl rfl ?_
        refine mg_aload_n (pc := 18) C 0 dX9_loadOf_18 rfl rfl ?_
        refine mg_get (pc := 19) C 0 rfl rfl inX9 0 (by decide) wm_874 rfl rfl dX9_loadOf_19 ?_
        refine mg_bipush (pc := 22) C dX9_loadOf_22 (v := 68) (by decide) ?_
        refine mg_iload_n (pc := 24) C 2 dX9_loadOf_24 rfl rfl ?_
        refine mg_iadd (pc := 25) C dX9_loadOf_25 ?_
        refine mg_iald (pc := 26) C 1 rfl dX9_loadOf_26 hf (fun hf => ?_)
        refine mg_iadd (pc := 27) C dX9_loadOf_27 ?_
        refine mg_istore_n (pc := 28) C (lv' := [(1, .int (x1 + (v_t_s (Int32.toNatClampNeg (68 + x2))))), (0, .ref a_t), (2, .int x2)]) dX9_loadOf_28 rfl (by decide) rfl ?_
        refine mg_iinc (pc := 29) C (c := 1) (lv' := [(2, .int (x2 + 1)), (1, .int (x1 + (v_t_s (Int32.toNatClampNeg (68 + x2))))), (0, .ref a_t)]) 2 dX9_loadOf_29 rfl (by decide) (by decide) rfl ?_
        refine mg_goto (pc := 32) (tgt := 9) C dX9_loadOf_32 (by decide) ?_
        refine mg_lv [2, 1, 0] rfl ?_
        exact ih (x1 + (v_t_s (Int32.toNatClampNeg (68 + x2)))) (x2 + 1) _ hf X0
  refine mg_aload_n (pc := 0) C 0 dX9_loadOf_0 rfl rfl ?_
  refine mg_get (pc := 1) C 0 rfl rfl inX9 0 (by decide) wm_874 rfl rfl dX9_loadOf_1 ?_
  refine mg_iconst (pc := 4) C dX9_loadOf_4 (v := 5) (by decide) ?_
  refine mg_ialdK (pc := 5) C 1 5 rfl dX9_loadOf_5 (by decide) (by decide) ?_
  refine mg_istore_n (pc := 6) C (lv' := [(1, .int (v_t_s 5)), (0, .ref a_t)]) dX9_loadOf_6 rfl (by decide) rfl ?_
  refine mg_iconst (pc := 7) C dX9_loadOf_7 (v := 0) (by decide) ?_
  refine mg_istore_n (pc := 8) C (lv' := [(2, .int 0), (1, .int (v_t_s 5)), (0, .ref a_t)]) dX9_loadOf_8 rfl (by decide) rfl ?_
  obtain ⟨q3, h4, hf⟩ := mg_b hf
  refine mg_lv [2, 1, 0] rfl ?_
  refine L9  fuel (v_t_s 5) 0 q3 h4 ?_
  refine mg_iconst (pc := 35) C dX9_loadOf_35 (v := 4) (by decide) ?_
  refine mg_iload_n (pc := 36) C 0 dX9_loadOf_36 rfl rfl ?_
  refine mg_imul (pc := 37) C dX9_loadOf_37 ?_
  obtain rfl := Option.some.inj hf
  exact E _ _ dX9_loadOf_38
abbrev w_X9_over (k : mg_K) (a_t a_t_s a_t_past a_t_aside a_t_text a_t_told a_t_bottoms a_t_planned : Nat) (v_t_pasts : Int32) (v_t_typed : Int32) (v_t_at : Int32) (v_t_kind : Int32) (v_t_from : Int32) (v_t_value : Int32) (v_t_planLength : Int32) (v_t_planAmount : Int32) (v_t_s : Nat → Int32) : va_W := [(a_t, .inr (9, [.ref a_t_s, .ref a_t_past, .ref a_t_aside, .int v_t_pasts, .ref a_t_text, .int v_t_typed, .int v_t_at, .int v_t_kind, .int v_t_from, .int v_t_value, .ref a_t_told, .ref a_t_bottoms, .ref a_t_planned, .int v_t_planLength, .int v_t_planAmount])), (a_t_s, .inl (k.2.1, 227, .inl v_t_s))]
def f_X9_over_L7 (fuel : Nat) (v_t_s : Nat → Int32) : Nat → Int32 → Int32 → Option (Int32 × Int32)
  | 0, _, _ => none
  | n_ + 1, x1, x2 => (f_X9_cells v_t_s).bind (fun q3 => if q3 ≤ x2 then (some ((x1, x2))) else ((f_X9_isEdge v_t_s x2).bind (fun q5 => if q5 = 0 then (f_X9_over_L7 fuel v_t_s n_ (x1 - 0) (x2 + 1)) else ((f_X9_resistance fuel v_t_s x2).bind (fun q7 => f_X9_over_L7 fuel v_t_s n_ (x1 - q7) (x2 + 1))))))
def f_X9_over (fuel : Nat) (v_t_s : Nat → Int32) : Option (Int32) := (f_X9_loadOf fuel v_t_s).bind (fun q1 => (f_X9_over_L7 fuel v_t_s fuel q1 0).bind (fun q9 => some q9.1))
theorem Y_X9_over : mg_Y yX9_over cX9_over 3 (some .int) 0 := ⟨wm_1130, wp_53, wm_11, wm_1131, ⟨by decide +kernel, by decide +kernel, by decide +kernel⟩, by decide⟩
set_option maxRecDepth 100000 in
set_option maxHeartbeats 4000000 in
theorem c_X9_over (l : Launch) (k : mg_K) (a_t a_t_s a_t_past a_t_aside a_t_text a_t_told a_t_bottoms a_t_planned : Nat) (v_t_pasts : Int32) (v_t_typed : Int32) (v_t_at : Int32) (v_t_kind : Int32) (v_t_from : Int32) (v_t_value : Int32) (v_t_planLength : Int32) (v_t_planAmount : Int32) (v_t_s : Nat → Int32) (fuel : Nat) (q : Int32) (hf : f_X9_over fuel v_t_s = some q) : mg_M l yX9_over cX9_over 3 (some .int) 5 k [.ref a_t] (w_X9_over k a_t a_t_s a_t_past a_t_aside a_t_text a_t_told a_t_bottoms a_t_planned v_t_pasts v_t_typed v_t_at v_t_kind v_t_from v_t_value v_t_planLength v_t_planAmount v_t_s) (w_X9_over k a_t a_t_s a_t_past a_t_aside a_t_text a_t_told a_t_bottoms a_t_planned v_t_pasts v_t_typed v_t_at v_t_kind v_t_from v_t_value v_t_planLength v_t_planAmount v_t_s) (some (.int q)) := by
  refine mg_Mi RX9 [(0, .ref a_t)] (by decide +kernel) rfl rfl (Nat.le_of_ble_eq_true rfl) ?_
  intro z A Q hl C E
  subst hl
  unfold f_X9_over at hf
  have L7 : ∀ (n_ : Nat) (x1 : Int32) (x2 : Int32) (q_ : Int32 × Int32), f_X9_over_L7 fuel v_t_s n_ x1 x2 = some q_ → (mg z k A 3 0 0 Q (w_X9_over k a_t a_t_s a_t_past a_t_aside a_t_text a_t_told a_t_bottoms a_t_planned v_t_pasts v_t_typed v_t_at v_t_kind v_t_from v_t_value v_t_planLength v_t_planAmount v_t_s) [(1, .int q_.1)] 41 []) → mg z k A 3 0 0 Q (w_X9_over k a_t a_t_s a_t_past a_t_aside a_t_text a_t_told a_t_bottoms a_t_planned v_t_pasts v_t_typed v_t_at v_t_kind v_t_from v_t_value v_t_planLength v_t_planAmount v_t_s) [(0, .ref a_t), (1, .int x1), (2, .int x2)] 7 [] := by
    intro n_
    induction n_ with
    | zero => intro x1 x2 q_ hf; exact mg_no (show none = some q_ from hf)
    | succ n_ ih =>
      intro x1 x2 q_ hf X0
      rw [f_X9_over_L7] at hf
      refine mg_iload_n (pc := 7) C 2 dX9_over_7 rfl rfl ?_
      refine mg_aload_n (pc := 8) C 0 dX9_over_8 rfl rfl ?_
      obtain ⟨q3, h4, hf⟩ := mg_b hf
      refine mg_callV (pc := 9) C (w2 := w_X9_over k a_t a_t_s a_t_past a_t_aside a_t_text a_t_told a_t_bottoms a_t_planned v_t_pasts v_t_typed v_t_at v_t_kind v_t_from v_t_value v_t_planLength v_t_planAmount v_t_s) (c_X9_cells z.2.1 k a_t a_t_s a_t_past a_t_aside a_t_text a_t_told a_t_bottoms a_t_planned v_t_pasts v_t_typed v_t_at v_t_kind v_t_from v_t_value v_t_planLength v_t_planAmount v_t_s q3 h4) Y_X9_cells wm_1061 (by decide) rfl 0 rfl rfl rfl [0, 1] rfl (by decide) rfl [some 0, some 1] (by decide) rfl (Nat.le_of_ble_eq_true rfl) rfl dX9_over_9 ?_
      refine mg_icmp_ge (pc := 12) (tgt := 41) C dX9_over_12 (by decide) hf (fun hf => ?_) (fun hf => ?_)
      · obtain rfl := Option.some.inj hf
        refine mg_lv [1] rfl ?_
        exact X0
      · refine mg_iload_n (pc := 15) C 1 dX9_over_15 rfl rfl ?_
        refine mg_aload_n (pc := 16) C 0 dX9_over_16 rfl rfl ?_
        refine mg_iload_n (pc := 17) C 2 dX9_over_17 rfl rfl ?_
        obtain ⟨q5, h6, hf⟩ := mg_b hf
        refine mg_callV (pc := 18) C (w2 := w_X9_over k a_t a_t_s a_t_past a_t_aside a_t_text a_t_told a_t_bottoms a_t_planned v_t_pasts v_t_typed v_t_at v_t_kind v_t_from v_t_value v_t_planLength v_t_planAmount v_t_s) (c_X9_isEdge z.2.1 k a_t a_t_s a_t_past a_t_aside a_t_text a_t_told a_t_bottoms a_t_planned v_t_pasts v_t_typed v_t_at v_t_kind v_t_from v_t_value v_t_planLength v_t_planAmount v_t_s x2 q5 h6) Y_X9_isEdge wm_1069 (by decide) rfl 0 rfl rfl rfl [0, 1] rfl (by decide) rfl [some 0, some 1] (by decide) rfl (Nat.le_of_ble_eq_true rfl) rfl dX9_over_18 ?_
        refine mg_if_eq (pc := 21) (tgt := 32) C dX9_over_21 (by decide) hf (fun hf => ?_) (fun hf => ?_)
        · refine mg_iconst (pc := 32) C dX9_over_32 (v := 0) (by decide) ?_
          refine mg_isub (pc := 33) C dX9_over_33 ?_
          refine mg_istore_n (pc := 34) C (lv' := [(1, .int (x1 - 0)), (0, .ref a_t), (2, .int x2)]) dX9_over_34 rfl (by decide) rfl ?_
          refine mg_iinc (pc := 35) C (c := 1) (lv' := [(2, .int (x2 + 1)), (1, .int (x1 - 0)), (0, .ref a_t)]) 2 dX9_over_35 rfl (by decide) (by decide) rfl ?_
          refine mg_goto (pc := 38) (tgt := 7) C dX9_over_38 (by decide) ?_
          refine mg_lv [2, 1, 0] rfl ?_
          exact ih (x1 - 0) (x2 + 1) _ hf X0
        · refine mg_aload_n (pc := 24) C 0 dX9_over_24 rfl rfl ?_
          refine mg_iload_n (pc := 25) C 2 dX9_over_25 rfl rfl ?_
          obtain ⟨q7, h8, hf⟩ := mg_b hf
          refine mg_callV (pc := 26) C (w2 := w_X9_over k a_t a_t_s a_t_past a_t_aside a_t_text a_t_told a_t_bottoms a_t_planned v_t_pasts v_t_typed v_t_at v_t_kind v_t_from v_t_value v_t_planLength v_t_planAmount v_t_s) (c_X9_resistance z.2.1 k a_t a_t_s a_t_past a_t_aside a_t_text a_t_told a_t_bottoms a_t_planned v_t_pasts v_t_typed v_t_at v_t_kind v_t_from v_t_value v_t_planLength v_t_planAmount v_t_s fuel x2 q7 h8) Y_X9_resistance wm_1132 (by decide) rfl 0 rfl rfl rfl [0, 1] rfl (by decide) rfl [some 0, some 1] (by decide) rfl (Nat.le_of_ble_eq_true rfl) rfl dX9_over_26 ?_
          refine mg_goto (pc := 29) (tgt := 33) C dX9_over_29 (by decide) ?_
          refine mg_isub (pc := 33) C dX9_over_33 ?_
          refine mg_istore_n (pc := 34) C (lv' := [(1, .int (x1 - q7)), (0, .ref a_t), (2, .int x2)]) dX9_over_34 rfl (by decide) rfl ?_
          refine mg_iinc (pc := 35) C (c := 1) (lv' := [(2, .int (x2 + 1)), (1, .int (x1 - q7)), (0, .ref a_t)]) 2 dX9_over_35 rfl (by decide) (by decide) rfl ?_
          refine mg_goto (pc := 38) (tgt := 7) C dX9_over_38 (by decide) ?_
          refine mg_lv [2, 1, 0] rfl ?_
          exact ih (x1 - q7) (x2 + 1) _ hf X0
  refine mg_aload_n (pc := 0) C 0 dX9_over_0 rfl rfl ?_
  obtain ⟨q1, h2, hf⟩ := mg_b hf
  refine mg_callV (pc := 1) C (w2 := w_X9_over k a_t a_t_s a_t_past a_t_aside a_t_text a_t_told a_t_bottoms a_t_planned v_t_pasts v_t_typed v_t_at v_t_kind v_t_from v_t_value v_t_planLength v_t_planAmount v_t_s) (c_X9_loadOf z.2.1 k a_t a_t_s a_t_past a_t_aside a_t_text a_t_told a_t_bottoms a_t_planned v_t_pasts v_t_typed v_t_at v_t_kind v_t_from v_t_value v_t_planLength v_t_planAmount v_t_s fuel q1 h2) Y_X9_loadOf wm_1057 (by decide) rfl 0 rfl rfl rfl [0, 1] rfl (by decide) rfl [some 0, some 1] (by decide) rfl (Nat.le_of_ble_eq_true rfl) rfl dX9_over_1 ?_
  refine mg_istore_n (pc := 4) C (lv' := [(1, .int q1), (0, .ref a_t)]) dX9_over_4 rfl (by decide) rfl ?_
  refine mg_iconst (pc := 5) C dX9_over_5 (v := 0) (by decide) ?_
  refine mg_istore_n (pc := 6) C (lv' := [(2, .int 0), (1, .int q1), (0, .ref a_t)]) dX9_over_6 rfl (by decide) rfl ?_
  obtain ⟨q9, h10, hf⟩ := mg_b hf
  refine mg_lv [2, 1, 0] rfl ?_
  refine L7  fuel q1 0 q9 h10 ?_
  refine mg_iload_n (pc := 41) C 0 dX9_over_41 rfl rfl ?_
  obtain rfl := Option.some.inj hf
  exact E _ _ dX9_over_42
abbrev w_X9_momentOf (k : mg_K) (a_t a_t_s a_t_past a_t_aside a_t_text a_t_told a_t_bottoms a_t_planned : Nat) (v_t_pasts : Int32) (v_t_typed : Int32) (v_t_at : Int32) (v_t_kind : Int32) (v_t_from : Int32) (v_t_value : Int32) (v_t_planLength : Int32) (v_t_planAmount : Int32) (v_t_s : Nat → Int32) : va_W := [(a_t, .inr (9, [.ref a_t_s, .ref a_t_past, .ref a_t_aside, .int v_t_pasts, .ref a_t_text, .int v_t_typed, .int v_t_at, .int v_t_kind, .int v_t_from, .int v_t_value, .ref a_t_told, .ref a_t_bottoms, .ref a_t_planned, .int v_t_planLength, .int v_t_planAmount])), (a_t_s, .inl (k.2.1, 227, .inl v_t_s))]
def f_X9_momentOf_J36 (rec_ : Int32 → Int32 → Option (Int32 × Int32)) (v_t_s : Nat → Int32) (x3 : Int32) (y0 : Int32) (y1 : Int32) (y2 : Int32) : Option (Int32 × Int32) := if mg_ix (68 + x3) 227 = true then (rec_ (y0 + (y1 * (y2 - (4 * (v_t_s (Int32.toNatClampNeg (68 + x3))))))) (x3 + 1)) else none
def f_X9_momentOf_L4 (fuel : Nat) (v_t_s : Nat → Int32) (x1 : Int32) : Nat → Int32 → Int32 → Option (Int32 × Int32)
  | 0, _, _ => none
  | n_ + 1, x2, x3 => (f_X9_cells v_t_s).bind (fun q1 => if q1 ≤ x3 then (some ((x2, x3))) else ((f_X9_arm v_t_s x3 x1).bind (fun q3 => (f_X9_isEdge v_t_s x3).bind (fun q5 => if q5 = 0 then (f_X9_momentOf_J36 (f_X9_momentOf_L4 fuel v_t_s x1 n_) v_t_s x3 x2 q3 0) else ((f_X9_resistance fuel v_t_s x3).bind (fun q7 => f_X9_momentOf_J36 (f_X9_momentOf_L4 fuel v_t_s x1 n_) v_t_s x3 x2 q3 q7))))))
def f_X9_momentOf (fuel : Nat) (v_t_s : Nat → Int32) (x1 : Int32) : Option (Int32) := (f_X9_momentOf_L4 fuel v_t_s x1 fuel 0 0).bind (fun q9 => some q9.1)
theorem Y_X9_momentOf : mg_Y yX9_momentOf cX9_momentOf 4 (some .int) 1 := ⟨wm_1142, wp_55, wm_11, wm_1143, ⟨by decide +kernel, by decide +kernel, by decide +kernel⟩, by decide⟩
set_option maxRecDepth 100000 in
set_option maxHeartbeats 4000000 in
theorem c_X9_momentOf (l : Launch) (k : mg_K) (a_t a_t_s a_t_past a_t_aside a_t_text a_t_told a_t_bottoms a_t_planned : Nat) (v_t_pasts : Int32) (v_t_typed : Int32) (v_t_at : Int32) (v_t_kind : Int32) (v_t_from : Int32) (v_t_value : Int32) (v_t_planLength : Int32) (v_t_planAmount : Int32) (v_t_s : Nat → Int32) (fuel : Nat) (x1 : Int32) (q : Int32) (hf : f_X9_momentOf fuel v_t_s x1 = some q) : mg_M l yX9_momentOf cX9_momentOf 4 (some .int) 5 k [.ref a_t, .int x1] (w_X9_momentOf k a_t a_t_s a_t_past a_t_aside a_t_text a_t_told a_t_bottoms a_t_planned v_t_pasts v_t_typed v_t_at v_t_kind v_t_from v_t_value v_t_planLength v_t_planAmount v_t_s) (w_X9_momentOf k a_t a_t_s a_t_past a_t_aside a_t_text a_t_told a_t_bottoms a_t_planned v_t_pasts v_t_typed v_t_at v_t_kind v_t_from v_t_value v_t_planLength v_t_planAmount v_t_s) (some (.int q)) := by
  refine mg_Mi RX9 [(0, .ref a_t), (1, .int x1)] (by decide +kernel) rfl rfl (Nat.le_of_ble_eq_true rfl) ?_
  intro z A Q hl C E
  subst hl
  unfold f_X9_momentOf at hf
  have L4 : ∀ (x1 : Int32) (n_ : Nat) (x2 : Int32) (x3 : Int32) (q_ : Int32 × Int32), f_X9_momentOf_L4 fuel v_t_s x1 n_ x2 x3 = some q_ → (mg z k A 4 0 0 Q (w_X9_momentOf k a_t a_t_s a_t_past a_t_aside a_t_text a_t_told a_t_bottoms a_t_planned v_t_pasts v_t_typed v_t_at v_t_kind v_t_from v_t_value v_t_planLength v_t_planAmount v_t_s) [(2, .int q_.1)] 57 []) → mg z k A 4 0 0 Q (w_X9_momentOf k a_t a_t_s a_t_past a_t_aside a_t_text a_t_told a_t_bottoms a_t_planned v_t_pasts v_t_typed v_t_at v_t_kind v_t_from v_t_value v_t_planLength v_t_planAmount v_t_s) [(0, .ref a_t), (1, .int x1), (2, .int x2), (3, .int x3)] 4 [] := by
    intro x1 n_
    induction n_ with
    | zero => intro x2 x3 q_ hf; exact mg_no (show none = some q_ from hf)
    | succ n_ ih =>
      intro x2 x3 q_ hf X0
      rw [f_X9_momentOf_L4] at hf
      have J36 : ∀ (x3 : Int32) (y0 : Int32) (y1 : Int32) (y2 : Int32), f_X9_momentOf_J36 (f_X9_momentOf_L4 fuel v_t_s x1 n_) v_t_s x3 y0 y1 y2 = some q_ → mg z k A 4 0 0 Q (w_X9_momentOf k a_t a_t_s a_t_past a_t_aside a_t_text a_t_told a_t_bottoms a_t_planned v_t_pasts v_t_typed v_t_at v_t_kind v_t_from v_t_value v_t_planLength v_t_planAmount v_t_s) [(0, .ref a_t), (1, .int x1), (3, .int x3)] 36 [.int y2, .int y1, .int y0] := by
        intro x3 y0 y1 y2 hf
        unfold f_X9_momentOf_J36 at hf
        refine mg_iconst (pc := 36) C dX9_momentOf_36 (v := 4) (by decide) ?_
        refine mg_aload_n (pc := 37) C 0 dX9_momentOf_37 rfl rfl ?_
        refine mg_get (pc := 38) C 0 rfl rfl inX9 0 (by decide) wm_874 rfl rfl dX9_momentOf_38 ?_
        refine mg_bipush (pc := 41) C dX9_momentOf_41 (v := 68) (by decide) ?_
        refine mg_iload_n (pc := 43) C 2 dX9_momentOf_43 rfl rfl ?_
        refine mg_iadd (pc := 44) C dX9_momentOf_44 ?_
        refine mg_iald (pc := 45) C 1 rfl dX9_momentOf_45 hf (fun hf => ?_)
        refine mg_imul (pc := 46) C dX9_momentOf_46 ?_
        refine mg_isub (pc := 47) C dX9_momentOf_47 ?_
        refine mg_imul (pc := 48) C dX9_momentOf_48 ?_
        refine mg_iadd (pc := 49) C dX9_momentOf_49 ?_
        refine mg_istore_n (pc := 50) C (lv' := [(2, .int (y0 + (y1 * (y2 - (4 * (v_t_s (Int32.toNatClampNeg (68 + x3)))))))), (0, .ref a_t), (1, .int x1), (3, .int x3)]) dX9_momentOf_50 rfl (by decide) rfl ?_
        refine mg_iinc (pc := 51) C (c := 1) (lv' := [(3, .int (x3 + 1)), (2, .int (y0 + (y1 * (y2 - (4 * (v_t_s (Int32.toNatClampNeg (68 + x3)))))))), (0, .ref a_t), (1, .int x1)]) 3 dX9_momentOf_51 rfl (by decide) (by decide) rfl ?_
        refine mg_goto (pc := 54) (tgt := 4) C dX9_momentOf_54 (by decide) ?_
        refine mg_lv [2, 3, 1, 0] rfl ?_
        exact ih (y0 + (y1 * (y2 - (4 * (v_t_s (Int32.toNatClampNeg (68 + x3))))))) (x3 + 1) _ hf X0
      refine mg_iload_n (pc := 4) C 3 dX9_momentOf_4 rfl rfl ?_
      refine mg_aload_n (pc := 5) C 0 dX9_momentOf_5 rfl rfl ?_
      obtain ⟨q1, h2, hf⟩ := mg_b hf
      refine mg_callV (pc := 6) C (w2 := w_X9_momentOf k a_t a_t_s a_t_past a_t_aside a_t_text a_t_told a_t_bottoms a_t_planned v_t_pasts v_t_typed v_t_at v_t_kind v_t_from v_t_value v_t_planLength v_t_planAmount v_t_s) (c_X9_cells z.2.1 k a_t a_t_s a_t_past a_t_aside a_t_text a_t_told a_t_bottoms a_t_planned v_t_pasts v_t_typed v_t_at v_t_kind v_t_from v_t_value v_t_planLength v_t_planAmount v_t_s q1 h2) Y_X9_cells wm_1061 (by decide) rfl 0 rfl rfl rfl [0, 1] rfl (by decide) rfl [some 0, some 1] (by decide) rfl (Nat.le_of_ble_eq_true rfl) rfl dX9_momentOf_6 ?_
      refine mg_icmp_ge (pc := 9) (tgt := 57) C dX9_momentOf_9 (by decide) hf (fun hf => ?_) (fun hf => ?_)
      · obtain rfl := Option.some.inj hf
        refine mg_lv [2] rfl ?_
        exact X0
      · refine mg_iload_n (pc := 12) C 2 dX9_momentOf_12 rfl rfl ?_
        refine mg_aload_n (pc := 13) C 0 dX9_momentOf_13 rfl rfl ?_
        refine mg_iload_n (pc := 14) C 3 dX9_momentOf_14 rfl rfl ?_
        refine mg_iload_n (pc := 15) C 1 dX9_momentOf_15 rfl rfl ?_
        obtain ⟨q3, h4, hf⟩ := mg_b hf
        refine mg_callV (pc := 16) C (w2 := w_X9_momentOf k a_t a_t_s a_t_past a_t_aside a_t_text a_t_told a_t_bottoms a_t_planned v_t_pasts v_t_typed v_t_at v_t_kind v_t_from v_t_value v_t_planLength v_t_planAmount v_t_s) (c_X9_arm z.2.1 k a_t a_t_s a_t_past a_t_aside a_t_text a_t_told a_t_bottoms a_t_planned v_t_pasts v_t_typed v_t_at v_t_kind v_t_from v_t_value v_t_planLength v_t_planAmount v_t_s x3 x1 q3 h4) Y_X9_arm wm_1089 (by decide) rfl 0 rfl rfl rfl [0, 1] rfl (by decide) rfl [some 0, some 1] (by decide) rfl (Nat.le_of_ble_eq_true rfl) rfl dX9_momentOf_16 ?_
        refine mg_aload_n (pc := 19) C 0 dX9_momentOf_19 rfl rfl ?_
        refine mg_iload_n (pc := 20) C 3 dX9_momentOf_20 rfl rfl ?_
        obtain ⟨q5, h6, hf⟩ := mg_b hf
        refine mg_callV (pc := 21) C (w2 := w_X9_momentOf k a_t a_t_s a_t_past a_t_aside a_t_text a_t_told a_t_bottoms a_t_planned v_t_pasts v_t_typed v_t_at v_t_kind v_t_from v_t_value v_t_planLength v_t_planAmount v_t_s) (c_X9_isEdge z.2.1 k a_t a_t_s a_t_past a_t_aside a_t_text a_t_told a_t_bottoms a_t_planned v_t_pasts v_t_typed v_t_at v_t_kind v_t_from v_t_value v_t_planLength v_t_planAmount v_t_s x3 q5 h6) Y_X9_isEdge wm_1069 (by decide) rfl 0 rfl rfl rfl [0, 1] rfl (by decide) rfl [some 0, some 1] (by decide) rfl (Nat.le_of_ble_eq_true rfl) rfl dX9_momentOf_21 ?_
        refine mg_if_eq (pc := 24) (tgt := 35) C dX9_momentOf_24 (by decide) hf (fun hf => ?_) (fun hf => ?_)
        · refine mg_iconst (pc := 35) C dX9_momentOf_35 (v := 0) (by decide) ?_
          refine mg_lv [0, 1, 3] rfl ?_
          exact J36 x3 x2 q3 0 hf
        · refine mg_aload_n (pc := 27) C 0 dX9_momentOf_27 rfl rfl ?_
          refine mg_iload_n (pc := 28) C 3 dX9_momentOf_28 rfl rfl ?_
          obtain ⟨q7, h8, hf⟩ := mg_b hf
          refine mg_callV (pc := 29) C (w2 := w_X9_momentOf k a_t a_t_s a_t_past a_t_aside a_t_text a_t_told a_t_bottoms a_t_planned v_t_pasts v_t_typed v_t_at v_t_kind v_t_from v_t_value v_t_planLength v_t_planAmount v_t_s) (c_X9_resistance z.2.1 k a_t a_t_s a_t_past a_t_aside a_t_text a_t_told a_t_bottoms a_t_planned v_t_pasts v_t_typed v_t_at v_t_kind v_t_from v_t_value v_t_planLength v_t_planAmount v_t_s fuel x3 q7 h8) Y_X9_resistance wm_1132 (by decide) rfl 0 rfl rfl rfl [0, 1] rfl (by decide) rfl [some 0, some 1] (by decide) rfl (Nat.le_of_ble_eq_true rfl) rfl dX9_momentOf_29 ?_
          refine mg_goto (pc := 32) (tgt := 36) C dX9_momentOf_32 (by decide) ?_
          refine mg_lv [0, 1, 3] rfl ?_
          exact J36 x3 x2 q3 q7 hf
  refine mg_iconst (pc := 0) C dX9_momentOf_0 (v := 0) (by decide) ?_
  refine mg_istore_n (pc := 1) C (lv' := [(2, .int 0), (0, .ref a_t), (1, .int x1)]) dX9_momentOf_1 rfl (by decide) rfl ?_
  refine mg_iconst (pc := 2) C dX9_momentOf_2 (v := 0) (by decide) ?_
  refine mg_istore_n (pc := 3) C (lv' := [(3, .int 0), (2, .int 0), (0, .ref a_t), (1, .int x1)]) dX9_momentOf_3 rfl (by decide) rfl ?_
  obtain ⟨q9, h10, hf⟩ := mg_b hf
  refine mg_lv [2, 3, 1, 0] rfl ?_
  refine L4 x1 fuel 0 0 q9 h10 ?_
  refine mg_iload_n (pc := 57) C 0 dX9_momentOf_57 rfl rfl ?_
  obtain rfl := Option.some.inj hf
  exact E _ _ dX9_momentOf_58
abbrev w_X9_turn (k : mg_K) (a_t a_t_s a_t_past a_t_aside a_t_text a_t_told a_t_bottoms a_t_planned : Nat) (v_t_pasts : Int32) (v_t_typed : Int32) (v_t_at : Int32) (v_t_kind : Int32) (v_t_from : Int32) (v_t_value : Int32) (v_t_planLength : Int32) (v_t_planAmount : Int32) (v_t_s : Nat → Int32) : va_W := [(a_t, .inr (9, [.ref a_t_s, .ref a_t_past, .ref a_t_aside, .int v_t_pasts, .ref a_t_text, .int v_t_typed, .int v_t_at, .int v_t_kind, .int v_t_from, .int v_t_value, .ref a_t_told, .ref a_t_bottoms, .ref a_t_planned, .int v_t_planLength, .int v_t_planAmount])), (a_t_s, .inl (k.2.1, 227, .inl v_t_s))]
def f_X9_turn (fuel : Nat) (v_t_s : Nat → Int32) (x1 : Int32) : Option (Int32) := (f_X9_momentOf fuel v_t_s x1).bind (fun q1 => if q1 ≤ (v_t_s 7) then (if (-(v_t_s 7)) ≤ q1 then (some 0) else (some 1)) else (some (-1)))
theorem Y_X9_turn : mg_Y yX9_turn cX9_turn 3 (some .int) 1 := ⟨wm_1154, wp_57, wm_11, wm_1155, ⟨by decide +kernel, by decide +kernel, by decide +kernel⟩, by decide⟩
set_option maxRecDepth 100000 in
set_option maxHeartbeats 4000000 in
theorem c_X9_turn (l : Launch) (k : mg_K) (a_t a_t_s a_t_past a_t_aside a_t_text a_t_told a_t_bottoms a_t_planned : Nat) (v_t_pasts : Int32) (v_t_typed : Int32) (v_t_at : Int32) (v_t_kind : Int32) (v_t_from : Int32) (v_t_value : Int32) (v_t_planLength : Int32) (v_t_planAmount : Int32) (v_t_s : Nat → Int32) (fuel : Nat) (x1 : Int32) (q : Int32) (hf : f_X9_turn fuel v_t_s x1 = some q) : mg_M l yX9_turn cX9_turn 3 (some .int) 6 k [.ref a_t, .int x1] (w_X9_turn k a_t a_t_s a_t_past a_t_aside a_t_text a_t_told a_t_bottoms a_t_planned v_t_pasts v_t_typed v_t_at v_t_kind v_t_from v_t_value v_t_planLength v_t_planAmount v_t_s) (w_X9_turn k a_t a_t_s a_t_past a_t_aside a_t_text a_t_told a_t_bottoms a_t_planned v_t_pasts v_t_typed v_t_at v_t_kind v_t_from v_t_value v_t_planLength v_t_planAmount v_t_s) (some (.int q)) := by
  refine mg_Mi RX9 [(0, .ref a_t), (1, .int x1)] (by decide +kernel) rfl rfl (Nat.le_of_ble_eq_true rfl) ?_
  intro z A Q hl C E
  subst hl
  unfold f_X9_turn at hf
  refine mg_aload_n (pc := 0) C 0 dX9_turn_0 rfl rfl ?_
  refine mg_iload_n (pc := 1) C 1 dX9_turn_1 rfl rfl ?_
  obtain ⟨q1, h2, hf⟩ := mg_b hf
  refine mg_callV (pc := 2) C (w2 := w_X9_turn k a_t a_t_s a_t_past a_t_aside a_t_text a_t_told a_t_bottoms a_t_planned v_t_pasts v_t_typed v_t_at v_t_kind v_t_from v_t_value v_t_planLength v_t_planAmount v_t_s) (c_X9_momentOf z.2.1 k a_t a_t_s a_t_past a_t_aside a_t_text a_t_told a_t_bottoms a_t_planned v_t_pasts v_t_typed v_t_at v_t_kind v_t_from v_t_value v_t_planLength v_t_planAmount v_t_s fuel x1 q1 h2) Y_X9_momentOf wm_1140 (by decide) rfl 0 rfl rfl rfl [0, 1] rfl (by decide) rfl [some 0, some 1] (by decide) rfl (Nat.le_of_ble_eq_true rfl) rfl dX9_turn_2 ?_
  refine mg_istore_n (pc := 5) C (lv' := [(2, .int q1), (0, .ref a_t), (1, .int x1)]) dX9_turn_5 rfl (by decide) rfl ?_
  refine mg_iload_n (pc := 6) C 0 dX9_turn_6 rfl rfl ?_
  refine mg_aload_n (pc := 7) C 1 dX9_turn_7 rfl rfl ?_
  refine mg_get (pc := 8) C 0 rfl rfl inX9 0 (by decide) wm_874 rfl rfl dX9_turn_8 ?_
  refine mg_bipush (pc := 11) C dX9_turn_11 (v := 7) (by decide) ?_
  refine mg_ialdK (pc := 13) C 1 7 rfl dX9_turn_13 (by decide) (by decide) ?_
  refine mg_icmp_le (pc := 14) (tgt := 21) C dX9_turn_14 (by decide) hf (fun hf => ?_) (fun hf => ?_)
  · refine mg_iload_n (pc := 21) C 0 dX9_turn_21 rfl rfl ?_
    refine mg_aload_n (pc := 22) C 1 dX9_turn_22 rfl rfl ?_
    refine mg_get (pc := 23) C 0 rfl rfl inX9 0 (by decide) wm_874 rfl rfl dX9_turn_23 ?_
    refine mg_bipush (pc := 26) C dX9_turn_26 (v := 7) (by decide) ?_
    refine mg_ialdK (pc := 28) C 1 7 rfl dX9_turn_28 (by decide) (by decide) ?_
    refine mg_ineg (pc := 29) C dX9_turn_29 ?_
    refine mg_icmp_ge (pc := 30) (tgt := 37) C dX9_turn_30 (by decide) hf (fun hf => ?_) (fun hf => ?_)
    · refine mg_iconst (pc := 37) C dX9_turn_37 (v := 0) (by decide) ?_
      obtain rfl := Option.some.inj hf
      exact E _ _ dX9_turn_38
    · refine mg_iconst (pc := 33) C dX9_turn_33 (v := 1) (by decide) ?_
      refine mg_goto (pc := 34) (tgt := 38) C dX9_turn_34 (by decide) ?_
      obtain rfl := Option.some.inj hf
      exact E _ _ dX9_turn_38
  · refine mg_iconst (pc := 17) C dX9_turn_17 (v := (-1)) (by decide) ?_
    refine mg_goto (pc := 18) (tgt := 38) C dX9_turn_18 (by decide) ?_
    obtain rfl := Option.some.inj hf
    exact E _ _ dX9_turn_38
abbrev w_X9_next (k : mg_K) (a_t a_t_s a_t_past a_t_aside a_t_text a_t_told a_t_bottoms a_t_planned : Nat) (v_t_pasts : Int32) (v_t_typed : Int32) (v_t_at : Int32) (v_t_kind : Int32) (v_t_from : Int32) (v_t_value : Int32) (v_t_planLength : Int32) (v_t_planAmount : Int32) (v_t_s : Nat → Int32) : va_W := [(a_t, .inr (9, [.ref a_t_s, .ref a_t_past, .ref a_t_aside, .int v_t_pasts, .ref a_t_text, .int v_t_typed, .int v_t_at, .int v_t_kind, .int v_t_from, .int v_t_value, .ref a_t_told, .ref a_t_bottoms, .ref a_t_planned, .int v_t_planLength, .int v_t_planAmount])), (a_t_s, .inl (k.2.1, 227, .inl v_t_s))]
def f_X9_next (fuel : Nat) (v_t_s : Nat → Int32) : Option (Int32) := if (v_t_s 2) = 200 then (some 0) else ((f_X9_over fuel v_t_s).bind (fun q1 => if 0 < q1 then ((f_X9_turn fuel v_t_s 0).bind (fun q3 => (f_X9_size ((v_t_s 3) + q3)).bind (fun q5 => if 5 < q5 then (some 2) else ((f_X9_turn fuel v_t_s 1).bind (fun q7 => (f_X9_size ((v_t_s 4) + q7)).bind (fun q9 => if q9 ≤ 5 then (some 1) else (some 2))))))) else (some 0)))
theorem Y_X9_next : mg_Y yX9_next cX9_next 1 (some .int) 0 := ⟨wm_1150, wp_56, wm_11, wm_1151, ⟨by decide +kernel, by decide +kernel, by decide +kernel⟩, by decide⟩
set_option maxRecDepth 100000 in
set_option maxHeartbeats 4000000 in
theorem c_X9_next (l : Launch) (k : mg_K) (a_t a_t_s a_t_past a_t_aside a_t_text a_t_told a_t_bottoms a_t_planned : Nat) (v_t_pasts : Int32) (v_t_typed : Int32) (v_t_at : Int32) (v_t_kind : Int32) (v_t_from : Int32) (v_t_value : Int32) (v_t_planLength : Int32) (v_t_planAmount : Int32) (v_t_s : Nat → Int32) (fuel : Nat) (q : Int32) (hf : f_X9_next fuel v_t_s = some q) : mg_M l yX9_next cX9_next 1 (some .int) 7 k [.ref a_t] (w_X9_next k a_t a_t_s a_t_past a_t_aside a_t_text a_t_told a_t_bottoms a_t_planned v_t_pasts v_t_typed v_t_at v_t_kind v_t_from v_t_value v_t_planLength v_t_planAmount v_t_s) (w_X9_next k a_t a_t_s a_t_past a_t_aside a_t_text a_t_told a_t_bottoms a_t_planned v_t_pasts v_t_typed v_t_at v_t_kind v_t_from v_t_value v_t_planLength v_t_planAmount v_t_s) (some (.int q)) := by
  refine mg_Mi RX9 [(0, .ref a_t)] (by decide +kernel) rfl rfl (Nat.le_of_ble_eq_true rfl) ?_
  intro z A Q hl C E
  subst hl
  unfold f_X9_next at hf
  refine mg_aload_n (pc := 0) C 0 dX9_next_0 rfl rfl ?_
  refine mg_get (pc := 1) C 0 rfl rfl inX9 0 (by decide) wm_874 rfl rfl dX9_next_1 ?_
  refine mg_iconst (pc := 4) C dX9_next_4 (v := 2) (by decide) ?_
  refine mg_ialdK (pc := 5) C 1 2 rfl dX9_next_5 (by decide) (by decide) ?_
  refine mg_sipush (pc := 6) C dX9_next_6 (v := 200) (by decide) ?_
  refine mg_icmp_eq (pc := 9) (tgt := 19) C dX9_next_9 (by decide) hf (fun hf => ?_) (fun hf => ?_)
  · refine mg_iconst (pc := 19) C dX9_next_19 (v := 0) (by decide) ?_
    obtain rfl := Option.some.inj hf
    exact E _ _ dX9_next_20
  · refine mg_aload_n (pc := 12) C 0 dX9_next_12 rfl rfl ?_
    obtain ⟨q1, h2, hf⟩ := mg_b hf
    refine mg_callV (pc := 13) C (w2 := w_X9_next k a_t a_t_s a_t_past a_t_aside a_t_text a_t_told a_t_bottoms a_t_planned v_t_pasts v_t_typed v_t_at v_t_kind v_t_from v_t_value v_t_planLength v_t_planAmount v_t_s) (c_X9_over z.2.1 k a_t a_t_s a_t_past a_t_aside a_t_text a_t_told a_t_bottoms a_t_planned v_t_pasts v_t_typed v_t_at v_t_kind v_t_from v_t_value v_t_planLength v_t_planAmount v_t_s fuel q1 h2) Y_X9_over wm_1128 (by decide) rfl 0 rfl rfl rfl [0, 1] rfl (by decide) rfl [some 0, some 1] (by decide) rfl (Nat.le_of_ble_eq_true rfl) rfl dX9_next_13 ?_
    refine mg_if_gt (pc := 16) (tgt := 21) C dX9_next_16 (by decide) hf (fun hf => ?_) (fun hf => ?_)
    · refine mg_aload_n (pc := 21) C 0 dX9_next_21 rfl rfl ?_
      refine mg_get (pc := 22) C 0 rfl rfl inX9 0 (by decide) wm_874 rfl rfl dX9_next_22 ?_
      refine mg_iconst (pc := 25) C dX9_next_25 (v := 3) (by decide) ?_
      refine mg_ialdK (pc := 26) C 1 3 rfl dX9_next_26 (by decide) (by decide) ?_
      refine mg_aload_n (pc := 27) C 0 dX9_next_27 rfl rfl ?_
      refine mg_iconst (pc := 28) C dX9_next_28 (v := 0) (by decide) ?_
      obtain ⟨q3, h4, hf⟩ := mg_b hf
      refine mg_callV (pc := 29) C (w2 := w_X9_next k a_t a_t_s a_t_past a_t_aside a_t_text a_t_told a_t_bottoms a_t_planned v_t_pasts v_t_typed v_t_at v_t_kind v_t_from v_t_value v_t_planLength v_t_planAmount v_t_s) (c_X9_turn z.2.1 k a_t a_t_s a_t_past a_t_aside a_t_text a_t_told a_t_bottoms a_t_planned v_t_pasts v_t_typed v_t_at v_t_kind v_t_from v_t_value v_t_planLength v_t_planAmount v_t_s fuel 0 q3 h4) Y_X9_turn wm_1152 (by decide) rfl 0 rfl rfl rfl [0, 1] rfl (by decide) rfl [some 0, some 1] (by decide) rfl (Nat.le_of_ble_eq_true rfl) rfl dX9_next_29 ?_
      refine mg_iadd (pc := 32) C dX9_next_32 ?_
      obtain ⟨q5, h6, hf⟩ := mg_b hf
      refine mg_callS (pc := 33) C (w2 := w_X9_next k a_t a_t_s a_t_past a_t_aside a_t_text a_t_told a_t_bottoms a_t_planned v_t_pasts v_t_typed v_t_at v_t_kind v_t_from v_t_value v_t_planLength v_t_planAmount v_t_s) (c_X9_size z.2.1 k ((v_t_s 3) + q3) q5 h6) Y_X9_size wm_1156 (by decide) rfl [] rfl (by decide) rfl [none, none] (by decide) rfl (Nat.le_of_ble_eq_true rfl) rfl dX9_next_33 ?_
      refine mg_iconst (pc := 36) C dX9_next_36 (v := 5) (by decide) ?_
      refine mg_icmp_gt (pc := 37) (tgt := 59) C dX9_next_37 (by decide) hf (fun hf => ?_) (fun hf => ?_)
      · refine mg_iconst (pc := 59) C dX9_next_59 (v := 2) (by decide) ?_
        refine mg_goto (pc := 60) (tgt := 64) C dX9_next_60 (by decide) ?_
        obtain rfl := Option.some.inj hf
        exact E _ _ dX9_next_64
      · refine mg_aload_n (pc := 40) C 0 dX9_next_40 rfl rfl ?_
        refine mg_get (pc := 41) C 0 rfl rfl inX9 0 (by decide) wm_874 rfl rfl dX9_next_41 ?_
        refine mg_iconst (pc := 44) C dX9_next_44 (v := 4) (by decide) ?_
        refine mg_ialdK (pc := 45) C 1 4 rfl dX9_next_45 (by decide) (by decide) ?_
        refine mg_aload_n (pc := 46) C 0 dX9_next_46 rfl rfl ?_
        refine mg_iconst (pc := 47) C dX9_next_47 (v := 1) (by decide) ?_
        obtain ⟨q7, h8, hf⟩ := mg_b hf
        refine mg_callV (pc := 48) C (w2 := w_X9_next k a_t a_t_s a_t_past a_t_aside a_t_text a_t_told a_t_bottoms a_t_planned v_t_pasts v_t_typed v_t_at v_t_kind v_t_from v_t_value v_t_planLength v_t_planAmount v_t_s) (c_X9_turn z.2.1 k a_t a_t_s a_t_past a_t_aside a_t_text a_t_told a_t_bottoms a_t_planned v_t_pasts v_t_typed v_t_at v_t_kind v_t_from v_t_value v_t_planLength v_t_planAmount v_t_s fuel 1 q7 h8) Y_X9_turn wm_1152 (by decide) rfl 0 rfl rfl rfl [0, 1] rfl (by decide) rfl [some 0, some 1] (by decide) rfl (Nat.le_of_ble_eq_true rfl) rfl dX9_next_48 ?_
        refine mg_iadd (pc := 51) C dX9_next_51 ?_
        obtain ⟨q9, h10, hf⟩ := mg_b hf
        refine mg_callS (pc := 52) C (w2 := w_X9_next k a_t a_t_s a_t_past a_t_aside a_t_text a_t_told a_t_bottoms a_t_planned v_t_pasts v_t_typed v_t_at v_t_kind v_t_from v_t_value v_t_planLength v_t_planAmount v_t_s) (c_X9_size z.2.1 k ((v_t_s 4) + q7) q9 h10) Y_X9_size wm_1156 (by decide) rfl [] rfl (by decide) rfl [none, none] (by decide) rfl (Nat.le_of_ble_eq_true rfl) rfl dX9_next_52 ?_
        refine mg_iconst (pc := 55) C dX9_next_55 (v := 5) (by decide) ?_
        refine mg_icmp_le (pc := 56) (tgt := 63) C dX9_next_56 (by decide) hf (fun hf => ?_) (fun hf => ?_)
        · refine mg_iconst (pc := 63) C dX9_next_63 (v := 1) (by decide) ?_
          obtain rfl := Option.some.inj hf
          exact E _ _ dX9_next_64
        · refine mg_iconst (pc := 59) C dX9_next_59 (v := 2) (by decide) ?_
          refine mg_goto (pc := 60) (tgt := 64) C dX9_next_60 (by decide) ?_
          obtain rfl := Option.some.inj hf
          exact E _ _ dX9_next_64
    · refine mg_iconst (pc := 19) C dX9_next_19 (v := 0) (by decide) ?_
      obtain rfl := Option.some.inj hf
      exact E _ _ dX9_next_20
abbrev w_X9_settles (k : mg_K) (a_t a_t_s a_t_past a_t_aside a_t_text a_t_told a_t_bottoms a_t_planned : Nat) (v_t_pasts : Int32) (v_t_typed : Int32) (v_t_at : Int32) (v_t_kind : Int32) (v_t_from : Int32) (v_t_value : Int32) (v_t_planLength : Int32) (v_t_planAmount : Int32) (v_t_s : Nat → Int32) : va_W := [(a_t, .inr (9, [.ref a_t_s, .ref a_t_past, .ref a_t_aside, .int v_t_pasts, .ref a_t_text, .int v_t_typed, .int v_t_at, .int v_t_kind, .int v_t_from, .int v_t_value, .ref a_t_told, .ref a_t_bottoms, .ref a_t_planned, .int v_t_planLength, .int v_t_planAmount])), (a_t_s, .inl (k.2.1, 227, .inl v_t_s))]
def f_X9_settles_L2 (fuel : Nat) (x1 : Int32) : Nat → Int32 → (Nat → Int32) → Option (Int32 × (Nat → Int32))
  | 0, _, _ => none
  | n_ + 1, x2, v_t_s => if x1 ≤ x2 then (some ((x2, v_t_s))) else ((f_X9_next fuel v_t_s).bind (fun q1 => if q1 = 1 then ((f_X9_turn fuel v_t_s 0).bind (fun q3 => (f_X9_turn fuel v_t_s 1).bind (fun q5 => f_X9_settles_L2 fuel x1 n_ (x2 + 1) (upd (upd (upd v_t_s 3 ((v_t_s 3) + q3)) 4 (((upd v_t_s 3 ((v_t_s 3) + q3)) 4) + q5)) 2 (((upd (upd v_t_s 3 ((v_t_s 3) + q3)) 4 (((upd v_t_s 3 ((v_t_s 3) + q3)) 4) + q5)) 2) + 1))))) else (some ((x2, v_t_s)))))
def f_X9_settles_L67 (fuel : Nat) : Nat → Int32 → (Nat → Int32) → Option (Int32 × (Nat → Int32))
  | 0, _, _ => none
  | n_ + 1, x3, v_t_s => (f_X9_cells v_t_s).bind (fun q9 => if q9 ≤ x3 then (some ((x3, v_t_s))) else (if mg_ix (117 + x3) 227 = true then ((f_X9_isWell v_t_s x3).bind (fun q11 => if q11 = 0 then (f_X9_settles_L67 fuel n_ (x3 + 1) v_t_s) else ((f_X9_groundAt fuel v_t_s (v_t_s (Int32.toNatClampNeg (117 + x3))) 0).bind (fun q13 => if ((v_t_s (Int32.toNatClampNeg (117 + x3))) - (v_t_s 2)) ≤ (4 + (q13 / 5)) then (f_X9_settles_L67 fuel n_ (x3 + 1) v_t_s) else (if mg_ix (117 + x3) 227 = true then (f_X9_settles_L67 fuel n_ (x3 + 1) (upd v_t_s (Int32.toNatClampNeg (117 + x3)) (v_t_s 2))) else none))))) else none))
def f_X9_settles_J65 (fuel : Nat) (v_t_s : Nat → Int32) (x2 : Int32) : Option (Int32 × (Nat → Int32)) := (f_X9_settles_L67 fuel fuel 0 v_t_s).bind (fun q15 => some (x2, q15.2))
def f_X9_settles (fuel : Nat) (v_t_s : Nat → Int32) (x1 : Int32) : Option (Int32 × (Nat → Int32)) := (f_X9_settles_L2 fuel x1 fuel 0 v_t_s).bind (fun q7 => f_X9_settles_J65 fuel q7.2 q7.1)
theorem Y_X9_settles : mg_Y yX9_settles cX9_settles 5 (some .int) 1 := ⟨wm_1189, wp_60, wm_11, wm_1190, ⟨by decide +kernel, by decide +kernel, by decide +kernel⟩, by decide⟩
set_option maxRecDepth 100000 in
set_option maxHeartbeats 4000000 in
theorem c_X9_settles (l : Launch) (k : mg_K) (a_t a_t_s a_t_past a_t_aside a_t_text a_t_told a_t_bottoms a_t_planned : Nat) (v_t_pasts : Int32) (v_t_typed : Int32) (v_t_at : Int32) (v_t_kind : Int32) (v_t_from : Int32) (v_t_value : Int32) (v_t_planLength : Int32) (v_t_planAmount : Int32) (v_t_s : Nat → Int32) (fuel : Nat) (x1 : Int32) (q : Int32 × (Nat → Int32)) (hf : f_X9_settles fuel v_t_s x1 = some q) : mg_M l yX9_settles cX9_settles 5 (some .int) 8 k [.ref a_t, .int x1] (w_X9_settles k a_t a_t_s a_t_past a_t_aside a_t_text a_t_told a_t_bottoms a_t_planned v_t_pasts v_t_typed v_t_at v_t_kind v_t_from v_t_value v_t_planLength v_t_planAmount v_t_s) (w_X9_settles k a_t a_t_s a_t_past a_t_aside a_t_text a_t_told a_t_bottoms a_t_planned v_t_pasts v_t_typed v_t_at v_t_kind v_t_from v_t_value v_t_planLength v_t_planAmount q.2) (some (.int q.1)) := by
  refine mg_Mi RX9 [(0, .ref a_t), (1, .int x1)] (by decide +kernel) rfl rfl (Nat.le_of_ble_eq_true rfl) ?_
  intro z A Q hl C E
  subst hl
  unfold f_X9_settles at hf
  have L2 : ∀ (x1 : Int32) (n_ : Nat) (x2 : Int32) (v_t_s : Nat → Int32) (q_ : Int32 × (Nat → Int32)), f_X9_settles_L2 fuel x1 n_ x2 v_t_s = some q_ → (mg z k A 5 0 0 Q (w_X9_settles k a_t a_t_s a_t_past a_t_aside a_t_text a_t_told a_t_bottoms a_t_planned v_t_pasts v_t_typed v_t_at v_t_kind v_t_from v_t_value v_t_planLength v_t_planAmount q_.2) [(0, .ref a_t), (2, .int q_.1)] 65 []) → mg z k A 5 0 0 Q (w_X9_settles k a_t a_t_s a_t_past a_t_aside a_t_text a_t_told a_t_bottoms a_t_planned v_t_pasts v_t_typed v_t_at v_t_kind v_t_from v_t_value v_t_planLength v_t_planAmount v_t_s) [(0, .ref a_t), (1, .int x1), (2, .int x2)] 2 [] := by
    intro x1 n_
    induction n_ with
    | zero => intro x2 v_t_s q_ hf; exact mg_no (show none = some q_ from hf)
    | succ n_ ih =>
      intro x2 v_t_s q_ hf X0
      rw [f_X9_settles_L2] at hf
      refine mg_iload_n (pc := 2) C 2 dX9_settles_2 rfl rfl ?_
      refine mg_iload_n (pc := 3) C 1 dX9_settles_3 rfl rfl ?_
      refine mg_icmp_ge (pc := 4) (tgt := 65) C dX9_settles_4 (by decide) hf (fun hf => ?_) (fun hf => ?_)
      · obtain rfl := Option.some.inj hf
        refine mg_lv [0, 2] rfl ?_
        exact X0
      · refine mg_aload_n (pc := 7) C 0 dX9_settles_7 rfl rfl ?_
        obtain ⟨q1, h2, hf⟩ := mg_b hf
        refine mg_callV (pc := 8) C (w2 := w_X9_settles k a_t a_t_s a_t_past a_t_aside a_t_text a_t_told a_t_bottoms a_t_planned v_t_pasts v_t_typed v_t_at v_t_kind v_t_from v_t_value v_t_planLength v_t_planAmount v_t_s) (c_X9_next z.2.1 k a_t a_t_s a_t_past a_t_aside a_t_text a_t_told a_t_bottoms a_t_planned v_t_pasts v_t_typed v_t_at v_t_kind v_t_from v_t_value v_t_planLength v_t_planAmount v_t_s fuel q1 h2) Y_X9_next wm_1148 (by decide) rfl 0 rfl rfl rfl [0, 1] rfl (by decide) rfl [some 0, some 1] (by decide) rfl (Nat.le_of_ble_eq_true rfl) rfl dX9_settles_8 ?_
        refine mg_iconst (pc := 11) C dX9_settles_11 (v := 1) (by decide) ?_
        refine mg_icmp_ne (pc := 12) (tgt := 65) C dX9_settles_12 (by decide) hf (fun hf => ?_) (fun hf => ?_)
        · obtain rfl := Option.some.inj hf
          refine mg_lv [0, 2] rfl ?_
          exact X0
        · refine mg_aload_n (pc := 15) C 0 dX9_settles_15 rfl rfl ?_
          refine mg_iconst (pc := 16) C dX9_settles_16 (v := 0) (by decide) ?_
          obtain ⟨q3, h4, hf⟩ := mg_b hf
          refine mg_callV (pc := 17) C (w2 := w_X9_settles k a_t a_t_s a_t_past a_t_aside a_t_text a_t_told a_t_bottoms a_t_planned v_t_pasts v_t_typed v_t_at v_t_kind v_t_from v_t_value v_t_planLength v_t_planAmount v_t_s) (c_X9_turn z.2.1 k a_t a_t_s a_t_past a_t_aside a_t_text a_t_told a_t_bottoms a_t_planned v_t_pasts v_t_typed v_t_at v_t_kind v_t_from v_t_value v_t_planLength v_t_planAmount v_t_s fuel 0 q3 h4) Y_X9_turn wm_1152 (by decide) rfl 0 rfl rfl rfl [0, 1] rfl (by decide) rfl [some 0, some 1] (by decide) rfl (Nat.le_of_ble_eq_true rfl) rfl dX9_settles_17 ?_
          refine mg_istore_n (pc := 20) C (lv' := [(3, .int q3), (0, .ref a_t), (1, .int x1), (2, .int x2)]) dX9_settles_20 rfl (by decide) rfl ?_
          refine mg_aload_n (pc := 21) C 1 dX9_settles_21 rfl rfl ?_
          refine mg_iconst (pc := 22) C dX9_settles_22 (v := 1) (by decide) ?_
          obtain ⟨q5, h6, hf⟩ := mg_b hf
          refine mg_callV (pc := 23) C (w2 := w_X9_settles k a_t a_t_s a_t_past a_t_aside a_t_text a_t_told a_t_bottoms a_t_planned v_t_pasts v_t_typed v_t_at v_t_kind v_t_from v_t_value v_t_planLength v_t_planAmount v_t_s) (c_X9_turn z.2.1 k a_t a_t_s a_t_past a_t_aside a_t_text a_t_told a_t_bottoms a_t_planned v_t_pasts v_t_typed v_t_at v_t_kind v_t_from v_t_value v_t_planLength v_t_planAmount v_t_s fuel 1 q5 h6) Y_X9_turn wm_1152 (by decide) rfl 0 rfl rfl rfl [0, 1] rfl (by decide) rfl [some 0, some 1] (by decide) rfl (Nat.le_of_ble_eq_true rfl) rfl dX9_settles_23 ?_
          refine mg_istore (pc := 26) C (lv' := [(4, .int q5), (3, .int q3), (0, .ref a_t), (1, .int x1), (2, .int x2)]) dX9_settles_26 (by decide) rfl ?_
          refine mg_aload_n (pc := 28) C 2 dX9_settles_28 rfl rfl ?_
          refine mg_get (pc := 29) C 0 rfl rfl inX9 0 (by decide) wm_874 rfl rfl dX9_settles_29 ?_
          refine mg_iconst (pc := 32) C dX9_settles_32 (v := 3) (by decide) ?_
          refine mg_dup2 (pc := 33) C dX9_settles_33 rfl rfl ?_
          refine mg_ialdK (pc := 34) C 1 3 rfl dX9_settles_34 (by decide) (by decide) ?_
          refine mg_iload_n (pc := 35) C 1 dX9_settles_35 rfl rfl ?_
          refine mg_iadd (pc := 36) C dX9_settles_36 ?_
          refine mg_iastK (pc := 37) C (w2 := w_X9_settles k a_t a_t_s a_t_past a_t_aside a_t_text a_t_told a_t_bottoms a_t_planned v_t_pasts v_t_typed v_t_at v_t_kind v_t_from v_t_value v_t_planLength v_t_planAmount (upd v_t_s 3 ((v_t_s 3) + q3))) 1 3 rfl dX9_settles_37 (by decide) (by decide) rfl ?_
          refine mg_aload_n (pc := 38) C 2 dX9_settles_38 rfl rfl ?_
          refine mg_get (pc := 39) C 0 rfl rfl inX9 0 (by decide) wm_874 rfl rfl dX9_settles_39 ?_
          refine mg_iconst (pc := 42) C dX9_settles_42 (v := 4) (by decide) ?_
          refine mg_dup2 (pc := 43) C dX9_settles_43 rfl rfl ?_
          refine mg_ialdK (pc := 44) C 1 4 rfl dX9_settles_44 (by decide) (by decide) ?_
          refine mg_iload (pc := 45) C 0 dX9_settles_45 rfl ?_
          refine mg_iadd (pc := 47) C dX9_settles_47 ?_
          refine mg_iastK (pc := 48) C (w2 := w_X9_settles k a_t a_t_s a_t_past a_t_aside a_t_text a_t_told a_t_bottoms a_t_planned v_t_pasts v_t_typed v_t_at v_t_kind v_t_from v_t_value v_t_planLength v_t_planAmount (upd (upd v_t_s 3 ((v_t_s 3) + q3)) 4 (((upd v_t_s 3 ((v_t_s 3) + q3)) 4) + q5))) 1 4 rfl dX9_settles_48 (by decide) (by decide) rfl ?_
          refine mg_aload_n (pc := 49) C 2 dX9_settles_49 rfl rfl ?_
          refine mg_get (pc := 50) C 0 rfl rfl inX9 0 (by decide) wm_874 rfl rfl dX9_settles_50 ?_
          refine mg_iconst (pc := 53) C dX9_settles_53 (v := 2) (by decide) ?_
          refine mg_dup2 (pc := 54) C dX9_settles_54 rfl rfl ?_
          refine mg_ialdK (pc := 55) C 1 2 rfl dX9_settles_55 (by decide) (by decide) ?_
          refine mg_iconst (pc := 56) C dX9_settles_56 (v := 1) (by decide) ?_
          refine mg_iadd (pc := 57) C dX9_settles_57 ?_
          refine mg_iastK (pc := 58) C (w2 := w_X9_settles k a_t a_t_s a_t_past a_t_aside a_t_text a_t_told a_t_bottoms a_t_planned v_t_pasts v_t_typed v_t_at v_t_kind v_t_from v_t_value v_t_planLength v_t_planAmount (upd (upd (upd v_t_s 3 ((v_t_s 3) + q3)) 4 (((upd v_t_s 3 ((v_t_s 3) + q3)) 4) + q5)) 2 (((upd (upd v_t_s 3 ((v_t_s 3) + q3)) 4 (((upd v_t_s 3 ((v_t_s 3) + q3)) 4) + q5)) 2) + 1))) 1 2 rfl dX9_settles_58 (by decide) (by decide) rfl ?_
          refine mg_iinc (pc := 59) C (c := 1) (lv' := [(2, .int (x2 + 1)), (4, .int q5), (3, .int q3), (0, .ref a_t), (1, .int x1)]) 4 dX9_settles_59 rfl (by decide) (by decide) rfl ?_
          refine mg_goto (pc := 62) (tgt := 2) C dX9_settles_62 (by decide) ?_
          refine mg_lv [3, 4, 0] rfl ?_
          exact ih (x2 + 1) (upd (upd (upd v_t_s 3 ((v_t_s 3) + q3)) 4 (((upd v_t_s 3 ((v_t_s 3) + q3)) 4) + q5)) 2 (((upd (upd v_t_s 3 ((v_t_s 3) + q3)) 4 (((upd v_t_s 3 ((v_t_s 3) + q3)) 4) + q5)) 2) + 1)) _ hf X0
  have L67 : ∀ (x2 : Int32) (n_ : Nat) (x3 : Int32) (v_t_s : Nat → Int32) (q_ : Int32 × (Nat → Int32)), f_X9_settles_L67 fuel n_ x3 v_t_s = some q_ → (mg z k A 5 0 0 Q (w_X9_settles k a_t a_t_s a_t_past a_t_aside a_t_text a_t_told a_t_bottoms a_t_planned v_t_pasts v_t_typed v_t_at v_t_kind v_t_from v_t_value v_t_planLength v_t_planAmount q_.2) [(2, .int x2)] 138 []) → mg z k A 5 0 0 Q (w_X9_settles k a_t a_t_s a_t_past a_t_aside a_t_text a_t_told a_t_bottoms a_t_planned v_t_pasts v_t_typed v_t_at v_t_kind v_t_from v_t_value v_t_planLength v_t_planAmount v_t_s) [(0, .ref a_t), (2, .int x2), (3, .int x3)] 67 [] := by
    intro x2 n_
    induction n_ with
    | zero => intro x3 v_t_s q_ hf; exact mg_no (show none = some q_ from hf)
    | succ n_ ih =>
      intro x3 v_t_s q_ hf X0
      rw [f_X9_settles_L67] at hf
      refine mg_iload_n (pc := 67) C 2 dX9_settles_67 rfl rfl ?_
      refine mg_aload_n (pc := 68) C 0 dX9_settles_68 rfl rfl ?_
      obtain ⟨q9, h10, hf⟩ := mg_b hf
      refine mg_callV (pc := 69) C (w2 := w_X9_settles k a_t a_t_s a_t_past a_t_aside a_t_text a_t_told a_t_bottoms a_t_planned v_t_pasts v_t_typed v_t_at v_t_kind v_t_from v_t_value v_t_planLength v_t_planAmount v_t_s) (c_X9_cells z.2.1 k a_t a_t_s a_t_past a_t_aside a_t_text a_t_told a_t_bottoms a_t_planned v_t_pasts v_t_typed v_t_at v_t_kind v_t_from v_t_value v_t_planLength v_t_planAmount v_t_s q9 h10) Y_X9_cells wm_1061 (by decide) rfl 0 rfl rfl rfl [0, 1] rfl (by decide) rfl [some 0, some 1] (by decide) rfl (Nat.le_of_ble_eq_true rfl) rfl dX9_settles_69 ?_
      refine mg_icmp_ge (pc := 72) (tgt := 138) C dX9_settles_72 (by decide) hf (fun hf => ?_) (fun hf => ?_)
      · obtain rfl := Option.some.inj hf
        refine mg_lv [1] rfl ?_
        exact X0
      · refine mg_aload_n (pc := 75) C 0 dX9_settles_75 rfl rfl ?_
        refine mg_get (pc := 76) C 0 rfl rfl inX9 0 (by decide) wm_874 rfl rfl dX9_settles_76 ?_
        refine mg_bipush (pc := 79) C dX9_settles_79 (v := 117) (by decide) ?_
        refine mg_iload_n (pc := 81) C 2 dX9_settles_81 rfl rfl ?_
        refine mg_iadd (pc := 82) C dX9_settles_82 ?_
        refine mg_iald (pc := 83) C 1 rfl dX9_settles_83 hf (fun hf => ?_)
        refine mg_istore (pc := 84) C (lv' := [(4, .int (v_t_s (Int32.toNatClampNeg (117 + x3)))), (0, .ref a_t), (2, .int x2), (3, .int x3)]) dX9_settles_84 (by decide) rfl ?_
        refine mg_aload_n (pc := 86) C 1 dX9_settles_86 rfl rfl ?_
        refine mg_iload_n (pc := 87) C 3 dX9_settles_87 rfl rfl ?_
        obtain ⟨q11, h12, hf⟩ := mg_b hf
        refine mg_callV (pc := 88) C (w2 := w_X9_settles k a_t a_t_s a_t_past a_t_aside a_t_text a_t_told a_t_bottoms a_t_planned v_t_pasts v_t_typed v_t_at v_t_kind v_t_from v_t_value v_t_planLength v_t_planAmount v_t_s) (c_X9_isWell z.2.1 k a_t a_t_s a_t_past a_t_aside a_t_text a_t_told a_t_bottoms a_t_planned v_t_pasts v_t_typed v_t_at v_t_kind v_t_from v_t_value v_t_planLength v_t_planAmount v_t_s x3 q11 h12) Y_X9_isWell wm_1120 (by decide) rfl 0 rfl rfl rfl [0, 1] rfl (by decide) rfl [some 0, some 1] (by decide) rfl (Nat.le_of_ble_eq_true rfl) rfl dX9_settles_88 ?_
        refine mg_if_eq (pc := 91) (tgt := 132) C dX9_settles_91 (by decide) hf (fun hf => ?_) (fun hf => ?_)
        · refine mg_iinc (pc := 132) C (c := 1) (lv' := [(3, .int (x3 + 1)), (4, .int (v_t_s (Int32.toNatClampNeg (117 + x3)))), (0, .ref a_t), (2, .int x2)]) 3 dX9_settles_132 rfl (by decide) (by decide) rfl ?_
          refine mg_goto (pc := 135) (tgt := 67) C dX9_settles_135 (by decide) ?_
          refine mg_lv [2, 3, 0] rfl ?_
          exact ih (x3 + 1) v_t_s _ hf X0
        · refine mg_iload (pc := 94) C 0 dX9_settles_94 rfl ?_
          refine mg_aload_n (pc := 96) C 1 dX9_settles_96 rfl rfl ?_
          refine mg_get (pc := 97) C 0 rfl rfl inX9 0 (by decide) wm_874 rfl rfl dX9_settles_97 ?_
          refine mg_iconst (pc := 100) C dX9_settles_100 (v := 2) (by decide) ?_
          refine mg_ialdK (pc := 101) C 1 2 rfl dX9_settles_101 (by decide) (by decide) ?_
          refine mg_isub (pc := 102) C dX9_settles_102 ?_
          refine mg_iconst (pc := 103) C dX9_settles_103 (v := 4) (by decide) ?_
          refine mg_aload_n (pc := 104) C 1 dX9_settles_104 rfl rfl ?_
          refine mg_iload (pc := 105) C 0 dX9_settles_105 rfl ?_
          refine mg_iconst (pc := 107) C dX9_settles_107 (v := 0) (by decide) ?_
          obtain ⟨q13, h14, hf⟩ := mg_b hf
          refine mg_callV (pc := 108) C (w2 := w_X9_settles k a_t a_t_s a_t_past a_t_aside a_t_text a_t_told a_t_bottoms a_t_planned v_t_pasts v_t_typed v_t_at v_t_kind v_t_from v_t_value v_t_planLength v_t_planAmount v_t_s) (c_X9_groundAt z.2.1 k a_t a_t_s a_t_past a_t_aside a_t_text a_t_told a_t_bottoms a_t_planned v_t_pasts v_t_typed v_t_at v_t_kind v_t_from v_t_value v_t_planLength v_t_planAmount v_t_s fuel (v_t_s (Int32.toNatClampNeg (117 + x3))) 0 q13 h14) Y_X9_groundAt wm_1041 (by decide) rfl 0 rfl rfl rfl [0, 1] rfl (by decide) rfl [some 0, some 1] (by decide) rfl (Nat.le_of_ble_eq_true rfl) rfl dX9_settles_108 ?_
          refine mg_iconst (pc := 111) C dX9_settles_111 (v := 5) (by decide) ?_
          refine mg_idiv (pc := 112) C dX9_settles_112 (by decide) ?_
          refine mg_iadd (pc := 113) C dX9_settles_113 ?_
          refine mg_icmp_le (pc := 114) (tgt := 132) C dX9_settles_114 (by decide) hf (fun hf => ?_) (fun hf => ?_)
          · refine mg_iinc (pc := 132) C (c := 1) (lv' := [(3, .int (x3 + 1)), (4, .int (v_t_s (Int32.toNatClampNeg (117 + x3)))), (0, .ref a_t), (2, .int x2)]) 3 dX9_settles_132 rfl (by decide) (by decide) rfl ?_
            refine mg_goto (pc := 135) (tgt := 67) C dX9_settles_135 (by decide) ?_
            refine mg_lv [2, 3, 0] rfl ?_
            exact ih (x3 + 1) v_t_s _ hf X0
          · refine mg_aload_n (pc := 117) C 1 dX9_settles_117 rfl rfl ?_
            refine mg_get (pc := 118) C 0 rfl rfl inX9 0 (by decide) wm_874 rfl rfl dX9_settles_118 ?_
            refine mg_bipush (pc := 121) C dX9_settles_121 (v := 117) (by decide) ?_
            refine mg_iload_n (pc := 123) C 3 dX9_settles_123 rfl rfl ?_
            refine mg_iadd (pc := 124) C dX9_settles_124 ?_
            refine mg_aload_n (pc := 125) C 1 dX9_settles_125 rfl rfl ?_
            refine mg_get (pc := 126) C 0 rfl rfl inX9 0 (by decide) wm_874 rfl rfl dX9_settles_126 ?_
            refine mg_iconst (pc := 129) C dX9_settles_129 (v := 2) (by decide) ?_
            refine mg_ialdK (pc := 130) C 1 2 rfl dX9_settles_130 (by decide) (by decide) ?_
            refine mg_iast (pc := 131) C (w2 := w_X9_settles k a_t a_t_s a_t_past a_t_aside a_t_text a_t_told a_t_bottoms a_t_planned v_t_pasts v_t_typed v_t_at v_t_kind v_t_from v_t_value v_t_planLength v_t_planAmount (upd v_t_s (Int32.toNatClampNeg (117 + x3)) (v_t_s 2))) 1 rfl dX9_settles_131 hf rfl (fun hf => ?_)
            refine mg_iinc (pc := 132) C (c := 1) (lv' := [(3, .int (x3 + 1)), (4, .int (v_t_s (Int32.toNatClampNeg (117 + x3)))), (0, .ref a_t), (2, .int x2)]) 3 dX9_settles_132 rfl (by decide) (by decide) rfl ?_
            refine mg_goto (pc := 135) (tgt := 67) C dX9_settles_135 (by decide) ?_
            refine mg_lv [2, 3, 0] rfl ?_
            exact ih (x3 + 1) (upd v_t_s (Int32.toNatClampNeg (117 + x3)) (v_t_s 2)) _ hf X0
  have J65 : ∀ (x2 : Int32) (v_t_s : Nat → Int32), f_X9_settles_J65 fuel v_t_s x2 = some q → mg z k A 5 0 0 Q (w_X9_settles k a_t a_t_s a_t_past a_t_aside a_t_text a_t_told a_t_bottoms a_t_planned v_t_pasts v_t_typed v_t_at v_t_kind v_t_from v_t_value v_t_planLength v_t_planAmount v_t_s) [(0, .ref a_t), (2, .int x2)] 65 [] := by
    intro x2 v_t_s hf
    unfold f_X9_settles_J65 at hf
    refine mg_iconst (pc := 65) C dX9_settles_65 (v := 0) (by decide) ?_
    refine mg_istore_n (pc := 66) C (lv' := [(3, .int 0), (0, .ref a_t), (2, .int x2)]) dX9_settles_66 rfl (by decide) rfl ?_
    obtain ⟨q15, h16, hf⟩ := mg_b hf
    refine mg_lv [1, 2, 0] rfl ?_
    refine L67 x2 fuel 0 v_t_s q15 h16 ?_
    refine mg_iload_n (pc := 138) C 0 dX9_settles_138 rfl rfl ?_
    obtain rfl := Option.some.inj hf
    exact E _ _ dX9_settles_139
  refine mg_iconst (pc := 0) C dX9_settles_0 (v := 0) (by decide) ?_
  refine mg_istore_n (pc := 1) C (lv' := [(2, .int 0), (0, .ref a_t), (1, .int x1)]) dX9_settles_1 rfl (by decide) rfl ?_
  obtain ⟨q7, h8, hf⟩ := mg_b hf
  refine mg_lv [1, 2, 0] rfl ?_
  refine L2 x1 fuel 0 v_t_s q7 h8 ?_
  exact J65 q7.1 q7.2 hf
