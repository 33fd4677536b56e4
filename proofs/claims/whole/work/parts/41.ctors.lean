abbrev w_S (k : mg_K) (b : Nat → Nat) (v : sv_T) : va_W := [((b 0), .inr (5, [.int v.1, .int v.2.1, .int v.2.2.1, .int v.2.2.2.1, .int v.2.2.2.2.1, .ref (b 1), .ref (b 8), .ref (b 9), .ref (b 5), .ref (b 2), .ref (b 11)])), ((b 1), .inl (k.2.1, 49, .inl v.2.2.2.2.2.1)), ((b 2), .inr (0, [.ref (b 3)])), ((b 3), .inr (7, [.int 10, .ref (b 4), .int v.2.2.2.2.2.2.1])), ((b 4), .inl (k.2.1, 30, .inl v.2.2.2.2.2.2.2.1)), ((b 5), .inr (2, [.ref (b 6)])), ((b 6), .inr (7, [.int 8, .ref (b 7), .int v.2.2.2.2.2.2.2.2.1])), ((b 7), .inl (k.2.1, 24, .inl v.2.2.2.2.2.2.2.2.2.1)), ((b 8), .inl (k.2.1, 4, .inl v.2.2.2.2.2.2.2.2.2.2.1)), ((b 9), .inr (4, [.int v.2.2.2.2.2.2.2.2.2.2.2.1, .int v.2.2.2.2.2.2.2.2.2.2.2.2.1, .int v.2.2.2.2.2.2.2.2.2.2.2.2.2.1, .ref (b 10)])), ((b 10), .inl (k.2.1, 49, .inl v.2.2.2.2.2.2.2.2.2.2.2.2.2.2.1)), ((b 11), .inr (7, [.int 20, .ref (b 12), .int v.2.2.2.2.2.2.2.2.2.2.2.2.2.2.2.1])), ((b 12), .inl (k.2.1, 60, .inl v.2.2.2.2.2.2.2.2.2.2.2.2.2.2.2.2))]
def mt_IV (v : sv_T) : Prop := ∃ a b c p q r : Nat → Int32, v = (5, 4, 600, 400, 400, (fun j => if j < 49 then 0 else a j), 0, p, 0, q, (fun j => if j < 4 then 0 else b j), 0, 0, 0, (fun j => if j < 49 then 0 else c j), 0, r)
def mt_bl (l : List Nat) : Nat → Nat := fun i => l.getD i 0
def mt_six (b : Nat → Nat → Nat) : Nat → Option Nat := fun j => if j < 6 then some (b j 0) else none
theorem mt_dX0 : ∀ j, j < 1 → defaultValue (tyX0 j) = vp_V [.null] j := by
  intro j hj
  rcases (show j = 0 by omega) with rfl <;> rfl
theorem mt_dX1 : ∀ j, j < 8 → defaultValue (tyX1 j) = vp_V [.null, .null, .null, .int 0, .int 0, .int 0, .int 0, .int 0] j := by
  intro j hj
  rcases (show j = 0 ∨ j = 1 ∨ j = 2 ∨ j = 3 ∨ j = 4 ∨ j = 5 ∨ j = 6 ∨ j = 7 by omega) with rfl | rfl | rfl | rfl | rfl | rfl | rfl | rfl <;> rfl
theorem mt_dX2 : ∀ j, j < 1 → defaultValue (tyX2 j) = vp_V [.null] j := by
  intro j hj
  rcases (show j = 0 by omega) with rfl <;> rfl
theorem mt_dX3 : ∀ j, j < 3 → defaultValue (tyX3 j) = vp_V [.null, .int 0, .int 0] j := by
  intro j hj
  rcases (show j = 0 ∨ j = 1 ∨ j = 2 by omega) with rfl | rfl | rfl <;> rfl
theorem mt_dX4 : ∀ j, j < 4 → defaultValue (tyX4 j) = vp_V [.int 0, .int 0, .int 0, .null] j := by
  intro j hj
  rcases (show j = 0 ∨ j = 1 ∨ j = 2 ∨ j = 3 by omega) with rfl | rfl | rfl | rfl <;> rfl
theorem mt_dX5 : ∀ j, j < 11 → defaultValue (tyX5 j) = vp_V [.int 0, .int 0, .int 0, .int 0, .int 0, .null, .null, .null, .null, .null, .null] j := by
  intro j hj
  rcases (show j = 0 ∨ j = 1 ∨ j = 2 ∨ j = 3 ∨ j = 4 ∨ j = 5 ∨ j = 6 ∨ j = 7 ∨ j = 8 ∨ j = 9 ∨ j = 10 by omega) with rfl | rfl | rfl | rfl | rfl | rfl | rfl | rfl | rfl | rfl | rfl <;> rfl
theorem mt_dX6 : ∀ j, j < 7 → defaultValue (tyX6 j) = vp_V [.null, .int 0, .int 0, .int 0, .int 0, .int 0, .null] j := by
  intro j hj
  rcases (show j = 0 ∨ j = 1 ∨ j = 2 ∨ j = 3 ∨ j = 4 ∨ j = 5 ∨ j = 6 by omega) with rfl | rfl | rfl | rfl | rfl | rfl | rfl <;> rfl
theorem mt_dX7 : ∀ j, j < 3 → defaultValue (tyX7 j) = vp_V [.int 0, .null, .int 0] j := by
  intro j hj
  rcases (show j = 0 ∨ j = 1 ∨ j = 2 by omega) with rfl | rfl | rfl <;> rfl
theorem mt_dX8 : ∀ j, j < 8 → defaultValue (tyX8 j) = vp_V [.null, .null, .null, .null, .null, .null, .null, .int 0] j := by
  intro j hj
  rcases (show j = 0 ∨ j = 1 ∨ j = 2 ∨ j = 3 ∨ j = 4 ∨ j = 5 ∨ j = 6 ∨ j = 7 by omega) with rfl | rfl | rfl | rfl | rfl | rfl | rfl | rfl <;> rfl
theorem mt_dX9 : ∀ j, j < 15 → defaultValue (tyX9 j) = vp_V [.null, .null, .null, .int 0, .null, .int 0, .int 0, .int 0, .int 0, .int 0, .null, .null, .null, .int 0, .int 0] j := by
  intro j hj
  rcases (show j = 0 ∨ j = 1 ∨ j = 2 ∨ j = 3 ∨ j = 4 ∨ j = 5 ∨ j = 6 ∨ j = 7 ∨ j = 8 ∨ j = 9 ∨ j = 10 ∨ j = 11 ∨ j = 12 ∨ j = 13 ∨ j = 14 by omega) with rfl | rfl | rfl | rfl | rfl | rfl | rfl | rfl | rfl | rfl | rfl | rfl | rfl | rfl | rfl <;> rfl
theorem YI_X7 : mg_YI yX7_init cX7_init 2 1 := ⟨wm_73, wm_6, wm_74, ⟨by decide +kernel, by decide +kernel, by decide +kernel⟩, by decide, rfl⟩
theorem YI_X4 : mg_YI yX4_init cX4_init 1 0 := ⟨wm_40, wm_4, wm_41, ⟨by decide +kernel, by decide +kernel, by decide +kernel⟩, by decide, rfl⟩
theorem YI_X2 : mg_YI yX2_init cX2_init 1 0 := ⟨wm_67, wm_5, wm_68, ⟨by decide +kernel, by decide +kernel, by decide +kernel⟩, by decide, rfl⟩
theorem YI_X0 : mg_YI yX0_init cX0_init 1 0 := ⟨wm_104, wm_8, wm_105, ⟨by decide +kernel, by decide +kernel, by decide +kernel⟩, by decide, rfl⟩
theorem YI_X5 : mg_YI yX5_init cX5_init 1 0 := ⟨wm_34, wm_3, wm_35, ⟨by decide +kernel, by decide +kernel, by decide +kernel⟩, by decide, rfl⟩
theorem YI_X1 : mg_YI yX1_init cX1_init 1 0 := ⟨wm_28, wm_2, wm_29, ⟨by decide +kernel, by decide +kernel, by decide +kernel⟩, by decide, rfl⟩
theorem YI_X3 : mg_YI yX3_init cX3_init 2 0 := ⟨wm_230, wm_9, wm_231, ⟨by decide +kernel, by decide +kernel, by decide +kernel⟩, by decide, rfl⟩
theorem YI_X6 : mg_YI yX6_init cX6_init 1 0 := ⟨wm_250, wm_10, wm_251, ⟨by decide +kernel, by decide +kernel, by decide +kernel⟩, by decide, rfl⟩
theorem YI_X8 : mg_YI yX8_init cX8_init 1 0 := ⟨wm_20, wm_1, wm_21, ⟨by decide +kernel, by decide +kernel, by decide +kernel⟩, by decide, rfl⟩
theorem YI_X9 : mg_YI yX9_init cX9_init 1 0 := ⟨wm_867, wm_11, wm_868, ⟨by decide +kernel, by decide +kernel, by decide +kernel⟩, by decide, rfl⟩
set_option maxRecDepth 100000 in
set_option maxHeartbeats 40000000 in
theorem i_X7_8 (l : Launch) (k : mg_K) (h0 : Nat) : mg_I l yX7_init cX7_init 2 1 1 24 k [.ref h0, .int 8] ([(h0, .inr (7, [.int 0, .null, .int 0]))]) (fun w9 => ∃ q0 : Nat, w9 = [(h0, .inr (7, [.int 8, .ref q0, .int 0])), (q0, .inl (k.2.1, 24, .inl (fun _ => 0)))]) := by
  refine mg_Iof RX7 [(0, .ref h0), (1, .int 8)] (by decide +kernel) rfl rfl rfl (Nat.le_of_ble_eq_true rfl) ?_
  intro z A Q hl C hRc hRs hin hO E
  subst hl
  refine mg_aload_n (pc := 0) C 0 dX7_init_0 rfl rfl ?_
  refine mg_objInit (pc := 1) C wm_75 wm_23 wm_24 (by decide) (Nat.le_of_ble_eq_true rfl) dX7_init_1 ?_
  refine mg_aload_n (pc := 4) C 0 dX7_init_4 rfl rfl ?_
  refine mg_iload_n (pc := 5) C 1 dX7_init_5 rfl rfl ?_
  refine mg_iconst (pc := 6) C dX7_init_6 (v := 1) (by decide) ?_
  refine mg_mmax (pc := 7) C wm_76 wm_77 wm_7 wm_78 (by decide) (Nat.le_of_ble_eq_true rfl) dX7_init_7 ?_
  rw [show mg_mx 8 1 = 8 from by decide]
  refine mg_putF (pc := 10) C (ty := .int) (w2 := [(h0, .inr (7, [.int 8, .null, .int 0]))]) hin 0 rfl rfl inX7 0 (by decide) wm_79 rfl tyX7 tyX7_ok nmX7 rfl rfl (by decide +kernel) rfl rfl (Nat.le_of_ble_eq_true rfl) rfl dX7_init_10 ?_
  refine mg_aload_n (pc := 13) C 0 dX7_init_13 rfl rfl ?_
  refine mg_aload_n (pc := 14) C 0 dX7_init_14 rfl rfl ?_
  refine mg_get (pc := 15) C 0 rfl rfl inX7 0 (by decide) wm_79 rfl rfl dX7_init_15 ?_
  refine mg_iconst (pc := 18) C dX7_init_18 (v := 3) (by decide) ?_
  refine mg_imul (pc := 19) C dX7_init_19 ?_
  rw [show ((8 : Int32) * 3) = 24 from by decide]
  refine mg_newi (pc := 20) C (N := 24) (w2 := fun q1 => [(h0, .inr (7, [.int 8, .null, .int 0])), (q1, .inl (k.2.1, 24, .inl (fun _ => 0)))]) wm_63 (by decide) (by decide) (by decide) (by rw [hRc]; exact Nat.le_of_ble_eq_true rfl) (by rw [hRs]; exact Nat.le_of_ble_eq_true rfl) (fun _ => rfl) dX7_init_20 (fun q1 => ?_)
  have C := mg_Cup C (kc' := 1) (ks' := 24) (by rw [hRc]; exact Nat.le_of_ble_eq_true rfl) (by rw [hRs]; exact Nat.le_of_ble_eq_true rfl)
  refine mg_putF (pc := 22) C (ty := (.array .int)) (w2 := [(h0, .inr (7, [.int 8, .ref q1, .int 0])), (q1, .inl (k.2.1, 24, .inl (fun _ => 0)))]) hin 0 rfl rfl inX7 1 (by decide) wm_80 rfl tyX7 tyX7_ok nmX7 rfl rfl (by decide +kernel) rfl rfl (Nat.le_of_ble_eq_true rfl) rfl dX7_init_22 ?_
  refine mg_aload_n (pc := 25) C 0 dX7_init_25 rfl rfl ?_
  refine mg_iconst (pc := 26) C dX7_init_26 (v := 0) (by decide) ?_
  refine mg_puti (pc := 27) C (w2 := [(h0, .inr (7, [.int 8, .ref q1, .int 0])), (q1, .inl (k.2.1, 24, .inl (fun _ => 0)))]) 0 rfl rfl inX7 2 (by decide) wm_83 rfl tyX7 tyX7_ok nmX7 rfl (by decide +kernel) (Nat.le_of_ble_eq_true rfl) rfl dX7_init_27 ?_
  exact E _ ⟨q1, rfl⟩ _ _ dX7_init_30
set_option maxRecDepth 100000 in
set_option maxHeartbeats 40000000 in
theorem i_X7_10 (l : Launch) (k : mg_K) (h0 : Nat) : mg_I l yX7_init cX7_init 2 1 1 30 k [.ref h0, .int 10] ([(h0, .inr (7, [.int 0, .null, .int 0]))]) (fun w9 => ∃ q0 : Nat, w9 = [(h0, .inr (7, [.int 10, .ref q0, .int 0])), (q0, .inl (k.2.1, 30, .inl (fun _ => 0)))]) := by
  refine mg_Iof RX7 [(0, .ref h0), (1, .int 10)] (by decide +kernel) rfl rfl rfl (Nat.le_of_ble_eq_true rfl) ?_
  intro z A Q hl C hRc hRs hin hO E
  subst hl
  refine mg_aload_n (pc := 0) C 0 dX7_init_0 rfl rfl ?_
  refine mg_objInit (pc := 1) C wm_75 wm_23 wm_24 (by decide) (Nat.le_of_ble_eq_true rfl) dX7_init_1 ?_
  refine mg_aload_n (pc := 4) C 0 dX7_init_4 rfl rfl ?_
  refine mg_iload_n (pc := 5) C 1 dX7_init_5 rfl rfl ?_
  refine mg_iconst (pc := 6) C dX7_init_6 (v := 1) (by decide) ?_
  refine mg_mmax (pc := 7) C wm_76 wm_77 wm_7 wm_78 (by decide) (Nat.le_of_ble_eq_true rfl) dX7_init_7 ?_
  rw [show mg_mx 10 1 = 10 from by decide]
  refine mg_putF (pc := 10) C (ty := .int) (w2 := [(h0, .inr (7, [.int 10, .null, .int 0]))]) hin 0 rfl rfl inX7 0 (by decide) wm_79 rfl tyX7 tyX7_ok nmX7 rfl rfl (by decide +kernel) rfl rfl (Nat.le_of_ble_eq_true rfl) rfl dX7_init_10 ?_
  refine mg_aload_n (pc := 13) C 0 dX7_init_13 rfl rfl ?_
  refine mg_aload_n (pc := 14) C 0 dX7_init_14 rfl rfl ?_
  refine mg_get (pc := 15) C 0 rfl rfl inX7 0 (by decide) wm_79 rfl rfl dX7_init_15 ?_
  refine mg_iconst (pc := 18) C dX7_init_18 (v := 3) (by decide) ?_
  refine mg_imul (pc := 19) C dX7_init_19 ?_
  rw [show ((10 : Int32) * 3) = 30 from by decide]
  refine mg_newi (pc := 20) C (N := 30) (w2 := fun q1 => [(h0, .inr (7, [.int 10, .null, .int 0])), (q1, .inl (k.2.1, 30, .inl (fun _ => 0)))]) wm_63 (by decide) (by decide) (by decide) (by rw [hRc]; exact Nat.le_of_ble_eq_true rfl) (by rw [hRs]; exact Nat.le_of_ble_eq_true rfl) (fun _ => rfl) dX7_init_20 (fun q1 => ?_)
  have C := mg_Cup C (kc' := 1) (ks' := 30) (by rw [hRc]; exact Nat.le_of_ble_eq_true rfl) (by rw [hRs]; exact Nat.le_of_ble_eq_true rfl)
  refine mg_putF (pc := 22) C (ty := (.array .int)) (w2 := [(h0, .inr (7, [.int 10, .ref q1, .int 0])), (q1, .inl (k.2.1, 30, .inl (fun _ => 0)))]) hin 0 rfl rfl inX7 1 (by decide) wm_80 rfl tyX7 tyX7_ok nmX7 rfl rfl (by decide +kernel) rfl rfl (Nat.le_of_ble_eq_true rfl) rfl dX7_init_22 ?_
  refine mg_aload_n (pc := 25) C 0 dX7_init_25 rfl rfl ?_
  refine mg_iconst (pc := 26) C dX7_init_26 (v := 0) (by decide) ?_
  refine mg_puti (pc := 27) C (w2 := [(h0, .inr (7, [.int 10, .ref q1, .int 0])), (q1, .inl (k.2.1, 30, .inl (fun _ => 0)))]) 0 rfl rfl inX7 2 (by decide) wm_83 rfl tyX7 tyX7_ok nmX7 rfl (by decide +kernel) (Nat.le_of_ble_eq_true rfl) rfl dX7_init_27 ?_
  exact E _ ⟨q1, rfl⟩ _ _ dX7_init_30
set_option maxRecDepth 100000 in
set_option maxHeartbeats 40000000 in
theorem i_X7_12 (l : Launch) (k : mg_K) (h0 : Nat) : mg_I l yX7_init cX7_init 2 1 1 36 k [.ref h0, .int 12] ([(h0, .inr (7, [.int 0, .null, .int 0]))]) (fun w9 => ∃ q0 : Nat, w9 = [(h0, .inr (7, [.int 12, .ref q0, .int 0])), (q0, .inl (k.2.1, 36, .inl (fun _ => 0)))]) := by
  refine mg_Iof RX7 [(0, .ref h0), (1, .int 12)] (by decide +kernel) rfl rfl rfl (Nat.le_of_ble_eq_true rfl) ?_
  intro z A Q hl C hRc hRs hin hO E
  subst hl
  refine mg_aload_n (pc := 0) C 0 dX7_init_0 rfl rfl ?_
  refine mg_objInit (pc := 1) C wm_75 wm_23 wm_24 (by decide) (Nat.le_of_ble_eq_true rfl) dX7_init_1 ?_
  refine mg_aload_n (pc := 4) C 0 dX7_init_4 rfl rfl ?_
  refine mg_iload_n (pc := 5) C 1 dX7_init_5 rfl rfl ?_
  refine mg_iconst (pc := 6) C dX7_init_6 (v := 1) (by decide) ?_
  refine mg_mmax (pc := 7) C wm_76 wm_77 wm_7 wm_78 (by decide) (Nat.le_of_ble_eq_true rfl) dX7_init_7 ?_
  rw [show mg_mx 12 1 = 12 from by decide]
  refine mg_putF (pc := 10) C (ty := .int) (w2 := [(h0, .inr (7, [.int 12, .null, .int 0]))]) hin 0 rfl rfl inX7 0 (by decide) wm_79 rfl tyX7 tyX7_ok nmX7 rfl rfl (by decide +kernel) rfl rfl (Nat.le_of_ble_eq_true rfl) rfl dX7_init_10 ?_
  refine mg_aload_n (pc := 13) C 0 dX7_init_13 rfl rfl ?_
  refine mg_aload_n (pc := 14) C 0 dX7_init_14 rfl rfl ?_
  refine mg_get (pc := 15) C 0 rfl rfl inX7 0 (by decide) wm_79 rfl rfl dX7_init_15 ?_
  refine mg_iconst (pc := 18) C dX7_init_18 (v := 3) (by decide) ?_
  refine mg_imul (pc := 19) C dX7_init_19 ?_
  rw [show ((12 : Int32) * 3) = 36 from by decide]
  refine mg_newi (pc := 20) C (N := 36) (w2 := fun q1 => [(h0, .inr (7, [.int 12, .null, .int 0])), (q1, .inl (k.2.1, 36, .inl (fun _ => 0)))]) wm_63 (by decide) (by decide) (by decide) (by rw [hRc]; exact Nat.le_of_ble_eq_true rfl) (by rw [hRs]; exact Nat.le_of_ble_eq_true rfl) (fun _ => rfl) dX7_init_20 (fun q1 => ?_)
  have C := mg_Cup C (kc' := 1) (ks' := 36) (by rw [hRc]; exact Nat.le_of_ble_eq_true rfl) (by rw [hRs]; exact Nat.le_of_ble_eq_true rfl)
  refine mg_putF (pc := 22) C (ty := (.array .int)) (w2 := [(h0, .inr (7, [.int 12, .ref q1, .int 0])), (q1, .inl (k.2.1, 36, .inl (fun _ => 0)))]) hin 0 rfl rfl inX7 1 (by decide) wm_80 rfl tyX7 tyX7_ok nmX7 rfl rfl (by decide +kernel) rfl rfl (Nat.le_of_ble_eq_true rfl) rfl dX7_init_22 ?_
  refine mg_aload_n (pc := 25) C 0 dX7_init_25 rfl rfl ?_
  refine mg_iconst (pc := 26) C dX7_init_26 (v := 0) (by decide) ?_
  refine mg_puti (pc := 27) C (w2 := [(h0, .inr (7, [.int 12, .ref q1, .int 0])), (q1, .inl (k.2.1, 36, .inl (fun _ => 0)))]) 0 rfl rfl inX7 2 (by decide) wm_83 rfl tyX7 tyX7_ok nmX7 rfl (by decide +kernel) (Nat.le_of_ble_eq_true rfl) rfl dX7_init_27 ?_
  exact E _ ⟨q1, rfl⟩ _ _ dX7_init_30
set_option maxRecDepth 100000 in
set_option maxHeartbeats 40000000 in
theorem i_X7_20 (l : Launch) (k : mg_K) (h0 : Nat) : mg_I l yX7_init cX7_init 2 1 1 60 k [.ref h0, .int 20] ([(h0, .inr (7, [.int 0, .null, .int 0]))]) (fun w9 => ∃ q0 : Nat, w9 = [(h0, .inr (7, [.int 20, .ref q0, .int 0])), (q0, .inl (k.2.1, 60, .inl (fun _ => 0)))]) := by
  refine mg_Iof RX7 [(0, .ref h0), (1, .int 20)] (by decide +kernel) rfl rfl rfl (Nat.le_of_ble_eq_true rfl) ?_
  intro z A Q hl C hRc hRs hin hO E
  subst hl
  refine mg_aload_n (pc := 0) C 0 dX7_init_0 rfl rfl ?_
  refine mg_objInit (pc := 1) C wm_75 wm_23 wm_24 (by decide) (Nat.le_of_ble_eq_true rfl) dX7_init_1 ?_
  refine mg_aload_n (pc := 4) C 0 dX7_init_4 rfl rfl ?_
  refine mg_iload_n (pc := 5) C 1 dX7_init_5 rfl rfl ?_
  refine mg_iconst (pc := 6) C dX7_init_6 (v := 1) (by decide) ?_
  refine mg_mmax (pc := 7) C wm_76 wm_77 wm_7 wm_78 (by decide) (Nat.le_of_ble_eq_true rfl) dX7_init_7 ?_
  rw [show mg_mx 20 1 = 20 from by decide]
  refine mg_putF (pc := 10) C (ty := .int) (w2 := [(h0, .inr (7, [.int 20, .null, .int 0]))]) hin 0 rfl rfl inX7 0 (by decide) wm_79 rfl tyX7 tyX7_ok nmX7 rfl rfl (by decide +kernel) rfl rfl (Nat.le_of_ble_eq_true rfl) rfl dX7_init_10 ?_
  refine mg_aload_n (pc := 13) C 0 dX7_init_13 rfl rfl ?_
  refine mg_aload_n (pc := 14) C 0 dX7_init_14 rfl rfl ?_
  refine mg_get (pc := 15) C 0 rfl rfl inX7 0 (by decide) wm_79 rfl rfl dX7_init_15 ?_
  refine mg_iconst (pc := 18) C dX7_init_18 (v := 3) (by decide) ?_
  refine mg_imul (pc := 19) C dX7_init_19 ?_
  rw [show ((20 : Int32) * 3) = 60 from by decide]
  refine mg_newi (pc := 20) C (N := 60) (w2 := fun q1 => [(h0, .inr (7, [.int 20, .null, .int 0])), (q1, .inl (k.2.1, 60, .inl (fun _ => 0)))]) wm_63 (by decide) (by decide) (by decide) (by rw [hRc]; exact Nat.le_of_ble_eq_true rfl) (by rw [hRs]; exact Nat.le_of_ble_eq_true rfl) (fun _ => rfl) dX7_init_20 (fun q1 => ?_)
  have C := mg_Cup C (kc' := 1) (ks' := 60) (by rw [hRc]; exact Nat.le_of_ble_eq_true rfl) (by rw [hRs]; exact Nat.le_of_ble_eq_true rfl)
  refine mg_putF (pc := 22) C (ty := (.array .int)) (w2 := [(h0, .inr (7, [.int 20, .ref q1, .int 0])), (q1, .inl (k.2.1, 60, .inl (fun _ => 0)))]) hin 0 rfl rfl inX7 1 (by decide) wm_80 rfl tyX7 tyX7_ok nmX7 rfl rfl (by decide +kernel) rfl rfl (Nat.le_of_ble_eq_true rfl) rfl dX7_init_22 ?_
  refine mg_aload_n (pc := 25) C 0 dX7_init_25 rfl rfl ?_
  refine mg_iconst (pc := 26) C dX7_init_26 (v := 0) (by decide) ?_
  refine mg_puti (pc := 27) C (w2 := [(h0, .inr (7, [.int 20, .ref q1, .int 0])), (q1, .inl (k.2.1, 60, .inl (fun _ => 0)))]) 0 rfl rfl inX7 2 (by decide) wm_83 rfl tyX7 tyX7_ok nmX7 rfl (by decide +kernel) (Nat.le_of_ble_eq_true rfl) rfl dX7_init_27 ?_
  exact E _ ⟨q1, rfl⟩ _ _ dX7_init_30
set_option maxRecDepth 100000 in
set_option maxHeartbeats 40000000 in
theorem i_X4 (l : Launch) (k : mg_K) (h0 : Nat) : mg_I l yX4_init cX4_init 1 1 1 49 k [.ref h0] ([(h0, .inr (4, [.int 0, .int 0, .int 0, .null]))]) (fun w9 => ∃ q0 : Nat, w9 = [(h0, .inr (4, [.int 0, .int 0, .int 0, .ref q0])), (q0, .inl (k.2.1, 49, .inl (fun _ => 0)))]) := by
  refine mg_Iof RX4 [(0, .ref h0)] (by decide +kernel) rfl rfl rfl (Nat.le_of_ble_eq_true rfl) ?_
  intro z A Q hl C hRc hRs hin hO E
  subst hl
  refine mg_aload_n (pc := 0) C 0 dX4_init_0 rfl rfl ?_
  refine mg_objInit (pc := 1) C wm_42 wm_23 wm_24 (by decide) (Nat.le_of_ble_eq_true rfl) dX4_init_1 ?_
  refine mg_aload_n (pc := 4) C 0 dX4_init_4 rfl rfl ?_
  refine mg_bipush (pc := 5) C dX4_init_5 (v := 49) (by decide) ?_
  refine mg_newi (pc := 7) C (N := 49) (w2 := fun q1 => [(h0, .inr (4, [.int 0, .int 0, .int 0, .null])), (q1, .inl (k.2.1, 49, .inl (fun _ => 0)))]) wm_63 (by decide) (by decide) (by decide) (by rw [hRc]; exact Nat.le_of_ble_eq_true rfl) (by rw [hRs]; exact Nat.le_of_ble_eq_true rfl) (fun _ => rfl) dX4_init_7 (fun q1 => ?_)
  have C := mg_Cup C (kc' := 1) (ks' := 49) (by rw [hRc]; exact Nat.le_of_ble_eq_true rfl) (by rw [hRs]; exact Nat.le_of_ble_eq_true rfl)
  refine mg_putF (pc := 9) C (ty := (.array .int)) (w2 := [(h0, .inr (4, [.int 0, .int 0, .int 0, .ref q1])), (q1, .inl (k.2.1, 49, .inl (fun _ => 0)))]) hin 0 rfl rfl inX4 3 (by decide) wm_53 rfl tyX4 tyX4_ok nmX4 rfl rfl (by decide +kernel) rfl rfl (Nat.le_of_ble_eq_true rfl) rfl dX4_init_9 ?_
  exact E _ ⟨q1, rfl⟩ _ _ dX4_init_12
set_option maxRecDepth 100000 in
set_option maxHeartbeats 40000000 in
theorem i_X6 (l : Launch) (k : mg_K) (h0 : Nat) : mg_I l yX6_init cX6_init 1 1 2 204 k [.ref h0] ([(h0, .inr (6, [.null, .int 0, .int 0, .int 0, .int 0, .int 0, .null]))]) (fun w9 => ∃ q0 q1 : Nat, w9 = [(h0, .inr (6, [.ref q0, .int 0, .int 0, .int 0, .int 0, .int 0, .ref q1])), (q0, .inl (k.2.2.1, 200, .inl (fun _ => 0))), (q1, .inl (k.2.1, 4, .inl (fun _ => 0)))]) := by
  refine mg_Iof RX6 [(0, .ref h0)] (by decide +kernel) rfl rfl rfl (Nat.le_of_ble_eq_true rfl) ?_
  intro z A Q hl C hRc hRs hin hO E
  subst hl
  refine mg_aload_n (pc := 0) C 0 dX6_init_0 rfl rfl ?_
  refine mg_objInit (pc := 1) C wm_252 wm_23 wm_24 (by decide) (Nat.le_of_ble_eq_true rfl) dX6_init_1 ?_
  refine mg_aload_n (pc := 4) C 0 dX6_init_4 rfl rfl ?_
  refine mg_sipush (pc := 5) C dX6_init_5 (v := 200) (by decide) ?_
  refine mg_newc (pc := 8) C (N := 200) (w2 := fun q1 => [(h0, .inr (6, [.null, .int 0, .int 0, .int 0, .int 0, .int 0, .null])), (q1, .inl (k.2.2.1, 200, .inl (fun _ => 0)))]) wm_276 (by decide) (by decide) (by decide) (by rw [hRc]; exact Nat.le_of_ble_eq_true rfl) (by rw [hRs]; exact Nat.le_of_ble_eq_true rfl) (fun _ => rfl) dX6_init_8 (fun q1 => ?_)
  have C := mg_Cup C (kc' := 1) (ks' := 200) (by rw [hRc]; exact Nat.le_of_ble_eq_true rfl) (by rw [hRs]; exact Nat.le_of_ble_eq_true rfl)
  refine mg_putF (pc := 10) C (ty := (.array .char)) (w2 := [(h0, .inr (6, [.ref q1, .int 0, .int 0, .int 0, .int 0, .int 0, .null])), (q1, .inl (k.2.2.1, 200, .inl (fun _ => 0)))]) hin 0 rfl rfl inX6 0 (by decide) wm_253 rfl tyX6 tyX6_ok nmX6 rfl rfl (by decide +kernel) rfl rfl (Nat.le_of_ble_eq_true rfl) rfl dX6_init_10 ?_
  refine mg_aload_n (pc := 13) C 0 dX6_init_13 rfl rfl ?_
  refine mg_iconst (pc := 14) C dX6_init_14 (v := 4) (by decide) ?_
  refine mg_newi (pc := 15) C (N := 4) (w2 := fun q2 => [(h0, .inr (6, [.ref q1, .int 0, .int 0, .int 0, .int 0, .int 0, .null])), (q1, .inl (k.2.2.1, 200, .inl (fun _ => 0))), (q2, .inl (k.2.1, 4, .inl (fun _ => 0)))]) wm_63 (by decide) (by decide) (by decide) (by rw [hRc]; exact Nat.le_of_ble_eq_true rfl) (by rw [hRs]; exact Nat.le_of_ble_eq_true rfl) (fun _ => rfl) dX6_init_15 (fun q2 => ?_)
  have C := mg_Cup C (kc' := 2) (ks' := 204) (by rw [hRc]; exact Nat.le_of_ble_eq_true rfl) (by rw [hRs]; exact Nat.le_of_ble_eq_true rfl)
  refine mg_putF (pc := 17) C (ty := (.array .int)) (w2 := [(h0, .inr (6, [.ref q1, .int 0, .int 0, .int 0, .int 0, .int 0, .ref q2])), (q1, .inl (k.2.2.1, 200, .inl (fun _ => 0))), (q2, .inl (k.2.1, 4, .inl (fun _ => 0)))]) hin 0 rfl rfl inX6 6 (by decide) wm_260 rfl tyX6 tyX6_ok nmX6 rfl rfl (by decide +kernel) rfl rfl (Nat.le_of_ble_eq_true rfl) rfl dX6_init_17 ?_
  exact E _ ⟨q1, q2, rfl⟩ _ _ dX6_init_20
set_option maxRecDepth 100000 in
set_option maxHeartbeats 40000000 in
theorem i_X2 (l : Launch) (k : mg_K) (h0 : Nat) : mg_I l yX2_init cX2_init 1 2 2 27 k [.ref h0] ([(h0, .inr (2, [.null]))]) (fun w9 => ∃ q0 q1 : Nat, w9 = [(h0, .inr (2, [.ref q0])), (q0, .inr (7, [.int 8, .ref q1, .int 0])), (q1, .inl (k.2.1, 24, .inl (fun _ => 0)))]) := by
  refine mg_Iof RX2 [(0, .ref h0)] (by decide +kernel) rfl rfl rfl (Nat.le_of_ble_eq_true rfl) ?_
  intro z A Q hl C hRc hRs hin hO E
  subst hl
  refine mg_aload_n (pc := 0) C 0 dX2_init_0 rfl rfl ?_
  refine mg_objInit (pc := 1) C wm_69 wm_23 wm_24 (by decide) (Nat.le_of_ble_eq_true rfl) dX2_init_1 ?_
  refine mg_aload_n (pc := 4) C 0 dX2_init_4 rfl rfl ?_
  refine mg_new (pc := 5) C (fs := [.int 0, .null, .int 0]) (w2 := fun q1 => [(h0, .inr (2, [.null])), (q1, .inr (7, [.int 0, .null, .int 0]))]) inX7 tyX7 tyX7_ok wm_70 wm_71 wm_6 rfl mt_dX7 (by rw [hRc]; exact Nat.le_of_ble_eq_true rfl) (by rw [hRs]; exact Nat.le_of_ble_eq_true rfl) (fun _ => rfl) dX2_init_5 (fun q1 => ?_)
  have C := mg_Cup C (kc' := 1) (ks' := 3) (by rw [hRc]; exact Nat.le_of_ble_eq_true rfl) (by rw [hRs]; exact Nat.le_of_ble_eq_true rfl)
  refine mg_dup (pc := 8) C dX2_init_8 rfl ?_
  refine mg_bipush (pc := 9) C dX2_init_9 (v := 8) (by decide) ?_
  refine mg_callI (pc := 11) C (wr := [(h0, .inr (2, [.null]))]) hO (i_X7_8 z.2.1 k q1) YI_X7 wm_72 (by decide) rfl [1] [0] rfl (by decide) rfl (by decide) (by decide) (by rw [hRc]; exact Nat.le_of_ble_eq_true rfl) (by rw [hRs]; exact Nat.le_of_ble_eq_true rfl) (Nat.le_of_ble_eq_true rfl) rfl dX2_init_11 (fun w9 hw9 => ?_)
  have C := mg_Cup C (kc' := 2) (ks' := 27) (by rw [hRc]; exact Nat.le_of_ble_eq_true rfl) (by rw [hRs]; exact Nat.le_of_ble_eq_true rfl)
  obtain ⟨q2, rfl⟩ := hw9
  refine mg_putF (pc := 14) C (ty := (.object "CaissonSinker$Triples")) (w2 := [(h0, .inr (2, [.ref q1])), (q1, .inr (7, [.int 8, .ref q2, .int 0])), (q2, .inl (k.2.1, 24, .inl (fun _ => 0)))]) hin 0 rfl rfl inX2 0 (by decide) wm_94 rfl tyX2 tyX2_ok nmX2 rfl rfl (by decide +kernel) rfl rfl (Nat.le_of_ble_eq_true rfl) rfl dX2_init_14 ?_
  exact E _ ⟨q1, q2, rfl⟩ _ _ dX2_init_17
set_option maxRecDepth 100000 in
set_option maxHeartbeats 40000000 in
theorem i_X0 (l : Launch) (k : mg_K) (h0 : Nat) : mg_I l yX0_init cX0_init 1 2 2 33 k [.ref h0] ([(h0, .inr (0, [.null]))]) (fun w9 => ∃ q0 q1 : Nat, w9 = [(h0, .inr (0, [.ref q0])), (q0, .inr (7, [.int 10, .ref q1, .int 0])), (q1, .inl (k.2.1, 30, .inl (fun _ => 0)))]) := by
  refine mg_Iof RX0 [(0, .ref h0)] (by decide +kernel) rfl rfl rfl (Nat.le_of_ble_eq_true rfl) ?_
  intro z A Q hl C hRc hRs hin hO E
  subst hl
  refine mg_aload_n (pc := 0) C 0 dX0_init_0 rfl rfl ?_
  refine mg_objInit (pc := 1) C wm_106 wm_23 wm_24 (by decide) (Nat.le_of_ble_eq_true rfl) dX0_init_1 ?_
  refine mg_aload_n (pc := 4) C 0 dX0_init_4 rfl rfl ?_
  refine mg_new (pc := 5) C (fs := [.int 0, .null, .int 0]) (w2 := fun q1 => [(h0, .inr (0, [.null])), (q1, .inr (7, [.int 0, .null, .int 0]))]) inX7 tyX7 tyX7_ok wm_107 wm_71 wm_6 rfl mt_dX7 (by rw [hRc]; exact Nat.le_of_ble_eq_true rfl) (by rw [hRs]; exact Nat.le_of_ble_eq_true rfl) (fun _ => rfl) dX0_init_5 (fun q1 => ?_)
  have C := mg_Cup C (kc' := 1) (ks' := 3) (by rw [hRc]; exact Nat.le_of_ble_eq_true rfl) (by rw [hRs]; exact Nat.le_of_ble_eq_true rfl)
  refine mg_dup (pc := 8) C dX0_init_8 rfl ?_
  refine mg_bipush (pc := 9) C dX0_init_9 (v := 10) (by decide) ?_
  refine mg_callI (pc := 11) C (wr := [(h0, .inr (0, [.null]))]) hO (i_X7_10 z.2.1 k q1) YI_X7 wm_108 (by decide) rfl [1] [0] rfl (by decide) rfl (by decide) (by decide) (by rw [hRc]; exact Nat.le_of_ble_eq_true rfl) (by rw [hRs]; exact Nat.le_of_ble_eq_true rfl) (Nat.le_of_ble_eq_true rfl) rfl dX0_init_11 (fun w9 hw9 => ?_)
  have C := mg_Cup C (kc' := 2) (ks' := 33) (by rw [hRc]; exact Nat.le_of_ble_eq_true rfl) (by rw [hRs]; exact Nat.le_of_ble_eq_true rfl)
  obtain ⟨q2, rfl⟩ := hw9
  refine mg_putF (pc := 14) C (ty := (.object "CaissonSinker$Triples")) (w2 := [(h0, .inr (0, [.ref q1])), (q1, .inr (7, [.int 10, .ref q2, .int 0])), (q2, .inl (k.2.1, 30, .inl (fun _ => 0)))]) hin 0 rfl rfl inX0 0 (by decide) wm_109 rfl tyX0 tyX0_ok nmX0 rfl rfl (by decide +kernel) rfl rfl (Nat.le_of_ble_eq_true rfl) rfl dX0_init_14 ?_
  exact E _ ⟨q1, q2, rfl⟩ _ _ dX0_init_17
set_option maxRecDepth 100000 in
set_option maxHeartbeats 40000000 in
theorem i_X5 (l : Launch) (k : mg_K) (h0 : Nat) : mg_I l yX5_init cX5_init 1 3 12 231 k [.ref h0] ([(h0, .inr (5, [.int 0, .int 0, .int 0, .int 0, .int 0, .null, .null, .null, .null, .null, .null]))]) (fun w9 => ∃ (b : Nat → Nat) (v : sv_T), b 0 = h0 ∧ w9 = w_S k b v ∧ mt_IV v) := by
  refine mg_Iof RX5 [(0, .ref h0)] (by decide +kernel) rfl rfl rfl (Nat.le_of_ble_eq_true rfl) ?_
  intro z A Q hl C hRc hRs hin hO E
  subst hl
  refine mg_aload_n (pc := 0) C 0 dX5_init_0 rfl rfl ?_
  refine mg_objInit (pc := 1) C wm_36 wm_23 wm_24 (by decide) (Nat.le_of_ble_eq_true rfl) dX5_init_1 ?_
  refine mg_aload_n (pc := 4) C 0 dX5_init_4 rfl rfl ?_
  refine mg_bipush (pc := 5) C dX5_init_5 (v := 49) (by decide) ?_
  refine mg_newi (pc := 7) C (N := 49) (w2 := fun q1 => [(h0, .inr (5, [.int 0, .int 0, .int 0, .int 0, .int 0, .null, .null, .null, .null, .null, .null])), (q1, .inl (k.2.1, 49, .inl (fun _ => 0)))]) wm_63 (by decide) (by decide) (by decide) (by rw [hRc]; exact Nat.le_of_ble_eq_true rfl) (by rw [hRs]; exact Nat.le_of_ble_eq_true rfl) (fun _ => rfl) dX5_init_7 (fun q1 => ?_)
  have C := mg_Cup C (kc' := 1) (ks' := 49) (by rw [hRc]; exact Nat.le_of_ble_eq_true rfl) (by rw [hRs]; exact Nat.le_of_ble_eq_true rfl)
  refine mg_putF (pc := 9) C (ty := (.array .int)) (w2 := [(h0, .inr (5, [.int 0, .int 0, .int 0, .int 0, .int 0, .ref q1, .null, .null, .null, .null, .null])), (q1, .inl (k.2.1, 49, .inl (fun _ => 0)))]) hin 0 rfl rfl inX5 5 (by decide) wm_154 rfl tyX5 tyX5_ok nmX5 rfl rfl (by decide +kernel) rfl rfl (Nat.le_of_ble_eq_true rfl) rfl dX5_init_9 ?_
  refine mg_aload_n (pc := 12) C 0 dX5_init_12 rfl rfl ?_
  refine mg_iconst (pc := 13) C dX5_init_13 (v := 4) (by decide) ?_
  refine mg_newi (pc := 14) C (N := 4) (w2 := fun q2 => [(h0, .inr (5, [.int 0, .int 0, .int 0, .int 0, .int 0, .ref q1, .null, .null, .null, .null, .null])), (q1, .inl (k.2.1, 49, .inl (fun _ => 0))), (q2, .inl (k.2.1, 4, .inl (fun _ => 0)))]) wm_63 (by decide) (by decide) (by decide) (by rw [hRc]; exact Nat.le_of_ble_eq_true rfl) (by rw [hRs]; exact Nat.le_of_ble_eq_true rfl) (fun _ => rfl) dX5_init_14 (fun q2 => ?_)
  have C := mg_Cup C (kc' := 2) (ks' := 53) (by rw [hRc]; exact Nat.le_of_ble_eq_true rfl) (by rw [hRs]; exact Nat.le_of_ble_eq_true rfl)
  refine mg_putF (pc := 16) C (ty := (.array .int)) (w2 := [(h0, .inr (5, [.int 0, .int 0, .int 0, .int 0, .int 0, .ref q1, .ref q2, .null, .null, .null, .null])), (q1, .inl (k.2.1, 49, .inl (fun _ => 0))), (q2, .inl (k.2.1, 4, .inl (fun _ => 0)))]) hin 0 rfl rfl inX5 6 (by decide) wm_155 rfl tyX5 tyX5_ok nmX5 rfl rfl (by decide +kernel) rfl rfl (Nat.le_of_ble_eq_true rfl) rfl dX5_init_16 ?_
  refine mg_aload_n (pc := 19) C 0 dX5_init_19 rfl rfl ?_
  refine mg_new (pc := 20) C (fs := [.int 0, .int 0, .int 0, .null]) (w2 := fun q3 => [(h0, .inr (5, [.int 0, .int 0, .int 0, .int 0, .int 0, .ref q1, .ref q2, .null, .null, .null, .null])), (q1, .inl (k.2.1, 49, .inl (fun _ => 0))), (q2, .inl (k.2.1, 4, .inl (fun _ => 0))), (q3, .inr (4, [.int 0, .int 0, .int 0, .null]))]) inX4 tyX4 tyX4_ok wm_37 wm_38 wm_4 rfl mt_dX4 (by rw [hRc]; exact Nat.le_of_ble_eq_true rfl) (by rw [hRs]; exact Nat.le_of_ble_eq_true rfl) (fun _ => rfl) dX5_init_20 (fun q3 => ?_)
  have C := mg_Cup C (kc' := 3) (ks' := 57) (by rw [hRc]; exact Nat.le_of_ble_eq_true rfl) (by rw [hRs]; exact Nat.le_of_ble_eq_true rfl)
  refine mg_dup (pc := 23) C dX5_init_23 rfl ?_
  refine mg_callIN (pc := 24) C (host := RX8) (wr := [(h0, .inr (5, [.int 0, .int 0, .int 0, .int 0, .int 0, .ref q1, .ref q2, .null, .null, .null, .null])), (q1, .inl (k.2.1, 49, .inl (fun _ => 0))), (q2, .inl (k.2.1, 4, .inl (fun _ => 0)))]) hO (i_X4 z.2.1 k q3) YI_X4 (by simp [mg_nw]) (by decide) rfl [3] [0, 1, 2] rfl (by decide) rfl (by decide) (by decide) (by rw [hRc]; exact Nat.le_of_ble_eq_true rfl) (by rw [hRs]; exact Nat.le_of_ble_eq_true rfl) (Nat.le_of_ble_eq_true rfl) rfl dX5_init_24 (fun w9 hw9 => ?_)
  have C := mg_Cup C (kc' := 4) (ks' := 106) (by rw [hRc]; exact Nat.le_of_ble_eq_true rfl) (by rw [hRs]; exact Nat.le_of_ble_eq_true rfl)
  obtain ⟨q4, rfl⟩ := hw9
  refine mg_putF (pc := 27) C (ty := (.object "CaissonSinker$Pose")) (w2 := [(h0, .inr (5, [.int 0, .int 0, .int 0, .int 0, .int 0, .ref q1, .ref q2, .ref q3, .null, .null, .null])), (q1, .inl (k.2.1, 49, .inl (fun _ => 0))), (q2, .inl (k.2.1, 4, .inl (fun _ => 0))), (q3, .inr (4, [.int 0, .int 0, .int 0, .ref q4])), (q4, .inl (k.2.1, 49, .inl (fun _ => 0)))]) hin 0 rfl rfl inX5 7 (by decide) wm_157 rfl tyX5 tyX5_ok nmX5 rfl rfl (by decide +kernel) rfl rfl (Nat.le_of_ble_eq_true rfl) rfl dX5_init_27 ?_
  refine mg_aload_n (pc := 30) C 0 dX5_init_30 rfl rfl ?_
  refine mg_new (pc := 31) C (fs := [.null]) (w2 := fun q5 => [(h0, .inr (5, [.int 0, .int 0, .int 0, .int 0, .int 0, .ref q1, .ref q2, .ref q3, .null, .null, .null])), (q1, .inl (k.2.1, 49, .inl (fun _ => 0))), (q2, .inl (k.2.1, 4, .inl (fun _ => 0))), (q3, .inr (4, [.int 0, .int 0, .int 0, .ref q4])), (q4, .inl (k.2.1, 49, .inl (fun _ => 0))), (q5, .inr (2, [.null]))]) inX2 tyX2 tyX2_ok wm_64 wm_65 wm_5 rfl mt_dX2 (by rw [hRc]; exact Nat.le_of_ble_eq_true rfl) (by rw [hRs]; exact Nat.le_of_ble_eq_true rfl) (fun _ => rfl) dX5_init_31 (fun q5 => ?_)
  have C := mg_Cup C (kc' := 5) (ks' := 107) (by rw [hRc]; exact Nat.le_of_ble_eq_true rfl) (by rw [hRs]; exact Nat.le_of_ble_eq_true rfl)
  refine mg_dup (pc := 34) C dX5_init_34 rfl ?_
  refine mg_callIN (pc := 35) C (host := RX8) (wr := [(h0, .inr (5, [.int 0, .int 0, .int 0, .int 0, .int 0, .ref q1, .ref q2, .ref q3, .null, .null, .null])), (q1, .inl (k.2.1, 49, .inl (fun _ => 0))), (q2, .inl (k.2.1, 4, .inl (fun _ => 0))), (q3, .inr (4, [.int 0, .int 0, .int 0, .ref q4])), (q4, .inl (k.2.1, 49, .inl (fun _ => 0)))]) hO (i_X2 z.2.1 k q5) YI_X2 (by simp [mg_nw]) (by decide) rfl [5] [0, 1, 2, 3, 4] rfl (by decide) rfl (by decide) (by decide) (by rw [hRc]; exact Nat.le_of_ble_eq_true rfl) (by rw [hRs]; exact Nat.le_of_ble_eq_true rfl) (Nat.le_of_ble_eq_true rfl) rfl dX5_init_35 (fun w9 hw9 => ?_)
  have C := mg_Cup C (kc' := 7) (ks' := 134) (by rw [hRc]; exact Nat.le_of_ble_eq_true rfl) (by rw [hRs]; exact Nat.le_of_ble_eq_true rfl)
  obtain ⟨q6, q7, rfl⟩ := hw9
  refine mg_putF (pc := 38) C (ty := (.object "CaissonSinker$Ground")) (w2 := [(h0, .inr (5, [.int 0, .int 0, .int 0, .int 0, .int 0, .ref q1, .ref q2, .ref q3, .ref q5, .null, .null])), (q1, .inl (k.2.1, 49, .inl (fun _ => 0))), (q2, .inl (k.2.1, 4, .inl (fun _ => 0))), (q3, .inr (4, [.int 0, .int 0, .int 0, .ref q4])), (q4, .inl (k.2.1, 49, .inl (fun _ => 0))), (q5, .inr (2, [.ref q6])), (q6, .inr (7, [.int 8, .ref q7, .int 0])), (q7, .inl (k.2.1, 24, .inl (fun _ => 0)))]) hin 0 rfl rfl inX5 8 (by decide) wm_160 rfl tyX5 tyX5_ok nmX5 rfl rfl (by decide +kernel) rfl rfl (Nat.le_of_ble_eq_true rfl) rfl dX5_init_38 ?_
  refine mg_aload_n (pc := 41) C 0 dX5_init_41 rfl rfl ?_
  refine mg_new (pc := 42) C (fs := [.null]) (w2 := fun q8 => [(h0, .inr (5, [.int 0, .int 0, .int 0, .int 0, .int 0, .ref q1, .ref q2, .ref q3, .ref q5, .null, .null])), (q1, .inl (k.2.1, 49, .inl (fun _ => 0))), (q2, .inl (k.2.1, 4, .inl (fun _ => 0))), (q3, .inr (4, [.int 0, .int 0, .int 0, .ref q4])), (q4, .inl (k.2.1, 49, .inl (fun _ => 0))), (q5, .inr (2, [.ref q6])), (q6, .inr (7, [.int 8, .ref q7, .int 0])), (q7, .inl (k.2.1, 24, .inl (fun _ => 0))), (q8, .inr (0, [.null]))]) inX0 tyX0 tyX0_ok wm_101 wm_102 wm_8 rfl mt_dX0 (by rw [hRc]; exact Nat.le_of_ble_eq_true rfl) (by rw [hRs]; exact Nat.le_of_ble_eq_true rfl) (fun _ => rfl) dX5_init_42 (fun q8 => ?_)
  have C := mg_Cup C (kc' := 8) (ks' := 135) (by rw [hRc]; exact Nat.le_of_ble_eq_true rfl) (by rw [hRs]; exact Nat.le_of_ble_eq_true rfl)
  refine mg_dup (pc := 45) C dX5_init_45 rfl ?_
  refine mg_callIN (pc := 46) C (host := RX8) (wr := [(h0, .inr (5, [.int 0, .int 0, .int 0, .int 0, .int 0, .ref q1, .ref q2, .ref q3, .ref q5, .null, .null])), (q1, .inl (k.2.1, 49, .inl (fun _ => 0))), (q2, .inl (k.2.1, 4, .inl (fun _ => 0))), (q3, .inr (4, [.int 0, .int 0, .int 0, .ref q4])), (q4, .inl (k.2.1, 49, .inl (fun _ => 0))), (q5, .inr (2, [.ref q6])), (q6, .inr (7, [.int 8, .ref q7, .int 0])), (q7, .inl (k.2.1, 24, .inl (fun _ => 0)))]) hO (i_X0 z.2.1 k q8) YI_X0 (by simp [mg_nw]) (by decide) rfl [8] [0, 1, 2, 3, 4, 5, 6, 7] rfl (by decide) rfl (by decide) (by decide) (by rw [hRc]; exact Nat.le_of_ble_eq_true rfl) (by rw [hRs]; exact Nat.le_of_ble_eq_true rfl) (Nat.le_of_ble_eq_true rfl) rfl dX5_init_46 (fun w9 hw9 => ?_)
  have C := mg_Cup C (kc' := 10) (ks' := 168) (by rw [hRc]; exact Nat.le_of_ble_eq_true rfl) (by rw [hRs]; exact Nat.le_of_ble_eq_true rfl)
  obtain ⟨q9, q10, rfl⟩ := hw9
  refine mg_putF (pc := 49) C (ty := (.object "CaissonSinker$Boulders")) (w2 := [(h0, .inr (5, [.int 0, .int 0, .int 0, .int 0, .int 0, .ref q1, .ref q2, .ref q3, .ref q5, .ref q8, .null])), (q1, .inl (k.2.1, 49, .inl (fun _ => 0))), (q2, .inl (k.2.1, 4, .inl (fun _ => 0))), (q3, .inr (4, [.int 0, .int 0, .int 0, .ref q4])), (q4, .inl (k.2.1, 49, .inl (fun _ => 0))), (q5, .inr (2, [.ref q6])), (q6, .inr (7, [.int 8, .ref q7, .int 0])), (q7, .inl (k.2.1, 24, .inl (fun _ => 0))), (q8, .inr (0, [.ref q9])), (q9, .inr (7, [.int 10, .ref q10, .int 0])), (q10, .inl (k.2.1, 30, .inl (fun _ => 0)))]) hin 0 rfl rfl inX5 9 (by decide) wm_164 rfl tyX5 tyX5_ok nmX5 rfl rfl (by decide +kernel) rfl rfl (Nat.le_of_ble_eq_true rfl) rfl dX5_init_49 ?_
  refine mg_aload_n (pc := 52) C 0 dX5_init_52 rfl rfl ?_
  refine mg_new (pc := 53) C (fs := [.int 0, .null, .int 0]) (w2 := fun q11 => [(h0, .inr (5, [.int 0, .int 0, .int 0, .int 0, .int 0, .ref q1, .ref q2, .ref q3, .ref q5, .ref q8, .null])), (q1, .inl (k.2.1, 49, .inl (fun _ => 0))), (q2, .inl (k.2.1, 4, .inl (fun _ => 0))), (q3, .inr (4, [.int 0, .int 0, .int 0, .ref q4])), (q4, .inl (k.2.1, 49, .inl (fun _ => 0))), (q5, .inr (2, [.ref q6])), (q6, .inr (7, [.int 8, .ref q7, .int 0])), (q7, .inl (k.2.1, 24, .inl (fun _ => 0))), (q8, .inr (0, [.ref q9])), (q9, .inr (7, [.int 10, .ref q10, .int 0])), (q10, .inl (k.2.1, 30, .inl (fun _ => 0))), (q11, .inr (7, [.int 0, .null, .int 0]))]) inX7 tyX7 tyX7_ok wm_116 wm_71 wm_6 rfl mt_dX7 (by rw [hRc]; exact Nat.le_of_ble_eq_true rfl) (by rw [hRs]; exact Nat.le_of_ble_eq_true rfl) (fun _ => rfl) dX5_init_53 (fun q11 => ?_)
  have C := mg_Cup C (kc' := 11) (ks' := 171) (by rw [hRc]; exact Nat.le_of_ble_eq_true rfl) (by rw [hRs]; exact Nat.le_of_ble_eq_true rfl)
  refine mg_dup (pc := 56) C dX5_init_56 rfl ?_
  refine mg_bipush (pc := 57) C dX5_init_57 (v := 20) (by decide) ?_
  refine mg_callI (pc := 59) C (wr := [(h0, .inr (5, [.int 0, .int 0, .int 0, .int 0, .int 0, .ref q1, .ref q2, .ref q3, .ref q5, .ref q8, .null])), (q1, .inl (k.2.1, 49, .inl (fun _ => 0))), (q2, .inl (k.2.1, 4, .inl (fun _ => 0))), (q3, .inr (4, [.int 0, .int 0, .int 0, .ref q4])), (q4, .inl (k.2.1, 49, .inl (fun _ => 0))), (q5, .inr (2, [.ref q6])), (q6, .inr (7, [.int 8, .ref q7, .int 0])), (q7, .inl (k.2.1, 24, .inl (fun _ => 0))), (q8, .inr (0, [.ref q9])), (q9, .inr (7, [.int 10, .ref q10, .int 0])), (q10, .inl (k.2.1, 30, .inl (fun _ => 0)))]) hO (i_X7_20 z.2.1 k q11) YI_X7 wm_117 (by decide) rfl [11] [0, 1, 2, 3, 4, 5, 6, 7, 8, 9, 10] rfl (by decide) rfl (by decide) (by decide) (by rw [hRc]; exact Nat.le_of_ble_eq_true rfl) (by rw [hRs]; exact Nat.le_of_ble_eq_true rfl) (Nat.le_of_ble_eq_true rfl) rfl dX5_init_59 (fun w9 hw9 => ?_)
  have C := mg_Cup C (kc' := 12) (ks' := 231) (by rw [hRc]; exact Nat.le_of_ble_eq_true rfl) (by rw [hRs]; exact Nat.le_of_ble_eq_true rfl)
  obtain ⟨q12, rfl⟩ := hw9
  refine mg_putF (pc := 62) C (ty := (.object "CaissonSinker$Triples")) (w2 := [(h0, .inr (5, [.int 0, .int 0, .int 0, .int 0, .int 0, .ref q1, .ref q2, .ref q3, .ref q5, .ref q8, .ref q11])), (q1, .inl (k.2.1, 49, .inl (fun _ => 0))), (q2, .inl (k.2.1, 4, .inl (fun _ => 0))), (q3, .inr (4, [.int 0, .int 0, .int 0, .ref q4])), (q4, .inl (k.2.1, 49, .inl (fun _ => 0))), (q5, .inr (2, [.ref q6])), (q6, .inr (7, [.int 8, .ref q7, .int 0])), (q7, .inl (k.2.1, 24, .inl (fun _ => 0))), (q8, .inr (0, [.ref q9])), (q9, .inr (7, [.int 10, .ref q10, .int 0])), (q10, .inl (k.2.1, 30, .inl (fun _ => 0))), (q11, .inr (7, [.int 20, .ref q12, .int 0])), (q12, .inl (k.2.1, 60, .inl (fun _ => 0)))]) hin 0 rfl rfl inX5 10 (by decide) wm_168 rfl tyX5 tyX5_ok nmX5 rfl rfl (by decide +kernel) rfl rfl (Nat.le_of_ble_eq_true rfl) rfl dX5_init_62 ?_
  refine mg_aload_n (pc := 65) C 0 dX5_init_65 rfl rfl ?_
  refine mg_callV (pc := 66) C (w2 := [(h0, .inr (5, [.int 5, .int 4, .int 600, .int 400, .int 400, .ref q1, .ref q2, .ref q3, .ref q5, .ref q8, .ref q11])), (q1, .inl (k.2.1, 49, .inl (fun j => if j < 49 then 0 else (fun _ => 0) j))), (q2, .inl (k.2.1, 4, .inl (fun j => if j < 4 then 0 else (fun _ => 0) j))), (q3, .inr (4, [.int 0, .int 0, .int 0, .ref q4])), (q4, .inl (k.2.1, 49, .inl (fun j => if j < 49 then 0 else (fun _ => 0) j))), (q5, .inr (2, [.ref q6])), (q6, .inr (7, [.int 8, .ref q7, .int 0])), (q7, .inl (k.2.1, 24, .inl (fun _ => 0))), (q8, .inr (0, [.ref q9])), (q9, .inr (7, [.int 10, .ref q10, .int 0])), (q10, .inl (k.2.1, 30, .inl (fun _ => 0))), (q11, .inr (7, [.int 20, .ref q12, .int 0])), (q12, .inl (k.2.1, 60, .inl (fun _ => 0)))]) (c_X5_beginAnew z.2.1 k h0 q1 q2 q3 q5 q8 q11 q9 q10 q6 q7 q4 q12 0 0 0 0 0 (fun _ => 0) 0 0 (fun _ => 0) 0 0 0 (fun _ => 0) 0 5000 _ (mt_X5_beginAnew (Nat.le_refl 5000) (fun _ => 0) (fun _ => 0) (fun _ => 0))) Y_X5_beginAnew wm_118 (by decide) rfl 0 rfl rfl rfl [0, 1, 8, 9, 5, 6, 2, 3, 4, 11] rfl (by decide) rfl [some 0, some 1, some 6, some 7, some 8, some 4, some 5, none, some 2, some 3, none, some 9, none] (by decide) rfl (Nat.le_of_ble_eq_true rfl) rfl dX5_init_66 ?_
  refine mg_wp (w2 := w_S k (mt_bl [h0, q1, q8, q9, q10, q5, q6, q7, q2, q3, q4, q11, q12]) (5, 4, 600, 400, 400, (fun j => if j < 49 then 0 else (fun _ => 0) j), 0, (fun _ => 0), 0, (fun _ => 0), (fun j => if j < 4 then 0 else (fun _ => 0) j), 0, 0, 0, (fun j => if j < 49 then 0 else (fun _ => 0) j), 0, (fun _ => 0))) [0, 1, 8, 9, 10, 5, 6, 7, 2, 3, 4, 11, 12] rfl (by decide) ?_
  exact E _ ⟨(mt_bl [h0, q1, q8, q9, q10, q5, q6, q7, q2, q3, q4, q11, q12]), (5, 4, 600, 400, 400, (fun j => if j < 49 then 0 else (fun _ => 0) j), 0, (fun _ => 0), 0, (fun _ => 0), (fun j => if j < 4 then 0 else (fun _ => 0) j), 0, 0, 0, (fun j => if j < 49 then 0 else (fun _ => 0) j), 0, (fun _ => 0)), rfl, rfl, ⟨_, _, _, _, _, _, rfl⟩⟩ _ _ dX5_init_69
set_option maxRecDepth 100000 in
set_option maxHeartbeats 40000000 in
theorem i_X1 (l : Launch) (k : mg_K) (h0 : Nat) : mg_I l yX1_init cX1_init 1 4 17 348 k [.ref h0] ([(h0, .inr (1, [.null, .null, .null, .int 0, .int 0, .int 0, .int 0, .int 0]))]) (fun w9 => ∃ (b : Nat → Nat) (v : sv_T) (q0 q1 q2 q3 : Nat), w9 = [(h0, .inr (1, [.ref (b 0), .ref q0, .ref q1, .int 0, .int 0, .int 0, .int 0, .int 0])), (q0, .inr (4, [.int 0, .int 0, .int 0, .ref q2])), (q2, .inl (k.2.1, 49, .inl (fun _ => 0))), (q1, .inr (4, [.int 0, .int 0, .int 0, .ref q3])), (q3, .inl (k.2.1, 49, .inl (fun _ => 0)))] ++ w_S k b v ∧ mt_IV v) := by
  refine mg_Iof RX1 [(0, .ref h0)] (by decide +kernel) rfl rfl rfl (Nat.le_of_ble_eq_true rfl) ?_
  intro z A Q hl C hRc hRs hin hO E
  subst hl
  refine mg_aload_n (pc := 0) C 0 dX1_init_0 rfl rfl ?_
  refine mg_objInit (pc := 1) C wm_30 wm_23 wm_24 (by decide) (Nat.le_of_ble_eq_true rfl) dX1_init_1 ?_
  refine mg_aload_n (pc := 4) C 0 dX1_init_4 rfl rfl ?_
  refine mg_new (pc := 5) C (fs := [.int 0, .int 0, .int 0, .int 0, .int 0, .null, .null, .null, .null, .null, .null]) (w2 := fun q1 => [(h0, .inr (1, [.null, .null, .null, .int 0, .int 0, .int 0, .int 0, .int 0])), (q1, .inr (5, [.int 0, .int 0, .int 0, .int 0, .int 0, .null, .null, .null, .null, .null, .null]))]) inX5 tyX5 tyX5_ok wm_31 wm_32 wm_3 rfl mt_dX5 (by rw [hRc]; exact Nat.le_of_ble_eq_true rfl) (by rw [hRs]; exact Nat.le_of_ble_eq_true rfl) (fun _ => rfl) dX1_init_5 (fun q1 => ?_)
  have C := mg_Cup C (kc' := 1) (ks' := 11) (by rw [hRc]; exact Nat.le_of_ble_eq_true rfl) (by rw [hRs]; exact Nat.le_of_ble_eq_true rfl)
  refine mg_dup (pc := 8) C dX1_init_8 rfl ?_
  refine mg_callI (pc := 9) C (wr := [(h0, .inr (1, [.null, .null, .null, .int 0, .int 0, .int 0, .int 0, .int 0]))]) hO (i_X5 z.2.1 k q1) YI_X5 wm_33 (by decide) rfl [1] [0] rfl (by decide) rfl (by decide) (by decide) (by rw [hRc]; exact Nat.le_of_ble_eq_true rfl) (by rw [hRs]; exact Nat.le_of_ble_eq_true rfl) (Nat.le_of_ble_eq_true rfl) rfl dX1_init_9 (fun w9 hw9 => ?_)
  have C := mg_Cup C (kc' := 13) (ks' := 242) (by rw [hRc]; exact Nat.le_of_ble_eq_true rfl) (by rw [hRs]; exact Nat.le_of_ble_eq_true rfl)
  obtain ⟨b2, v3, he, rfl, hv4⟩ := hw9
  subst he
  refine mg_putF (pc := 12) C (ty := (.object "CaissonSinker$Site")) (w2 := [(h0, .inr (1, [.ref (b2 0), .null, .null, .int 0, .int 0, .int 0, .int 0, .int 0]))] ++ w_S k b2 v3) hin 0 rfl rfl inX1 0 (by decide) wm_195 rfl tyX1 tyX1_ok nmX1 rfl rfl (by decide +kernel) rfl rfl (Nat.le_of_ble_eq_true rfl) rfl dX1_init_12 ?_
  refine mg_aload_n (pc := 15) C 0 dX1_init_15 rfl rfl ?_
  refine mg_new (pc := 16) C (fs := [.int 0, .int 0, .int 0, .null]) (w2 := fun q5 => [(h0, .inr (1, [.ref (b2 0), .null, .null, .int 0, .int 0, .int 0, .int 0, .int 0]))] ++ w_S k b2 v3 ++ [(q5, .inr (4, [.int 0, .int 0, .int 0, .null]))]) inX4 tyX4 tyX4_ok wm_193 wm_38 wm_4 rfl mt_dX4 (by rw [hRc]; exact Nat.le_of_ble_eq_true rfl) (by rw [hRs]; exact Nat.le_of_ble_eq_true rfl) (fun _ => rfl) dX1_init_16 (fun q5 => ?_)
  have C := mg_Cup C (kc' := 14) (ks' := 246) (by rw [hRc]; exact Nat.le_of_ble_eq_true rfl) (by rw [hRs]; exact Nat.le_of_ble_eq_true rfl)
  refine mg_dup (pc := 19) C dX1_init_19 rfl ?_
  refine mg_callIN (pc := 20) C (host := RX8) (wr := [(h0, .inr (1, [.ref (b2 0), .null, .null, .int 0, .int 0, .int 0, .int 0, .int 0]))] ++ w_S k b2 v3) hO (i_X4 z.2.1 k q5) YI_X4 (by simp [mg_nw]) (by decide) rfl [14] [0, 1, 2, 3, 4, 5, 6, 7, 8, 9, 10, 11, 12, 13] rfl (by decide) rfl (by decide) (by decide) (by rw [hRc]; exact Nat.le_of_ble_eq_true rfl) (by rw [hRs]; exact Nat.le_of_ble_eq_true rfl) (Nat.le_of_ble_eq_true rfl) rfl dX1_init_20 (fun w9 hw9 => ?_)
  have C := mg_Cup C (kc' := 15) (ks' := 295) (by rw [hRc]; exact Nat.le_of_ble_eq_true rfl) (by rw [hRs]; exact Nat.le_of_ble_eq_true rfl)
  obtain ⟨q6, rfl⟩ := hw9
  refine mg_putF (pc := 23) C (ty := (.object "CaissonSinker$Pose")) (w2 := [(h0, .inr (1, [.ref (b2 0), .ref q5, .null, .int 0, .int 0, .int 0, .int 0, .int 0]))] ++ w_S k b2 v3 ++ [(q5, .inr (4, [.int 0, .int 0, .int 0, .ref q6])), (q6, .inl (k.2.1, 49, .inl (fun _ => 0)))]) hin 0 rfl rfl inX1 1 (by decide) wm_197 rfl tyX1 tyX1_ok nmX1 rfl rfl (by decide +kernel) rfl rfl (Nat.le_of_ble_eq_true rfl) rfl dX1_init_23 ?_
  refine mg_aload_n (pc := 26) C 0 dX1_init_26 rfl rfl ?_
  refine mg_new (pc := 27) C (fs := [.int 0, .int 0, .int 0, .null]) (w2 := fun q7 => [(h0, .inr (1, [.ref (b2 0), .ref q5, .null, .int 0, .int 0, .int 0, .int 0, .int 0]))] ++ w_S k b2 v3 ++ [(q5, .inr (4, [.int 0, .int 0, .int 0, .ref q6])), (q6, .inl (k.2.1, 49, .inl (fun _ => 0))), (q7, .inr (4, [.int 0, .int 0, .int 0, .null]))]) inX4 tyX4 tyX4_ok wm_193 wm_38 wm_4 rfl mt_dX4 (by rw [hRc]; exact Nat.le_of_ble_eq_true rfl) (by rw [hRs]; exact Nat.le_of_ble_eq_true rfl) (fun _ => rfl) dX1_init_27 (fun q7 => ?_)
  have C := mg_Cup C (kc' := 16) (ks' := 299) (by rw [hRc]; exact Nat.le_of_ble_eq_true rfl) (by rw [hRs]; exact Nat.le_of_ble_eq_true rfl)
  refine mg_dup (pc := 30) C dX1_init_30 rfl ?_
  refine mg_callIN (pc := 31) C (host := RX8) (wr := [(h0, .inr (1, [.ref (b2 0), .ref q5, .null, .int 0, .int 0, .int 0, .int 0, .int 0]))] ++ w_S k b2 v3 ++ [(q5, .inr (4, [.int 0, .int 0, .int 0, .ref q6])), (q6, .inl (k.2.1, 49, .inl (fun _ => 0)))]) hO (i_X4 z.2.1 k q7) YI_X4 (by simp [mg_nw]) (by decide) rfl [16] [0, 1, 2, 3, 4, 5, 6, 7, 8, 9, 10, 11, 12, 13, 14, 15] rfl (by decide) rfl (by decide) (by decide) (by rw [hRc]; exact Nat.le_of_ble_eq_true rfl) (by rw [hRs]; exact Nat.le_of_ble_eq_true rfl) (Nat.le_of_ble_eq_true rfl) rfl dX1_init_31 (fun w9 hw9 => ?_)
  have C := mg_Cup C (kc' := 17) (ks' := 348) (by rw [hRc]; exact Nat.le_of_ble_eq_true rfl) (by rw [hRs]; exact Nat.le_of_ble_eq_true rfl)
  obtain ⟨q8, rfl⟩ := hw9
  refine mg_putF (pc := 34) C (ty := (.object "CaissonSinker$Pose")) (w2 := [(h0, .inr (1, [.ref (b2 0), .ref q5, .ref q7, .int 0, .int 0, .int 0, .int 0, .int 0]))] ++ w_S k b2 v3 ++ [(q5, .inr (4, [.int 0, .int 0, .int 0, .ref q6])), (q6, .inl (k.2.1, 49, .inl (fun _ => 0))), (q7, .inr (4, [.int 0, .int 0, .int 0, .ref q8])), (q8, .inl (k.2.1, 49, .inl (fun _ => 0)))]) hin 0 rfl rfl inX1 2 (by decide) wm_198 rfl tyX1 tyX1_ok nmX1 rfl rfl (by decide +kernel) rfl rfl (Nat.le_of_ble_eq_true rfl) rfl dX1_init_34 ?_
  refine mg_wp (w2 := [(h0, .inr (1, [.ref (b2 0), .ref q5, .ref q7, .int 0, .int 0, .int 0, .int 0, .int 0])), (q5, .inr (4, [.int 0, .int 0, .int 0, .ref q6])), (q6, .inl (k.2.1, 49, .inl (fun _ => 0))), (q7, .inr (4, [.int 0, .int 0, .int 0, .ref q8])), (q8, .inl (k.2.1, 49, .inl (fun _ => 0)))] ++ w_S k b2 v3) [0, 14, 15, 16, 17, 1, 2, 3, 4, 5, 6, 7, 8, 9, 10, 11, 12, 13] rfl (by decide) ?_
  exact E _ ⟨b2, v3, q5, q7, q6, q8, rfl, hv4⟩ _ _ dX1_init_37
def mt_b6 (b0 b1 b2 b3 b4 b5 : Nat → Nat) : Nat → Nat → Nat := fun j => match j with | 0 => b0 | 1 => b1 | 2 => b2 | 3 => b3 | 4 => b4 | _ => b5
def mt_v6 (b0 b1 b2 b3 b4 b5 : sv_T) : Nat → sv_T := fun j => match j with | 0 => b0 | 1 => b1 | 2 => b2 | 3 => b3 | 4 => b4 | _ => b5
set_option maxRecDepth 100000 in
set_option maxHeartbeats 40000000 in
theorem i_X3 (l : Launch) (k : mg_K) (h0 : Nat) : mg_I l yX3_init cX3_init 2 4 79 1458 k [.ref h0] ([(h0, .inr (3, [.null, .int 0, .int 0]))]) (fun w9 => ∃ (q0 : Nat) (b : Nat → Nat → Nat) (v : Nat → sv_T), w9 = [(h0, .inr (3, [.ref q0, .int 0, .int 0])), (q0, .inl (k.2.2.2.1, 6, .inr (.inr (.inr (.inr (mt_six b))))))] ++ w_S k (b 0) (v 0) ++ w_S k (b 1) (v 1) ++ w_S k (b 2) (v 2) ++ w_S k (b 3) (v 3) ++ w_S k (b 4) (v 4) ++ w_S k (b 5) (v 5)) := by
  refine mg_Iof RX3 [(0, .ref h0)] (by decide +kernel) rfl rfl rfl (Nat.le_of_ble_eq_true rfl) ?_
  intro z A Q hl C hRc hRs hin hO E
  subst hl
  refine mg_aload_n (pc := 0) C 0 dX3_init_0 rfl rfl ?_
  refine mg_objInit (pc := 1) C wm_232 wm_23 wm_24 (by decide) (Nat.le_of_ble_eq_true rfl) dX3_init_1 ?_
  refine mg_aload_n (pc := 4) C 0 dX3_init_4 rfl rfl ?_
  refine mg_bipush (pc := 5) C dX3_init_5 (v := 6) (by decide) ?_
  refine mg_newq (pc := 7) C (N := 6) (w2 := fun q1 => [(h0, .inr (3, [.null, .int 0, .int 0])), (q1, .inl (k.2.2.2.1, 6, .inr (.inr (.inr (.inr (fun _ => none))))))]) hO wm_233 (by decide) (by decide) (by decide) (by rw [hRc]; exact Nat.le_of_ble_eq_true rfl) (by rw [hRs]; exact Nat.le_of_ble_eq_true rfl) (fun _ => rfl) dX3_init_7 (fun q1 => ?_)
  have C := mg_Cup C (kc' := 1) (ks' := 6) (by rw [hRc]; exact Nat.le_of_ble_eq_true rfl) (by rw [hRs]; exact Nat.le_of_ble_eq_true rfl)
  refine mg_putF (pc := 10) C (ty := (.array (.object "CaissonSinker$Site"))) (w2 := [(h0, .inr (3, [.ref q1, .int 0, .int 0])), (q1, .inl (k.2.2.2.1, 6, .inr (.inr (.inr (.inr (fun _ => none))))))]) hin 0 rfl rfl inX3 0 (by decide) wm_236 rfl tyX3 tyX3_ok nmX3 rfl rfl (by decide +kernel) rfl rfl (Nat.le_of_ble_eq_true rfl) rfl dX3_init_10 ?_
  refine mg_iconst (pc := 13) C dX3_init_13 (v := 0) (by decide) ?_
  refine mg_istore_n (pc := 14) C (lv' := [(1, .int 0), (0, .ref h0)]) dX3_init_14 rfl (by decide) rfl ?_
  refine mg_iload_n (pc := 15) C 0 dX3_init_15 rfl rfl ?_
  refine mg_bipush (pc := 16) C dX3_init_16 (v := 6) (by decide) ?_
  refine mg_icmp_geF (pc := 18) (tgt := 40) C (by decide) dX3_init_18 (by decide) ?_
  refine mg_aload_n (pc := 21) C 1 dX3_init_21 rfl rfl ?_
  refine mg_get (pc := 22) C 0 rfl rfl inX3 0 (by decide) wm_236 rfl rfl dX3_init_22 ?_
  refine mg_iload_n (pc := 25) C 0 dX3_init_25 rfl rfl ?_
  refine mg_new (pc := 26) C (fs := [.int 0, .int 0, .int 0, .int 0, .int 0, .null, .null, .null, .null, .null, .null]) (w2 := fun q2 => [(h0, .inr (3, [.ref q1, .int 0, .int 0])), (q1, .inl (k.2.2.2.1, 6, .inr (.inr (.inr (.inr (fun _ => none)))))), (q2, .inr (5, [.int 0, .int 0, .int 0, .int 0, .int 0, .null, .null, .null, .null, .null, .null]))]) inX5 tyX5 tyX5_ok wm_233 wm_32 wm_3 rfl mt_dX5 (by rw [hRc]; exact Nat.le_of_ble_eq_true rfl) (by rw [hRs]; exact Nat.le_of_ble_eq_true rfl) (fun _ => rfl) dX3_init_26 (fun q2 => ?_)
  have C := mg_Cup C (kc' := 2) (ks' := 17) (by rw [hRc]; exact Nat.le_of_ble_eq_true rfl) (by rw [hRs]; exact Nat.le_of_ble_eq_true rfl)
  refine mg_dup (pc := 29) C dX3_init_29 rfl ?_
  refine mg_callI (pc := 30) C (wr := [(h0, .inr (3, [.ref q1, .int 0, .int 0])), (q1, .inl (k.2.2.2.1, 6, .inr (.inr (.inr (.inr (fun _ => none))))))]) hO (i_X5 z.2.1 k q2) YI_X5 wm_235 (by decide) rfl [2] [0, 1] rfl (by decide) rfl (by decide) (by decide) (by rw [hRc]; exact Nat.le_of_ble_eq_true rfl) (by rw [hRs]; exact Nat.le_of_ble_eq_true rfl) (Nat.le_of_ble_eq_true rfl) rfl dX3_init_30 (fun w9 hw9 => ?_)
  have C := mg_Cup C (kc' := 14) (ks' := 248) (by rw [hRc]; exact Nat.le_of_ble_eq_true rfl) (by rw [hRs]; exact Nat.le_of_ble_eq_true rfl)
  obtain ⟨b3, v4, he, rfl, hv5⟩ := hw9
  subst he
  refine mg_aast (pc := 33) C (w2 := [(h0, .inr (3, [.ref q1, .int 0, .int 0])), (q1, .inl (k.2.2.2.1, 6, .inr (.inr (.inr (.inr (va_up (fun _ => none) 0 (some (b3 0))))))))] ++ w_S k b3 v4) 1 2 0 rfl rfl rfl (by decide) (by decide) rfl dX3_init_33 ?_
  refine mg_iinc (pc := 34) C (c := 1) (lv' := [(1, .int (0 + 1)), (0, .ref h0)]) 0 dX3_init_34 rfl (by decide) (by decide) rfl ?_
  rw [show ((0 : Int32) + 1) = 1 from by decide]
  refine mg_goto (pc := 37) (tgt := 15) C dX3_init_37 (by decide) ?_
  refine mg_iload_n (pc := 15) C 0 dX3_init_15 rfl rfl ?_
  refine mg_bipush (pc := 16) C dX3_init_16 (v := 6) (by decide) ?_
  refine mg_icmp_geF (pc := 18) (tgt := 40) C (by decide) dX3_init_18 (by decide) ?_
  refine mg_aload_n (pc := 21) C 1 dX3_init_21 rfl rfl ?_
  refine mg_get (pc := 22) C 0 rfl rfl inX3 0 (by decide) wm_236 rfl rfl dX3_init_22 ?_
  refine mg_iload_n (pc := 25) C 0 dX3_init_25 rfl rfl ?_
  refine mg_new (pc := 26) C (fs := [.int 0, .int 0, .int 0, .int 0, .int 0, .null, .null, .null, .null, .null, .null]) (w2 := fun q6 => [(h0, .inr (3, [.ref q1, .int 0, .int 0])), (q1, .inl (k.2.2.2.1, 6, .inr (.inr (.inr (.inr (va_up (fun _ => none) 0 (some (b3 0))))))))] ++ w_S k b3 v4 ++ [(q6, .inr (5, [.int 0, .int 0, .int 0, .int 0, .int 0, .null, .null, .null, .null, .null, .null]))]) inX5 tyX5 tyX5_ok wm_233 wm_32 wm_3 rfl mt_dX5 (by rw [hRc]; exact Nat.le_of_ble_eq_true rfl) (by rw [hRs]; exact Nat.le_of_ble_eq_true rfl) (fun _ => rfl) dX3_init_26 (fun q6 => ?_)
  have C := mg_Cup C (kc' := 15) (ks' := 259) (by rw [hRc]; exact Nat.le_of_ble_eq_true rfl) (by rw [hRs]; exact Nat.le_of_ble_eq_true rfl)
  refine mg_dup (pc := 29) C dX3_init_29 rfl ?_
  refine mg_callI (pc := 30) C (wr := [(h0, .inr (3, [.ref q1, .int 0, .int 0])), (q1, .inl (k.2.2.2.1, 6, .inr (.inr (.inr (.inr (va_up (fun _ => none) 0 (some (b3 0))))))))] ++ w_S k b3 v4) hO (i_X5 z.2.1 k q6) YI_X5 wm_235 (by decide) rfl [15] [0, 1, 2, 3, 4, 5, 6, 7, 8, 9, 10, 11, 12, 13, 14] rfl (by decide) rfl (by decide) (by decide) (by rw [hRc]; exact Nat.le_of_ble_eq_true rfl) (by rw [hRs]; exact Nat.le_of_ble_eq_true rfl) (Nat.le_of_ble_eq_true rfl) rfl dX3_init_30 (fun w9 hw9 => ?_)
  have C := mg_Cup C (kc' := 27) (ks' := 490) (by rw [hRc]; exact Nat.le_of_ble_eq_true rfl) (by rw [hRs]; exact Nat.le_of_ble_eq_true rfl)
  obtain ⟨b7, v8, he, rfl, hv9⟩ := hw9
  subst he
  refine mg_aast (pc := 33) C (w2 := [(h0, .inr (3, [.ref q1, .int 0, .int 0])), (q1, .inl (k.2.2.2.1, 6, .inr (.inr (.inr (.inr (va_up (va_up (fun _ => none) 0 (some (b3 0))) 1 (some (b7 0))))))))] ++ w_S k b3 v4 ++ w_S k b7 v8) 1 15 1 rfl rfl rfl (by decide) (by decide) rfl dX3_init_33 ?_
  refine mg_iinc (pc := 34) C (c := 1) (lv' := [(1, .int (1 + 1)), (0, .ref h0)]) 0 dX3_init_34 rfl (by decide) (by decide) rfl ?_
  rw [show ((1 : Int32) + 1) = 2 from by decide]
  refine mg_goto (pc := 37) (tgt := 15) C dX3_init_37 (by decide) ?_
  refine mg_iload_n (pc := 15) C 0 dX3_init_15 rfl rfl ?_
  refine mg_bipush (pc := 16) C dX3_init_16 (v := 6) (by decide) ?_
  refine mg_icmp_geF (pc := 18) (tgt := 40) C (by decide) dX3_init_18 (by decide) ?_
  refine mg_aload_n (pc := 21) C 1 dX3_init_21 rfl rfl ?_
  refine mg_get (pc := 22) C 0 rfl rfl inX3 0 (by decide) wm_236 rfl rfl dX3_init_22 ?_
  refine mg_iload_n (pc := 25) C 0 dX3_init_25 rfl rfl ?_
  refine mg_new (pc := 26) C (fs := [.int 0, .int 0, .int 0, .int 0, .int 0, .null, .null, .null, .null, .null, .null]) (w2 := fun q10 => [(h0, .inr (3, [.ref q1, .int 0, .int 0])), (q1, .inl (k.2.2.2.1, 6, .inr (.inr (.inr (.inr (va_up (va_up (fun _ => none) 0 (some (b3 0))) 1 (some (b7 0))))))))] ++ w_S k b3 v4 ++ w_S k b7 v8 ++ [(q10, .inr (5, [.int 0, .int 0, .int 0, .int 0, .int 0, .null, .null, .null, .null, .null, .null]))]) inX5 tyX5 tyX5_ok wm_233 wm_32 wm_3 rfl mt_dX5 (by rw [hRc]; exact Nat.le_of_ble_eq_true rfl) (by rw [hRs]; exact Nat.le_of_ble_eq_true rfl) (fun _ => rfl) dX3_init_26 (fun q10 => ?_)
  have C := mg_Cup C (kc' := 28) (ks' := 501) (by rw [hRc]; exact Nat.le_of_ble_eq_true rfl) (by rw [hRs]; exact Nat.le_of_ble_eq_true rfl)
  refine mg_dup (pc := 29) C dX3_init_29 rfl ?_
  refine mg_callI (pc := 30) C (wr := [(h0, .inr (3, [.ref q1, .int 0, .int 0])), (q1, .inl (k.2.2.2.1, 6, .inr (.inr (.inr (.inr (va_up (va_up (fun _ => none) 0 (some (b3 0))) 1 (some (b7 0))))))))] ++ w_S k b3 v4 ++ w_S k b7 v8) hO (i_X5 z.2.1 k q10) YI_X5 wm_235 (by decide) rfl [28] [0, 1, 2, 3, 4, 5, 6, 7, 8, 9, 10, 11, 12, 13, 14, 15, 16, 17, 18, 19, 20, 21, 22, 23, 24, 25, 26, 27] rfl (by decide) rfl (by decide) (by decide) (by rw [hRc]; exact Nat.le_of_ble_eq_true rfl) (by rw [hRs]; exact Nat.le_of_ble_eq_true rfl) (Nat.le_of_ble_eq_true rfl) rfl dX3_init_30 (fun w9 hw9 => ?_)
  have C := mg_Cup C (kc' := 40) (ks' := 732) (by rw [hRc]; exact Nat.le_of_ble_eq_true rfl) (by rw [hRs]; exact Nat.le_of_ble_eq_true rfl)
  obtain ⟨b11, v12, he, rfl, hv13⟩ := hw9
  subst he
  refine mg_aast (pc := 33) C (w2 := [(h0, .inr (3, [.ref q1, .int 0, .int 0])), (q1, .inl (k.2.2.2.1, 6, .inr (.inr (.inr (.inr (va_up (va_up (va_up (fun _ => none) 0 (some (b3 0))) 1 (some (b7 0))) 2 (some (b11 0))))))))] ++ w_S k b3 v4 ++ w_S k b7 v8 ++ w_S k b11 v12) 1 28 2 rfl rfl rfl (by decide) (by decide) rfl dX3_init_33 ?_
  refine mg_iinc (pc := 34) C (c := 1) (lv' := [(1, .int (2 + 1)), (0, .ref h0)]) 0 dX3_init_34 rfl (by decide) (by decide) rfl ?_
  rw [show ((2 : Int32) + 1) = 3 from by decide]
  refine mg_goto (pc := 37) (tgt := 15) C dX3_init_37 (by decide) ?_
  refine mg_iload_n (pc := 15) C 0 dX3_init_15 rfl rfl ?_
  refine mg_bipush (pc := 16) C dX3_init_16 (v := 6) (by decide) ?_
  refine mg_icmp_geF (pc := 18) (tgt := 40) C (by decide) dX3_init_18 (by decide) ?_
  refine mg_aload_n (pc := 21) C 1 dX3_init_21 rfl rfl ?_
  refine mg_get (pc := 22) C 0 rfl rfl inX3 0 (by decide) wm_236 rfl rfl dX3_init_22 ?_
  refine mg_iload_n (pc := 25) C 0 dX3_init_25 rfl rfl ?_
  refine mg_new (pc := 26) C (fs := [.int 0, .int 0, .int 0, .int 0, .int 0, .null, .null, .null, .null, .null, .null]) (w2 := fun q14 => [(h0, .inr (3, [.ref q1, .int 0, .int 0])), (q1, .inl (k.2.2.2.1, 6, .inr (.inr (.inr (.inr (va_up (va_up (va_up (fun _ => none) 0 (some (b3 0))) 1 (some (b7 0))) 2 (some (b11 0))))))))] ++ w_S k b3 v4 ++ w_S k b7 v8 ++ w_S k b11 v12 ++ [(q14, .inr (5, [.int 0, .int 0, .int 0, .int 0, .int 0, .null, .null, .null, .null, .null, .null]))]) inX5 tyX5 tyX5_ok wm_233 wm_32 wm_3 rfl mt_dX5 (by rw [hRc]; exact Nat.le_of_ble_eq_true rfl) (by rw [hRs]; exact Nat.le_of_ble_eq_true rfl) (fun _ => rfl) dX3_init_26 (fun q14 => ?_)
  have C := mg_Cup C (kc' := 41) (ks' := 743) (by rw [hRc]; exact Nat.le_of_ble_eq_true rfl) (by rw [hRs]; exact Nat.le_of_ble_eq_true rfl)
  refine mg_dup (pc := 29) C dX3_init_29 rfl ?_
  refine mg_callI (pc := 30) C (wr := [(h0, .inr (3, [.ref q1, .int 0, .int 0])), (q1, .inl (k.2.2.2.1, 6, .inr (.inr (.inr (.inr (va_up (va_up (va_up (fun _ => none) 0 (some (b3 0))) 1 (some (b7 0))) 2 (some (b11 0))))))))] ++ w_S k b3 v4 ++ w_S k b7 v8 ++ w_S k b11 v12) hO (i_X5 z.2.1 k q14) YI_X5 wm_235 (by decide) rfl [41] [0, 1, 2, 3, 4, 5, 6, 7, 8, 9, 10, 11, 12, 13, 14, 15, 16, 17, 18, 19, 20, 21, 22, 23, 24, 25, 26, 27, 28, 29, 30, 31, 32, 33, 34, 35, 36, 37, 38, 39, 40] rfl (by decide) rfl (by decide) (by decide) (by rw [hRc]; exact Nat.le_of_ble_eq_true rfl) (by rw [hRs]; exact Nat.le_of_ble_eq_true rfl) (Nat.le_of_ble_eq_true rfl) rfl dX3_init_30 (fun w9 hw9 => ?_)
  have C := mg_Cup C (kc' := 53) (ks' := 974) (by rw [hRc]; exact Nat.le_of_ble_eq_true rfl) (by rw [hRs]; exact Nat.le_of_ble_eq_true rfl)
  obtain ⟨b15, v16, he, rfl, hv17⟩ := hw9
  subst he
  refine mg_aast (pc := 33) C (w2 := [(h0, .inr (3, [.ref q1, .int 0, .int 0])), (q1, .inl (k.2.2.2.1, 6, .inr (.inr (.inr (.inr (va_up (va_up (va_up (va_up (fun _ => none) 0 (some (b3 0))) 1 (some (b7 0))) 2 (some (b11 0))) 3 (some (b15 0))))))))] ++ w_S k b3 v4 ++ w_S k b7 v8 ++ w_S k b11 v12 ++ w_S k b15 v16) 1 41 3 rfl rfl rfl (by decide) (by decide) rfl dX3_init_33 ?_
  refine mg_iinc (pc := 34) C (c := 1) (lv' := [(1, .int (3 + 1)), (0, .ref h0)]) 0 dX3_init_34 rfl (by decide) (by decide) rfl ?_
  rw [show ((3 : Int32) + 1) = 4 from by decide]
  refine mg_goto (pc := 37) (tgt := 15) C dX3_init_37 (by decide) ?_
  refine mg_iload_n (pc := 15) C 0 dX3_init_15 rfl rfl ?_
  refine mg_bipush (pc := 16) C dX3_init_16 (v := 6) (by decide) ?_
  refine mg_icmp_geF (pc := 18) (tgt := 40) C (by decide) dX3_init_18 (by decide) ?_
  refine mg_aload_n (pc := 21) C 1 dX3_init_21 rfl rfl ?_
  refine mg_get (pc := 22) C 0 rfl rfl inX3 0 (by decide) wm_236 rfl rfl dX3_init_22 ?_
  refine mg_iload_n (pc := 25) C 0 dX3_init_25 rfl rfl ?_
  refine mg_new (pc := 26) C (fs := [.int 0, .int 0, .int 0, .int 0, .int 0, .null, .null, .null, .null, .null, .null]) (w2 := fun q18 => [(h0, .inr (3, [.ref q1, .int 0, .int 0])), (q1, .inl (k.2.2.2.1, 6, .inr (.inr (.inr (.inr (va_up (va_up (va_up (va_up (fun _ => none) 0 (some (b3 0))) 1 (some (b7 0))) 2 (some (b11 0))) 3 (some (b15 0))))))))] ++ w_S k b3 v4 ++ w_S k b7 v8 ++ w_S k b11 v12 ++ w_S k b15 v16 ++ [(q18, .inr (5, [.int 0, .int 0, .int 0, .int 0, .int 0, .null, .null, .null, .null, .null, .null]))]) inX5 tyX5 tyX5_ok wm_233 wm_32 wm_3 rfl mt_dX5 (by rw [hRc]; exact Nat.le_of_ble_eq_true rfl) (by rw [hRs]; exact Nat.le_of_ble_eq_true rfl) (fun _ => rfl) dX3_init_26 (fun q18 => ?_)
  have C := mg_Cup C (kc' := 54) (ks' := 985) (by rw [hRc]; exact Nat.le_of_ble_eq_true rfl) (by rw [hRs]; exact Nat.le_of_ble_eq_true rfl)
  refine mg_dup (pc := 29) C dX3_init_29 rfl ?_
  refine mg_callI (pc := 30) C (wr := [(h0, .inr (3, [.ref q1, .int 0, .int 0])), (q1, .inl (k.2.2.2.1, 6, .inr (.inr (.inr (.inr (va_up (va_up (va_up (va_up (fun _ => none) 0 (some (b3 0))) 1 (some (b7 0))) 2 (some (b11 0))) 3 (some (b15 0))))))))] ++ w_S k b3 v4 ++ w_S k b7 v8 ++ w_S k b11 v12 ++ w_S k b15 v16) hO (i_X5 z.2.1 k q18) YI_X5 wm_235 (by decide) rfl [54] [0, 1, 2, 3, 4, 5, 6, 7, 8, 9, 10, 11, 12, 13, 14, 15, 16, 17, 18, 19, 20, 21, 22, 23, 24, 25, 26, 27, 28, 29, 30, 31, 32, 33, 34, 35, 36, 37, 38, 39, 40, 41, 42, 43, 44, 45, 46, 47, 48, 49, 50, 51, 52, 53] rfl (by decide) rfl (by decide) (by decide) (by rw [hRc]; exact Nat.le_of_ble_eq_true rfl) (by rw [hRs]; exact Nat.le_of_ble_eq_true rfl) (Nat.le_of_ble_eq_true rfl) rfl dX3_init_30 (fun w9 hw9 => ?_)
  have C := mg_Cup C (kc' := 66) (ks' := 1216) (by rw [hRc]; exact Nat.le_of_ble_eq_true rfl) (by rw [hRs]; exact Nat.le_of_ble_eq_true rfl)
  obtain ⟨b19, v20, he, rfl, hv21⟩ := hw9
  subst he
  refine mg_aast (pc := 33) C (w2 := [(h0, .inr (3, [.ref q1, .int 0, .int 0])), (q1, .inl (k.2.2.2.1, 6, .inr (.inr (.inr (.inr (va_up (va_up (va_up (va_up (va_up (fun _ => none) 0 (some (b3 0))) 1 (some (b7 0))) 2 (some (b11 0))) 3 (some (b15 0))) 4 (some (b19 0))))))))] ++ w_S k b3 v4 ++ w_S k b7 v8 ++ w_S k b11 v12 ++ w_S k b15 v16 ++ w_S k b19 v20) 1 54 4 rfl rfl rfl (by decide) (by decide) rfl dX3_init_33 ?_
  refine mg_iinc (pc := 34) C (c := 1) (lv' := [(1, .int (4 + 1)), (0, .ref h0)]) 0 dX3_init_34 rfl (by decide) (by decide) rfl ?_
  rw [show ((4 : Int32) + 1) = 5 from by decide]
  refine mg_goto (pc := 37) (tgt := 15) C dX3_init_37 (by decide) ?_
  refine mg_iload_n (pc := 15) C 0 dX3_init_15 rfl rfl ?_
  refine mg_bipush (pc := 16) C dX3_init_16 (v := 6) (by decide) ?_
  refine mg_icmp_geF (pc := 18) (tgt := 40) C (by decide) dX3_init_18 (by decide) ?_
  refine mg_aload_n (pc := 21) C 1 dX3_init_21 rfl rfl ?_
  refine mg_get (pc := 22) C 0 rfl rfl inX3 0 (by decide) wm_236 rfl rfl dX3_init_22 ?_
  refine mg_iload_n (pc := 25) C 0 dX3_init_25 rfl rfl ?_
  refine mg_new (pc := 26) C (fs := [.int 0, .int 0, .int 0, .int 0, .int 0, .null, .null, .null, .null, .null, .null]) (w2 := fun q22 => [(h0, .inr (3, [.ref q1, .int 0, .int 0])), (q1, .inl (k.2.2.2.1, 6, .inr (.inr (.inr (.inr (va_up (va_up (va_up (va_up (va_up (fun _ => none) 0 (some (b3 0))) 1 (some (b7 0))) 2 (some (b11 0))) 3 (some (b15 0))) 4 (some (b19 0))))))))] ++ w_S k b3 v4 ++ w_S k b7 v8 ++ w_S k b11 v12 ++ w_S k b15 v16 ++ w_S k b19 v20 ++ [(q22, .inr (5, [.int 0, .int 0, .int 0, .int 0, .int 0, .null, .null, .null, .null, .null, .null]))]) inX5 tyX5 tyX5_ok wm_233 wm_32 wm_3 rfl mt_dX5 (by rw [hRc]; exact Nat.le_of_ble_eq_true rfl) (by rw [hRs]; exact Nat.le_of_ble_eq_true rfl) (fun _ => rfl) dX3_init_26 (fun q22 => ?_)
  have C := mg_Cup C (kc' := 67) (ks' := 1227) (by rw [hRc]; exact Nat.le_of_ble_eq_true rfl) (by rw [hRs]; exact Nat.le_of_ble_eq_true rfl)
  refine mg_dup (pc := 29) C dX3_init_29 rfl ?_
  refine mg_callI (pc := 30) C (wr := [(h0, .inr (3, [.ref q1, .int 0, .int 0])), (q1, .inl (k.2.2.2.1, 6, .inr (.inr (.inr (.inr (va_up (va_up (va_up (va_up (va_up (fun _ => none) 0 (some (b3 0))) 1 (some (b7 0))) 2 (some (b11 0))) 3 (some (b15 0))) 4 (some (b19 0))))))))] ++ w_S k b3 v4 ++ w_S k b7 v8 ++ w_S k b11 v12 ++ w_S k b15 v16 ++ w_S k b19 v20) hO (i_X5 z.2.1 k q22) YI_X5 wm_235 (by decide) rfl [67] [0, 1, 2, 3, 4, 5, 6, 7, 8, 9, 10, 11, 12, 13, 14, 15, 16, 17, 18, 19, 20, 21, 22, 23, 24, 25, 26, 27, 28, 29, 30, 31, 32, 33, 34, 35, 36, 37, 38, 39, 40, 41, 42, 43, 44, 45, 46, 47, 48, 49, 50, 51, 52, 53, 54, 55, 56, 57, 58, 59, 60, 61, 62, 63, 64, 65, 66] rfl (by decide) rfl (by decide) (by decide) (by rw [hRc]; exact Nat.le_of_ble_eq_true rfl) (by rw [hRs]; exact Nat.le_of_ble_eq_true rfl) (Nat.le_of_ble_eq_true rfl) rfl dX3_init_30 (fun w9 hw9 => ?_)
  have C := mg_Cup C (kc' := 79) (ks' := 1458) (by rw [hRc]; exact Nat.le_of_ble_eq_true rfl) (by rw [hRs]; exact Nat.le_of_ble_eq_true rfl)
  obtain ⟨b23, v24, he, rfl, hv25⟩ := hw9
  subst he
  refine mg_aast (pc := 33) C (w2 := [(h0, .inr (3, [.ref q1, .int 0, .int 0])), (q1, .inl (k.2.2.2.1, 6, .inr (.inr (.inr (.inr (va_up (va_up (va_up (va_up (va_up (va_up (fun _ => none) 0 (some (b3 0))) 1 (some (b7 0))) 2 (some (b11 0))) 3 (some (b15 0))) 4 (some (b19 0))) 5 (some (b23 0))))))))] ++ w_S k b3 v4 ++ w_S k b7 v8 ++ w_S k b11 v12 ++ w_S k b15 v16 ++ w_S k b19 v20 ++ w_S k b23 v24) 1 67 5 rfl rfl rfl (by decide) (by decide) rfl dX3_init_33 ?_
  refine mg_iinc (pc := 34) C (c := 1) (lv' := [(1, .int (5 + 1)), (0, .ref h0)]) 0 dX3_init_34 rfl (by decide) (by decide) rfl ?_
  rw [show ((5 : Int32) + 1) = 6 from by decide]
  refine mg_goto (pc := 37) (tgt := 15) C dX3_init_37 (by decide) ?_
  refine mg_iload_n (pc := 15) C 0 dX3_init_15 rfl rfl ?_
  refine mg_bipush (pc := 16) C dX3_init_16 (v := 6) (by decide) ?_
  refine mg_icmp_geT (pc := 18) (tgt := 40) C (by decide) dX3_init_18 (by decide) ?_
  refine mg_aload_n (pc := 40) C 1 dX3_init_40 rfl rfl ?_
  refine mg_iconst (pc := 41) C dX3_init_41 (v := 0) (by decide) ?_
  refine mg_puti (pc := 42) C (w2 := [(h0, .inr (3, [.ref q1, .int 0, .int 0])), (q1, .inl (k.2.2.2.1, 6, .inr (.inr (.inr (.inr (va_up (va_up (va_up (va_up (va_up (va_up (fun _ => none) 0 (some (b3 0))) 1 (some (b7 0))) 2 (some (b11 0))) 3 (some (b15 0))) 4 (some (b19 0))) 5 (some (b23 0))))))))] ++ w_S k b3 v4 ++ w_S k b7 v8 ++ w_S k b11 v12 ++ w_S k b15 v16 ++ w_S k b19 v20 ++ w_S k b23 v24) 0 rfl rfl inX3 1 (by decide) wm_237 rfl tyX3 tyX3_ok nmX3 rfl (by decide +kernel) (Nat.le_of_ble_eq_true rfl) rfl dX3_init_42 ?_
  refine mg_aload_n (pc := 45) C 1 dX3_init_45 rfl rfl ?_
  refine mg_iconst (pc := 46) C dX3_init_46 (v := 0) (by decide) ?_
  refine mg_puti (pc := 47) C (w2 := [(h0, .inr (3, [.ref q1, .int 0, .int 0])), (q1, .inl (k.2.2.2.1, 6, .inr (.inr (.inr (.inr (va_up (va_up (va_up (va_up (va_up (va_up (fun _ => none) 0 (some (b3 0))) 1 (some (b7 0))) 2 (some (b11 0))) 3 (some (b15 0))) 4 (some (b19 0))) 5 (some (b23 0))))))))] ++ w_S k b3 v4 ++ w_S k b7 v8 ++ w_S k b11 v12 ++ w_S k b15 v16 ++ w_S k b19 v20 ++ w_S k b23 v24) 0 rfl rfl inX3 2 (by decide) wm_238 rfl tyX3 tyX3_ok nmX3 rfl (by decide +kernel) (Nat.le_of_ble_eq_true rfl) rfl dX3_init_47 ?_
  rw [show (va_up (va_up (va_up (va_up (va_up (va_up (fun _ => none) 0 (some (b3 0))) 1 (some (b7 0))) 2 (some (b11 0))) 3 (some (b15 0))) 4 (some (b19 0))) 5 (some (b23 0))) = mt_six (mt_b6 b3 b7 b11 b15 b19 b23) from by funext j; match j with | 0 => rfl | 1 => rfl | 2 => rfl | 3 => rfl | 4 => rfl | 5 => rfl | j + 6 => simp [va_up, mt_six]]
  refine mg_wp (w2 := [(h0, .inr (3, [.ref q1, .int 0, .int 0])), (q1, .inl (k.2.2.2.1, 6, .inr (.inr (.inr (.inr (mt_six (mt_b6 b3 b7 b11 b15 b19 b23)))))))] ++ w_S k ((mt_b6 b3 b7 b11 b15 b19 b23) 0) ((mt_v6 v4 v8 v12 v16 v20 v24) 0) ++ w_S k ((mt_b6 b3 b7 b11 b15 b19 b23) 1) ((mt_v6 v4 v8 v12 v16 v20 v24) 1) ++ w_S k ((mt_b6 b3 b7 b11 b15 b19 b23) 2) ((mt_v6 v4 v8 v12 v16 v20 v24) 2) ++ w_S k ((mt_b6 b3 b7 b11 b15 b19 b23) 3) ((mt_v6 v4 v8 v12 v16 v20 v24) 3) ++ w_S k ((mt_b6 b3 b7 b11 b15 b19 b23) 4) ((mt_v6 v4 v8 v12 v16 v20 v24) 4) ++ w_S k ((mt_b6 b3 b7 b11 b15 b19 b23) 5) ((mt_v6 v4 v8 v12 v16 v20 v24) 5)) [0, 1, 2, 3, 4, 5, 6, 7, 8, 9, 10, 11, 12, 13, 14, 15, 16, 17, 18, 19, 20, 21, 22, 23, 24, 25, 26, 27, 28, 29, 30, 31, 32, 33, 34, 35, 36, 37, 38, 39, 40, 41, 42, 43, 44, 45, 46, 47, 48, 49, 50, 51, 52, 53, 54, 55, 56, 57, 58, 59, 60, 61, 62, 63, 64, 65, 66, 67, 68, 69, 70, 71, 72, 73, 74, 75, 76, 77, 78, 79] rfl (by decide) ?_
  exact E _ ⟨q1, (mt_b6 b3 b7 b11 b15 b19 b23), (mt_v6 v4 v8 v12 v16 v20 v24), rfl⟩ _ _ dX3_init_50
set_option maxRecDepth 100000 in
set_option maxHeartbeats 40000000 in
theorem i_X9 (l : Launch) (k : mg_K) (h0 : Nat) : mg_I l yX9_init cX9_init 1 1 7 2109 k [.ref h0] ([(h0, .inr (9, [.null, .null, .null, .int 0, .null, .int 0, .int 0, .int 0, .int 0, .int 0, .null, .null, .null, .int 0, .int 0]))]) (fun w9 => ∃ q0 q1 q2 q3 q4 q5 q6 : Nat, w9 = [(h0, .inr (9, [.ref q0, .ref q1, .ref q2, .int 0, .ref q3, .int 0, .int 0, .int 0, .int 0, .int 0, .ref q4, .ref q5, .ref q6, .int 0, .int 0])), (q0, .inl (k.2.1, 227, .inl (upd (upd (upd (upd (upd (fun j => if j < 227 then 0 else (fun _ => 0) j) 0 5) 1 4) 5 600) 6 400) 7 400))), (q1, .inl (k.2.1, 1362, .inl (fun _ => 0))), (q2, .inl (k.2.1, 227, .inl (fun _ => 0))), (q3, .inl (k.2.1, 200, .inl (fun _ => 0))), (q4, .inl (k.2.1, 4, .inl (fun _ => 0))), (q5, .inl (k.2.1, 53, .inl (fun _ => 0))), (q6, .inl (k.2.1, 36, .inl (fun _ => 0)))]) := by
  refine mg_Iof RX9 [(0, .ref h0)] (by decide +kernel) rfl rfl rfl (Nat.le_of_ble_eq_true rfl) ?_
  intro z A Q hl C hRc hRs hin hO E
  subst hl
  refine mg_aload_n (pc := 0) C 0 dX9_init_0 rfl rfl ?_
  refine mg_objInit (pc := 1) C wm_869 wm_23 wm_24 (by decide) (Nat.le_of_ble_eq_true rfl) dX9_init_1 ?_
  refine mg_aload_n (pc := 4) C 0 dX9_init_4 rfl rfl ?_
  refine mg_sipush (pc := 5) C dX9_init_5 (v := 227) (by decide) ?_
  refine mg_newi (pc := 8) C (N := 227) (w2 := fun q1 => [(h0, .inr (9, [.null, .null, .null, .int 0, .null, .int 0, .int 0, .int 0, .int 0, .int 0, .null, .null, .null, .int 0, .int 0])), (q1, .inl (k.2.1, 227, .inl (fun _ => 0)))]) wm_63 (by decide) (by decide) (by decide) (by rw [hRc]; exact Nat.le_of_ble_eq_true rfl) (by rw [hRs]; exact Nat.le_of_ble_eq_true rfl) (fun _ => rfl) dX9_init_8 (fun q1 => ?_)
  have C := mg_Cup C (kc' := 1) (ks' := 227) (by rw [hRc]; exact Nat.le_of_ble_eq_true rfl) (by rw [hRs]; exact Nat.le_of_ble_eq_true rfl)
  refine mg_putF (pc := 10) C (ty := (.array .int)) (w2 := [(h0, .inr (9, [.ref q1, .null, .null, .int 0, .null, .int 0, .int 0, .int 0, .int 0, .int 0, .null, .null, .null, .int 0, .int 0])), (q1, .inl (k.2.1, 227, .inl (fun _ => 0)))]) hin 0 rfl rfl inX9 0 (by decide) wm_874 rfl tyX9 tyX9_ok nmX9 rfl rfl (by decide +kernel) rfl rfl (Nat.le_of_ble_eq_true rfl) rfl dX9_init_10 ?_
  refine mg_aload_n (pc := 13) C 0 dX9_init_13 rfl rfl ?_
  refine mg_sipush (pc := 14) C dX9_init_14 (v := 1362) (by decide) ?_
  refine mg_newi (pc := 17) C (N := 1362) (w2 := fun q2 => [(h0, .inr (9, [.ref q1, .null, .null, .int 0, .null, .int 0, .int 0, .int 0, .int 0, .int 0, .null, .null, .null, .int 0, .int 0])), (q1, .inl (k.2.1, 227, .inl (fun _ => 0))), (q2, .inl (k.2.1, 1362, .inl (fun _ => 0)))]) wm_63 (by decide) (by decide) (by decide) (by rw [hRc]; exact Nat.le_of_ble_eq_true rfl) (by rw [hRs]; exact Nat.le_of_ble_eq_true rfl) (fun _ => rfl) dX9_init_17 (fun q2 => ?_)
  have C := mg_Cup C (kc' := 2) (ks' := 1589) (by rw [hRc]; exact Nat.le_of_ble_eq_true rfl) (by rw [hRs]; exact Nat.le_of_ble_eq_true rfl)
  refine mg_putF (pc := 19) C (ty := (.array .int)) (w2 := [(h0, .inr (9, [.ref q1, .ref q2, .null, .int 0, .null, .int 0, .int 0, .int 0, .int 0, .int 0, .null, .null, .null, .int 0, .int 0])), (q1, .inl (k.2.1, 227, .inl (fun _ => 0))), (q2, .inl (k.2.1, 1362, .inl (fun _ => 0)))]) hin 0 rfl rfl inX9 1 (by decide) wm_875 rfl tyX9 tyX9_ok nmX9 rfl rfl (by decide +kernel) rfl rfl (Nat.le_of_ble_eq_true rfl) rfl dX9_init_19 ?_
  refine mg_aload_n (pc := 22) C 0 dX9_init_22 rfl rfl ?_
  refine mg_sipush (pc := 23) C dX9_init_23 (v := 227) (by decide) ?_
  refine mg_newi (pc := 26) C (N := 227) (w2 := fun q3 => [(h0, .inr (9, [.ref q1, .ref q2, .null, .int 0, .null, .int 0, .int 0, .int 0, .int 0, .int 0, .null, .null, .null, .int 0, .int 0])), (q1, .inl (k.2.1, 227, .inl (fun _ => 0))), (q2, .inl (k.2.1, 1362, .inl (fun _ => 0))), (q3, .inl (k.2.1, 227, .inl (fun _ => 0)))]) wm_63 (by decide) (by decide) (by decide) (by rw [hRc]; exact Nat.le_of_ble_eq_true rfl) (by rw [hRs]; exact Nat.le_of_ble_eq_true rfl) (fun _ => rfl) dX9_init_26 (fun q3 => ?_)
  have C := mg_Cup C (kc' := 3) (ks' := 1816) (by rw [hRc]; exact Nat.le_of_ble_eq_true rfl) (by rw [hRs]; exact Nat.le_of_ble_eq_true rfl)
  refine mg_putF (pc := 28) C (ty := (.array .int)) (w2 := [(h0, .inr (9, [.ref q1, .ref q2, .ref q3, .int 0, .null, .int 0, .int 0, .int 0, .int 0, .int 0, .null, .null, .null, .int 0, .int 0])), (q1, .inl (k.2.1, 227, .inl (fun _ => 0))), (q2, .inl (k.2.1, 1362, .inl (fun _ => 0))), (q3, .inl (k.2.1, 227, .inl (fun _ => 0)))]) hin 0 rfl rfl inX9 2 (by decide) wm_876 rfl tyX9 tyX9_ok nmX9 rfl rfl (by decide +kernel) rfl rfl (Nat.le_of_ble_eq_true rfl) rfl dX9_init_28 ?_
  refine mg_aload_n (pc := 31) C 0 dX9_init_31 rfl rfl ?_
  refine mg_sipush (pc := 32) C dX9_init_32 (v := 200) (by decide) ?_
  refine mg_newi (pc := 35) C (N := 200) (w2 := fun q4 => [(h0, .inr (9, [.ref q1, .ref q2, .ref q3, .int 0, .null, .int 0, .int 0, .int 0, .int 0, .int 0, .null, .null, .null, .int 0, .int 0])), (q1, .inl (k.2.1, 227, .inl (fun _ => 0))), (q2, .inl (k.2.1, 1362, .inl (fun _ => 0))), (q3, .inl (k.2.1, 227, .inl (fun _ => 0))), (q4, .inl (k.2.1, 200, .inl (fun _ => 0)))]) wm_63 (by decide) (by decide) (by decide) (by rw [hRc]; exact Nat.le_of_ble_eq_true rfl) (by rw [hRs]; exact Nat.le_of_ble_eq_true rfl) (fun _ => rfl) dX9_init_35 (fun q4 => ?_)
  have C := mg_Cup C (kc' := 4) (ks' := 2016) (by rw [hRc]; exact Nat.le_of_ble_eq_true rfl) (by rw [hRs]; exact Nat.le_of_ble_eq_true rfl)
  refine mg_putF (pc := 37) C (ty := (.array .int)) (w2 := [(h0, .inr (9, [.ref q1, .ref q2, .ref q3, .int 0, .ref q4, .int 0, .int 0, .int 0, .int 0, .int 0, .null, .null, .null, .int 0, .int 0])), (q1, .inl (k.2.1, 227, .inl (fun _ => 0))), (q2, .inl (k.2.1, 1362, .inl (fun _ => 0))), (q3, .inl (k.2.1, 227, .inl (fun _ => 0))), (q4, .inl (k.2.1, 200, .inl (fun _ => 0)))]) hin 0 rfl rfl inX9 4 (by decide) wm_878 rfl tyX9 tyX9_ok nmX9 rfl rfl (by decide +kernel) rfl rfl (Nat.le_of_ble_eq_true rfl) rfl dX9_init_37 ?_
  refine mg_aload_n (pc := 40) C 0 dX9_init_40 rfl rfl ?_
  refine mg_iconst (pc := 41) C dX9_init_41 (v := 4) (by decide) ?_
  refine mg_newi (pc := 42) C (N := 4) (w2 := fun q5 => [(h0, .inr (9, [.ref q1, .ref q2, .ref q3, .int 0, .ref q4, .int 0, .int 0, .int 0, .int 0, .int 0, .null, .null, .null, .int 0, .int 0])), (q1, .inl (k.2.1, 227, .inl (fun _ => 0))), (q2, .inl (k.2.1, 1362, .inl (fun _ => 0))), (q3, .inl (k.2.1, 227, .inl (fun _ => 0))), (q4, .inl (k.2.1, 200, .inl (fun _ => 0))), (q5, .inl (k.2.1, 4, .inl (fun _ => 0)))]) wm_63 (by decide) (by decide) (by decide) (by rw [hRc]; exact Nat.le_of_ble_eq_true rfl) (by rw [hRs]; exact Nat.le_of_ble_eq_true rfl) (fun _ => rfl) dX9_init_42 (fun q5 => ?_)
  have C := mg_Cup C (kc' := 5) (ks' := 2020) (by rw [hRc]; exact Nat.le_of_ble_eq_true rfl) (by rw [hRs]; exact Nat.le_of_ble_eq_true rfl)
  refine mg_putF (pc := 44) C (ty := (.array .int)) (w2 := [(h0, .inr (9, [.ref q1, .ref q2, .ref q3, .int 0, .ref q4, .int 0, .int 0, .int 0, .int 0, .int 0, .ref q5, .null, .null, .int 0, .int 0])), (q1, .inl (k.2.1, 227, .inl (fun _ => 0))), (q2, .inl (k.2.1, 1362, .inl (fun _ => 0))), (q3, .inl (k.2.1, 227, .inl (fun _ => 0))), (q4, .inl (k.2.1, 200, .inl (fun _ => 0))), (q5, .inl (k.2.1, 4, .inl (fun _ => 0)))]) hin 0 rfl rfl inX9 10 (by decide) wm_884 rfl tyX9 tyX9_ok nmX9 rfl rfl (by decide +kernel) rfl rfl (Nat.le_of_ble_eq_true rfl) rfl dX9_init_44 ?_
  refine mg_aload_n (pc := 47) C 0 dX9_init_47 rfl rfl ?_
  refine mg_bipush (pc := 48) C dX9_init_48 (v := 53) (by decide) ?_
  refine mg_newi (pc := 50) C (N := 53) (w2 := fun q6 => [(h0, .inr (9, [.ref q1, .ref q2, .ref q3, .int 0, .ref q4, .int 0, .int 0, .int 0, .int 0, .int 0, .ref q5, .null, .null, .int 0, .int 0])), (q1, .inl (k.2.1, 227, .inl (fun _ => 0))), (q2, .inl (k.2.1, 1362, .inl (fun _ => 0))), (q3, .inl (k.2.1, 227, .inl (fun _ => 0))), (q4, .inl (k.2.1, 200, .inl (fun _ => 0))), (q5, .inl (k.2.1, 4, .inl (fun _ => 0))), (q6, .inl (k.2.1, 53, .inl (fun _ => 0)))]) wm_63 (by decide) (by decide) (by decide) (by rw [hRc]; exact Nat.le_of_ble_eq_true rfl) (by rw [hRs]; exact Nat.le_of_ble_eq_true rfl) (fun _ => rfl) dX9_init_50 (fun q6 => ?_)
  have C := mg_Cup C (kc' := 6) (ks' := 2073) (by rw [hRc]; exact Nat.le_of_ble_eq_true rfl) (by rw [hRs]; exact Nat.le_of_ble_eq_true rfl)
  refine mg_putF (pc := 52) C (ty := (.array .int)) (w2 := [(h0, .inr (9, [.ref q1, .ref q2, .ref q3, .int 0, .ref q4, .int 0, .int 0, .int 0, .int 0, .int 0, .ref q5, .ref q6, .null, .int 0, .int 0])), (q1, .inl (k.2.1, 227, .inl (fun _ => 0))), (q2, .inl (k.2.1, 1362, .inl (fun _ => 0))), (q3, .inl (k.2.1, 227, .inl (fun _ => 0))), (q4, .inl (k.2.1, 200, .inl (fun _ => 0))), (q5, .inl (k.2.1, 4, .inl (fun _ => 0))), (q6, .inl (k.2.1, 53, .inl (fun _ => 0)))]) hin 0 rfl rfl inX9 11 (by decide) wm_885 rfl tyX9 tyX9_ok nmX9 rfl rfl (by decide +kernel) rfl rfl (Nat.le_of_ble_eq_true rfl) rfl dX9_init_52 ?_
  refine mg_aload_n (pc := 55) C 0 dX9_init_55 rfl rfl ?_
  refine mg_bipush (pc := 56) C dX9_init_56 (v := 36) (by decide) ?_
  refine mg_newi (pc := 58) C (N := 36) (w2 := fun q7 => [(h0, .inr (9, [.ref q1, .ref q2, .ref q3, .int 0, .ref q4, .int 0, .int 0, .int 0, .int 0, .int 0, .ref q5, .ref q6, .null, .int 0, .int 0])), (q1, .inl (k.2.1, 227, .inl (fun _ => 0))), (q2, .inl (k.2.1, 1362, .inl (fun _ => 0))), (q3, .inl (k.2.1, 227, .inl (fun _ => 0))), (q4, .inl (k.2.1, 200, .inl (fun _ => 0))), (q5, .inl (k.2.1, 4, .inl (fun _ => 0))), (q6, .inl (k.2.1, 53, .inl (fun _ => 0))), (q7, .inl (k.2.1, 36, .inl (fun _ => 0)))]) wm_63 (by decide) (by decide) (by decide) (by rw [hRc]; exact Nat.le_of_ble_eq_true rfl) (by rw [hRs]; exact Nat.le_of_ble_eq_true rfl) (fun _ => rfl) dX9_init_58 (fun q7 => ?_)
  have C := mg_Cup C (kc' := 7) (ks' := 2109) (by rw [hRc]; exact Nat.le_of_ble_eq_true rfl) (by rw [hRs]; exact Nat.le_of_ble_eq_true rfl)
  refine mg_putF (pc := 60) C (ty := (.array .int)) (w2 := [(h0, .inr (9, [.ref q1, .ref q2, .ref q3, .int 0, .ref q4, .int 0, .int 0, .int 0, .int 0, .int 0, .ref q5, .ref q6, .ref q7, .int 0, .int 0])), (q1, .inl (k.2.1, 227, .inl (fun _ => 0))), (q2, .inl (k.2.1, 1362, .inl (fun _ => 0))), (q3, .inl (k.2.1, 227, .inl (fun _ => 0))), (q4, .inl (k.2.1, 200, .inl (fun _ => 0))), (q5, .inl (k.2.1, 4, .inl (fun _ => 0))), (q6, .inl (k.2.1, 53, .inl (fun _ => 0))), (q7, .inl (k.2.1, 36, .inl (fun _ => 0)))]) hin 0 rfl rfl inX9 12 (by decide) wm_886 rfl tyX9 tyX9_ok nmX9 rfl rfl (by decide +kernel) rfl rfl (Nat.le_of_ble_eq_true rfl) rfl dX9_init_60 ?_
  refine mg_aload_n (pc := 63) C 0 dX9_init_63 rfl rfl ?_
  refine mg_callV (pc := 64) C (w2 := [(h0, .inr (9, [.ref q1, .ref q2, .ref q3, .int 0, .ref q4, .int 0, .int 0, .int 0, .int 0, .int 0, .ref q5, .ref q6, .ref q7, .int 0, .int 0])), (q1, .inl (k.2.1, 227, .inl (upd (upd (upd (upd (upd (fun j => if j < 227 then 0 else (fun _ => 0) j) 0 5) 1 4) 5 600) 6 400) 7 400))), (q2, .inl (k.2.1, 1362, .inl (fun _ => 0))), (q3, .inl (k.2.1, 227, .inl (fun _ => 0))), (q4, .inl (k.2.1, 200, .inl (fun _ => 0))), (q5, .inl (k.2.1, 4, .inl (fun _ => 0))), (q6, .inl (k.2.1, 53, .inl (fun _ => 0))), (q7, .inl (k.2.1, 36, .inl (fun _ => 0)))]) (c_X9_begins z.2.1 k h0 q1 q2 q3 q4 q5 q6 q7 0 0 0 0 0 0 0 0 (fun _ => 0) 5000 _ (mt_X9_begins (Nat.le_refl 5000) (fun _ => 0))) Y_X9_begins wm_870 (by decide) rfl 0 rfl rfl rfl [0, 1] rfl (by decide) rfl [some 0, some 1, none, none, none, none, none, none] (by decide) rfl (Nat.le_of_ble_eq_true rfl) rfl dX9_init_64 ?_
  exact E _ ⟨q1, q2, q3, q4, q5, q6, q7, rfl⟩ _ _ dX9_init_67
