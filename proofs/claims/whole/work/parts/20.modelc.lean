abbrev w_X9_load (k : mg_K) (a_t a_t_s a_t_past a_t_aside a_t_text a_t_told a_t_bottoms a_t_planned : Nat) (v_t_pasts : Int32) (v_t_typed : Int32) (v_t_at : Int32) (v_t_kind : Int32) (v_t_from : Int32) (v_t_value : Int32) (v_t_planLength : Int32) (v_t_planAmount : Int32) (v_t_aside : Nat → Int32) (v_t_past : Nat → Int32) (v_t_s : Nat → Int32) (v_t_text : Nat → Int32) (v_t_told : Nat → Int32) : va_W := [(a_t, .inr (9, [.ref a_t_s, .ref a_t_past, .ref a_t_aside, .int v_t_pasts, .ref a_t_text, .int v_t_typed, .int v_t_at, .int v_t_kind, .int v_t_from, .int v_t_value, .ref a_t_told, .ref a_t_bottoms, .ref a_t_planned, .int v_t_planLength, .int v_t_planAmount])), (a_t_aside, .inl (k.2.1, 227, .inl v_t_aside)), (a_t_past, .inl (k.2.1, 1362, .inl v_t_past)), (a_t_s, .inl (k.2.1, 227, .inl v_t_s)), (a_t_text, .inl (k.2.1, 200, .inl v_t_text)), (a_t_told, .inl (k.2.1, 4, .inl v_t_told))]
def f_X9_load_J43 (rec_ : Int32 → Int32 → Int32 → Int32 → Int32 → (Nat → Int32) → (Nat → Int32) → Option (Nat × Int32 × Int32 × Int32 × Int32 × Int32 × (Nat → Int32) × (Nat → Int32))) (fuel : Nat) (v_t_typed : Int32) (v_t_at : Int32) (v_t_kind : Int32) (v_t_from : Int32) (v_t_value : Int32) (v_t_s : Nat → Int32) (v_t_text : Nat → Int32) (v_t_told : Nat → Int32) (x1 : Int32) (y0 : Int32) : Option (Nat × Int32 × Int32 × Int32 × Int32 × Int32 × (Nat → Int32) × (Nat → Int32)) := (f_X9_mayBegin v_t_kind v_t_s y0 x1).bind (fun q7 => if q7 = 0 then (some (1, (x1, v_t_at, v_t_kind, v_t_from, v_t_value, v_t_s, v_t_told))) else ((f_X9_isRead fuel v_t_typed v_t_at v_t_kind v_t_from v_t_value v_t_s v_t_text v_t_told y0).bind (fun q9 => if q9.1 = 0 then (some (1, (x1, q9.2.1, q9.2.2.1, q9.2.2.2.1, q9.2.2.2.2.1, q9.2.2.2.2.2.1, q9.2.2.2.2.2.2))) else ((f_X9_token fuel v_t_typed q9.2.1 q9.2.2.2.2.1 v_t_text).bind (fun q11 => rec_ (x1 + 1) q11.1 q11.2.1 q11.2.2.1 q11.2.2.2 q9.2.2.2.2.2.1 q9.2.2.2.2.2.2)))))
def f_X9_load_L19 (fuel : Nat) (v_t_typed : Int32) (v_t_text : Nat → Int32) : Nat → Int32 → Int32 → Int32 → Int32 → Int32 → (Nat → Int32) → (Nat → Int32) → Option (Nat × Int32 × Int32 × Int32 × Int32 × Int32 × (Nat → Int32) × (Nat → Int32))
  | 0, _, _, _, _, _, _, _ => none
  | n_ + 1, x1, v_t_at, v_t_kind, v_t_from, v_t_value, v_t_s, v_t_told => if v_t_kind = 0 then (some (0, (x1, v_t_at, v_t_kind, v_t_from, v_t_value, v_t_s, v_t_told))) else (if v_t_kind = 1 then ((f_X9_item fuel v_t_at v_t_from v_t_text).bind (fun q13 => f_X9_load_J43 (f_X9_load_L19 fuel v_t_typed v_t_text n_) fuel v_t_typed v_t_at v_t_kind v_t_from v_t_value v_t_s v_t_text v_t_told x1 q13)) else (f_X9_load_J43 (f_X9_load_L19 fuel v_t_typed v_t_text n_) fuel v_t_typed v_t_at v_t_kind v_t_from v_t_value v_t_s v_t_text v_t_told x1 (-1000009)))
def f_X9_load (fuel : Nat) (v_t_pasts : Int32) (v_t_typed : Int32) (v_t_value : Int32) (v_t_aside : Nat → Int32) (v_t_past : Nat → Int32) (v_t_s : Nat → Int32) (v_t_text : Nat → Int32) (v_t_told : Nat → Int32) : Option (Int32 × Int32 × Int32 × Int32 × Int32 × Int32 × Int32 × (Nat → Int32) × (Nat → Int32) × (Nat → Int32) × (Nat → Int32)) := (f_X9_hold fuel v_t_aside v_t_s).bind (fun q1 => (f_X9_begins fuel v_t_s).bind (fun q3 => (f_X9_token fuel v_t_typed 0 v_t_value v_t_text).bind (fun q5 => (f_X9_load_L19 fuel v_t_typed v_t_text fuel 0 q5.1 q5.2.1 q5.2.2.1 q5.2.2.2 q3 v_t_told).bind (fun q15 => if q15.1 = 0 then ((f_X9_ends fuel v_t_pasts q1 v_t_past q15.2.1).bind (fun q17 => some (q17.1, q17.2.1, 0, q15.2.2.1, q15.2.2.2.1, q15.2.2.2.2.1, q15.2.2.2.2.2.1, q1, q17.2.2, q15.2.2.2.2.2.2.1, q15.2.2.2.2.2.2.2))) else ((f_X9_restore fuel q1 q15.2.2.2.2.2.2.1).bind (fun q19 => some ((-10) - q15.2.2.2.2.1, v_t_pasts, v_t_typed, q15.2.2.1, q15.2.2.2.1, q15.2.2.2.2.1, q15.2.2.2.2.2.1, q1, v_t_past, q19, q15.2.2.2.2.2.2.2)))))))
theorem Y_X9_load : mg_Y yX9_load cX9_load 3 (some .int) 0 := ⟨wm_934, wm_935, wm_11, wm_936, ⟨by decide +kernel, by decide +kernel, by decide +kernel⟩, by decide⟩
set_option maxRecDepth 100000 in
set_option maxHeartbeats 4000000 in
theorem c_X9_load (l : Launch) (k : mg_K) (a_t a_t_s a_t_past a_t_aside a_t_text a_t_told a_t_bottoms a_t_planned : Nat) (v_t_pasts : Int32) (v_t_typed : Int32) (v_t_at : Int32) (v_t_kind : Int32) (v_t_from : Int32) (v_t_value : Int32) (v_t_planLength : Int32) (v_t_planAmount : Int32) (v_t_aside : Nat → Int32) (v_t_past : Nat → Int32) (v_t_s : Nat → Int32) (v_t_text : Nat → Int32) (v_t_told : Nat → Int32) (fuel : Nat) (q : Int32 × Int32 × Int32 × Int32 × Int32 × Int32 × Int32 × (Nat → Int32) × (Nat → Int32) × (Nat → Int32) × (Nat → Int32)) (hf : f_X9_load fuel v_t_pasts v_t_typed v_t_value v_t_aside v_t_past v_t_s v_t_text v_t_told = some q) : mg_M l yX9_load cX9_load 3 (some .int) 4 k [.ref a_t] (w_X9_load k a_t a_t_s a_t_past a_t_aside a_t_text a_t_told a_t_bottoms a_t_planned v_t_pasts v_t_typed v_t_at v_t_kind v_t_from v_t_value v_t_planLength v_t_planAmount v_t_aside v_t_past v_t_s v_t_text v_t_told) (w_X9_load k a_t a_t_s a_t_past a_t_aside a_t_text a_t_told a_t_bottoms a_t_planned q.2.1 q.2.2.1 q.2.2.2.1 q.2.2.2.2.1 q.2.2.2.2.2.1 q.2.2.2.2.2.2.1 v_t_planLength v_t_planAmount q.2.2.2.2.2.2.2.1 q.2.2.2.2.2.2.2.2.1 q.2.2.2.2.2.2.2.2.2.1 v_t_text q.2.2.2.2.2.2.2.2.2.2) (some (.int q.1)) := by
  refine mg_Mi RX9 [(0, .ref a_t)] (by decide +kernel) rfl rfl (Nat.le_of_ble_eq_true rfl) ?_
  intro z A Q hl C E
  subst hl
  unfold f_X9_load at hf
  have L19 : ∀ (v_t_pasts : Int32) (v_t_typed : Int32) (v_t_aside : Nat → Int32) (v_t_past : Nat → Int32) (n_ : Nat) (x1 : Int32) (v_t_at : Int32) (v_t_kind : Int32) (v_t_from : Int32) (v_t_value : Int32) (v_t_s : Nat → Int32) (v_t_told : Nat → Int32) (q_ : Nat × Int32 × Int32 × Int32 × Int32 × Int32 × (Nat → Int32) × (Nat → Int32)), f_X9_load_L19 fuel v_t_typed v_t_text n_ x1 v_t_at v_t_kind v_t_from v_t_value v_t_s v_t_told = some q_ → (q_.1 = 0 → mg z k A 3 0 0 Q (w_X9_load k a_t a_t_s a_t_past a_t_aside a_t_text a_t_told a_t_bottoms a_t_planned v_t_pasts v_t_typed q_.2.2.1 q_.2.2.2.1 q_.2.2.2.2.1 q_.2.2.2.2.2.1 v_t_planLength v_t_planAmount v_t_aside v_t_past q_.2.2.2.2.2.2.1 v_t_text q_.2.2.2.2.2.2.2) [(0, .ref a_t), (1, .int q_.2.1)] 83 []) → (q_.1 = 1 → mg z k A 3 0 0 Q (w_X9_load k a_t a_t_s a_t_past a_t_aside a_t_text a_t_told a_t_bottoms a_t_planned v_t_pasts v_t_typed q_.2.2.1 q_.2.2.2.1 q_.2.2.2.2.1 q_.2.2.2.2.2.1 v_t_planLength v_t_planAmount v_t_aside v_t_past q_.2.2.2.2.2.2.1 v_t_text q_.2.2.2.2.2.2.2) [(0, .ref a_t)] 61 []) → mg z k A 3 0 0 Q (w_X9_load k a_t a_t_s a_t_past a_t_aside a_t_text a_t_told a_t_bottoms a_t_planned v_t_pasts v_t_typed v_t_at v_t_kind v_t_from v_t_value v_t_planLength v_t_planAmount v_t_aside v_t_past v_t_s v_t_text v_t_told) [(0, .ref a_t), (1, .int x1)] 19 [] := by
    intro v_t_pasts v_t_typed v_t_aside v_t_past n_
    induction n_ with
    | zero => intro x1 v_t_at v_t_kind v_t_from v_t_value v_t_s v_t_told q_ hf; exact mg_no (show none = some q_ from hf)
    | succ n_ ih =>
      intro x1 v_t_at v_t_kind v_t_from v_t_value v_t_s v_t_told q_ hf X0 X1
      rw [f_X9_load_L19] at hf
      have J43 : ∀ (x1 : Int32) (v_t_at : Int32) (v_t_kind : Int32) (v_t_from : Int32) (v_t_value : Int32) (v_t_s : Nat → Int32) (v_t_told : Nat → Int32) (y0 : Int32), f_X9_load_J43 (f_X9_load_L19 fuel v_t_typed v_t_text n_) fuel v_t_typed v_t_at v_t_kind v_t_from v_t_value v_t_s v_t_text v_t_told x1 y0 = some q_ → mg z k A 3 0 0 Q (w_X9_load k a_t a_t_s a_t_past a_t_aside a_t_text a_t_told a_t_bottoms a_t_planned v_t_pasts v_t_typed v_t_at v_t_kind v_t_from v_t_value v_t_planLength v_t_planAmount v_t_aside v_t_past v_t_s v_t_text v_t_told) [(0, .ref a_t), (1, .int x1)] 43 [.int y0] := by
        intro x1 v_t_at v_t_kind v_t_from v_t_value v_t_s v_t_told y0 hf
        unfold f_X9_load_J43 at hf
        refine mg_istore_n (pc := 43) C (lv' := [(2, .int y0), (0, .ref a_t), (1, .int x1)]) dX9_load_43 rfl (by decide) rfl ?_
        refine mg_aload_n (pc := 44) C 1 dX9_load_44 rfl rfl ?_
        refine mg_iload_n (pc := 45) C 0 dX9_load_45 rfl rfl ?_
        refine mg_iload_n (pc := 46) C 2 dX9_load_46 rfl rfl ?_
        obtain ⟨q7, h8, hf⟩ := mg_b hf
        refine mg_callV (pc := 47) C (w2 := w_X9_load k a_t a_t_s a_t_past a_t_aside a_t_text a_t_told a_t_bottoms a_t_planned v_t_pasts v_t_typed v_t_at v_t_kind v_t_from v_t_value v_t_planLength v_t_planAmount v_t_aside v_t_past v_t_s v_t_text v_t_told) (c_X9_mayBegin z.2.1 k a_t a_t_s a_t_past a_t_aside a_t_text a_t_told a_t_bottoms a_t_planned v_t_pasts v_t_typed v_t_at v_t_kind v_t_from v_t_value v_t_planLength v_t_planAmount v_t_s y0 x1 q7 h8) Y_X9_mayBegin wm_965 (by decide) rfl 0 rfl rfl rfl [0, 3] rfl (by decide) rfl [some 0, none, none, some 1, none, none] (by decide) rfl (Nat.le_of_ble_eq_true rfl) rfl dX9_load_47 ?_
        refine mg_if_eq (pc := 50) (tgt := 61) C dX9_load_50 (by decide) hf (fun hf => ?_) (fun hf => ?_)
        · obtain rfl := Option.some.inj hf
          refine mg_lv [1] rfl ?_
          exact (X1 rfl)
        · refine mg_aload_n (pc := 53) C 1 dX9_load_53 rfl rfl ?_
          refine mg_iload_n (pc := 54) C 0 dX9_load_54 rfl rfl ?_
          obtain ⟨q9, h10, hf⟩ := mg_b hf
          refine mg_callV (pc := 55) C (w2 := w_X9_load k a_t a_t_s a_t_past a_t_aside a_t_text a_t_told a_t_bottoms a_t_planned v_t_pasts v_t_typed q9.2.1 q9.2.2.1 q9.2.2.2.1 q9.2.2.2.2.1 v_t_planLength v_t_planAmount v_t_aside v_t_past q9.2.2.2.2.2.1 v_t_text q9.2.2.2.2.2.2) (c_X9_isRead z.2.1 k a_t a_t_s a_t_past a_t_aside a_t_text a_t_told a_t_bottoms a_t_planned v_t_pasts v_t_typed v_t_at v_t_kind v_t_from v_t_value v_t_planLength v_t_planAmount v_t_s v_t_text v_t_told fuel y0 q9 h10) Y_X9_isRead wm_969 (by decide) rfl 0 rfl rfl rfl [0, 3, 4, 5] rfl (by decide) rfl [some 0, none, none, some 1, some 2, some 3] (by decide) rfl (Nat.le_of_ble_eq_true rfl) rfl dX9_load_55 ?_
          refine mg_if_ne (pc := 58) (tgt := 73) C dX9_load_58 (by decide) hf (fun hf => ?_) (fun hf => ?_)
          · refine mg_iinc (pc := 73) C (c := 1) (lv' := [(1, .int (x1 + 1)), (2, .int y0), (0, .ref a_t)]) 2 dX9_load_73 rfl (by decide) (by decide) rfl ?_
            refine mg_aload_n (pc := 76) C 2 dX9_load_76 rfl rfl ?_
            obtain ⟨q11, h12, hf⟩ := mg_b hf
            refine mg_callV (pc := 77) C (w2 := w_X9_load k a_t a_t_s a_t_past a_t_aside a_t_text a_t_told a_t_bottoms a_t_planned v_t_pasts v_t_typed q11.1 q11.2.1 q11.2.2.1 q11.2.2.2 v_t_planLength v_t_planAmount v_t_aside v_t_past q9.2.2.2.2.2.1 v_t_text q9.2.2.2.2.2.2) (c_X9_token z.2.1 k a_t a_t_s a_t_past a_t_aside a_t_text a_t_told a_t_bottoms a_t_planned v_t_pasts v_t_typed q9.2.1 q9.2.2.1 q9.2.2.2.1 q9.2.2.2.2.1 v_t_planLength v_t_planAmount v_t_text fuel q11 h12) Y_X9_token wm_941 (by decide) rfl 0 rfl rfl rfl [0, 4] rfl (by decide) rfl [some 0, none, none, none, some 1, none] (by decide) rfl (Nat.le_of_ble_eq_true rfl) rfl dX9_load_77 ?_
            refine mg_goto (pc := 80) (tgt := 19) C dX9_load_80 (by decide) ?_
            refine mg_lv [2, 0] rfl ?_
            exact ih (x1 + 1) q11.1 q11.2.1 q11.2.2.1 q11.2.2.2 q9.2.2.2.2.2.1 q9.2.2.2.2.2.2 _ hf X0 X1
          · obtain rfl := Option.some.inj hf
            refine mg_lv [1] rfl ?_
            exact (X1 rfl)
      refine mg_aload_n (pc := 19) C 0 dX9_load_19 rfl rfl ?_
      refine mg_get (pc := 20) C 0 rfl rfl inX9 7 (by decide) wm_881 rfl rfl dX9_load_20 ?_
      refine mg_if_eq (pc := 23) (tgt := 83) C dX9_load_23 (by decide) hf (fun hf => ?_) (fun hf => ?_)
      · obtain rfl := Option.some.inj hf
        exact (X0 rfl)
      · refine mg_aload_n (pc := 26) C 0 dX9_load_26 rfl rfl ?_
        refine mg_get (pc := 27) C 0 rfl rfl inX9 7 (by decide) wm_881 rfl rfl dX9_load_27 ?_
        refine mg_iconst (pc := 30) C dX9_load_30 (v := 1) (by decide) ?_
        refine mg_icmp_ne (pc := 31) (tgt := 41) C dX9_load_31 (by decide) hf (fun hf => ?_) (fun hf => ?_)
        · refine mg_ldc (pc := 41) C wm_964 dX9_load_41 ?_
          exact J43 x1 v_t_at v_t_kind v_t_from v_t_value v_t_s v_t_told (-1000009) hf
        · refine mg_aload_n (pc := 34) C 0 dX9_load_34 rfl rfl ?_
          obtain ⟨q13, h14, hf⟩ := mg_b hf
          refine mg_callV (pc := 35) C (w2 := w_X9_load k a_t a_t_s a_t_past a_t_aside a_t_text a_t_told a_t_bottoms a_t_planned v_t_pasts v_t_typed v_t_at v_t_kind v_t_from v_t_value v_t_planLength v_t_planAmount v_t_aside v_t_past v_t_s v_t_text v_t_told) (c_X9_item z.2.1 k a_t a_t_s a_t_past a_t_aside a_t_text a_t_told a_t_bottoms a_t_planned v_t_pasts v_t_typed v_t_at v_t_kind v_t_from v_t_value v_t_planLength v_t_planAmount v_t_text fuel q13 h14) Y_X9_item wm_949 (by decide) rfl 0 rfl rfl rfl [0, 4] rfl (by decide) rfl [some 0, none, none, none, some 1, none] (by decide) rfl (Nat.le_of_ble_eq_true rfl) rfl dX9_load_35 ?_
          refine mg_goto (pc := 38) (tgt := 43) C dX9_load_38 (by decide) ?_
          exact J43 x1 v_t_at v_t_kind v_t_from v_t_value v_t_s v_t_told q13 hf
  refine mg_aload_n (pc := 0) C 0 dX9_load_0 rfl rfl ?_
  obtain ⟨q1, h2, hf⟩ := mg_b hf
  refine mg_callV (pc := 1) C (w2 := w_X9_load k a_t a_t_s a_t_past a_t_aside a_t_text a_t_told a_t_bottoms a_t_planned v_t_pasts v_t_typed v_t_at v_t_kind v_t_from v_t_value v_t_planLength v_t_planAmount q1 v_t_past v_t_s v_t_text v_t_told) (c_X9_hold z.2.1 k a_t a_t_s a_t_past a_t_aside a_t_text a_t_told a_t_bottoms a_t_planned v_t_pasts v_t_typed v_t_at v_t_kind v_t_from v_t_value v_t_planLength v_t_planAmount v_t_aside v_t_s fuel q1 h2) Y_X9_hold wm_937 (by decide) rfl 0 rfl rfl rfl [0, 1, 3] rfl (by decide) rfl [some 0, some 1, none, some 2, none, none] (by decide) rfl (Nat.le_of_ble_eq_true rfl) rfl dX9_load_1 ?_
  refine mg_aload_n (pc := 4) C 0 dX9_load_4 rfl rfl ?_
  obtain ⟨q3, h4, hf⟩ := mg_b hf
  refine mg_callV (pc := 5) C (w2 := w_X9_load k a_t a_t_s a_t_past a_t_aside a_t_text a_t_told a_t_bottoms a_t_planned v_t_pasts v_t_typed v_t_at v_t_kind v_t_from v_t_value v_t_planLength v_t_planAmount q1 v_t_past q3 v_t_text v_t_told) (c_X9_begins z.2.1 k a_t a_t_s a_t_past a_t_aside a_t_text a_t_told a_t_bottoms a_t_planned v_t_pasts v_t_typed v_t_at v_t_kind v_t_from v_t_value v_t_planLength v_t_planAmount v_t_s fuel q3 h4) Y_X9_begins wm_870 (by decide) rfl 0 rfl rfl rfl [0, 3] rfl (by decide) rfl [some 0, none, none, some 1, none, none] (by decide) rfl (Nat.le_of_ble_eq_true rfl) rfl dX9_load_5 ?_
  refine mg_aload_n (pc := 8) C 0 dX9_load_8 rfl rfl ?_
  refine mg_iconst (pc := 9) C dX9_load_9 (v := 0) (by decide) ?_
  refine mg_puti (pc := 10) C (w2 := w_X9_load k a_t a_t_s a_t_past a_t_aside a_t_text a_t_told a_t_bottoms a_t_planned v_t_pasts v_t_typed 0 v_t_kind v_t_from v_t_value v_t_planLength v_t_planAmount q1 v_t_past q3 v_t_text v_t_told) 0 rfl rfl inX9 6 (by decide) wm_880 rfl tyX9 tyX9_ok nmX9 rfl (by decide +kernel) (Nat.le_of_ble_eq_true rfl) rfl dX9_load_10 ?_
  refine mg_iconst (pc := 13) C dX9_load_13 (v := 0) (by decide) ?_
  refine mg_istore_n (pc := 14) C (lv' := [(1, .int 0), (0, .ref a_t)]) dX9_load_14 rfl (by decide) rfl ?_
  refine mg_aload_n (pc := 15) C 1 dX9_load_15 rfl rfl ?_
  obtain ⟨q5, h6, hf⟩ := mg_b hf
  refine mg_callV (pc := 16) C (w2 := w_X9_load k a_t a_t_s a_t_past a_t_aside a_t_text a_t_told a_t_bottoms a_t_planned v_t_pasts v_t_typed q5.1 q5.2.1 q5.2.2.1 q5.2.2.2 v_t_planLength v_t_planAmount q1 v_t_past q3 v_t_text v_t_told) (c_X9_token z.2.1 k a_t a_t_s a_t_past a_t_aside a_t_text a_t_told a_t_bottoms a_t_planned v_t_pasts v_t_typed 0 v_t_kind v_t_from v_t_value v_t_planLength v_t_planAmount v_t_text fuel q5 h6) Y_X9_token wm_941 (by decide) rfl 0 rfl rfl rfl [0, 4] rfl (by decide) rfl [some 0, none, none, none, some 1, none] (by decide) rfl (Nat.le_of_ble_eq_true rfl) rfl dX9_load_16 ?_
  obtain ⟨q15, h16, hf⟩ := mg_b hf
  refine mg_lv [1, 0] rfl ?_
  refine L19 v_t_pasts v_t_typed q1 v_t_past fuel 0 q5.1 q5.2.1 q5.2.2.1 q5.2.2.2 q3 v_t_told q15 h16 (fun e21 => ?_) (fun e22 => ?_)
  · have hf := mg_t e21 hf
    refine mg_aload_n (pc := 83) C 0 dX9_load_83 rfl rfl ?_
    refine mg_iconst (pc := 84) C dX9_load_84 (v := 0) (by decide) ?_
    refine mg_puti (pc := 85) C (w2 := w_X9_load k a_t a_t_s a_t_past a_t_aside a_t_text a_t_told a_t_bottoms a_t_planned v_t_pasts 0 q15.2.2.1 q15.2.2.2.1 q15.2.2.2.2.1 q15.2.2.2.2.2.1 v_t_planLength v_t_planAmount q1 v_t_past q15.2.2.2.2.2.2.1 v_t_text q15.2.2.2.2.2.2.2) 0 rfl rfl inX9 5 (by decide) wm_879 rfl tyX9 tyX9_ok nmX9 rfl (by decide +kernel) (Nat.le_of_ble_eq_true rfl) rfl dX9_load_85 ?_
    refine mg_aload_n (pc := 88) C 0 dX9_load_88 rfl rfl ?_
    refine mg_iload_n (pc := 89) C 1 dX9_load_89 rfl rfl ?_
    obtain ⟨q17, h18, hf⟩ := mg_b hf
    refine mg_callV (pc := 90) C (w2 := w_X9_load k a_t a_t_s a_t_past a_t_aside a_t_text a_t_told a_t_bottoms a_t_planned q17.2.1 0 q15.2.2.1 q15.2.2.2.1 q15.2.2.2.2.1 q15.2.2.2.2.2.1 v_t_planLength v_t_planAmount q1 q17.2.2 q15.2.2.2.2.2.2.1 v_t_text q15.2.2.2.2.2.2.2) (c_X9_ends z.2.1 k a_t a_t_s a_t_past a_t_aside a_t_text a_t_told a_t_bottoms a_t_planned v_t_pasts 0 q15.2.2.1 q15.2.2.2.1 q15.2.2.2.2.1 q15.2.2.2.2.2.1 v_t_planLength v_t_planAmount q1 v_t_past fuel q15.2.1 q17 h18) Y_X9_ends wm_1004 (by decide) rfl 0 rfl rfl rfl [0, 1, 2] rfl (by decide) rfl [some 0, some 1, some 2, none, none, none] (by decide) rfl (Nat.le_of_ble_eq_true rfl) rfl dX9_load_90 ?_
    obtain rfl := Option.some.inj hf
    exact E _ _ dX9_load_93
  · have hf := mg_f (by rw [e22]; decide) hf
    refine mg_aload_n (pc := 61) C 0 dX9_load_61 rfl rfl ?_
    obtain ⟨q19, h20, hf⟩ := mg_b hf
    refine mg_callV (pc := 62) C (w2 := w_X9_load k a_t a_t_s a_t_past a_t_aside a_t_text a_t_told a_t_bottoms a_t_planned v_t_pasts v_t_typed q15.2.2.1 q15.2.2.2.1 q15.2.2.2.2.1 q15.2.2.2.2.2.1 v_t_planLength v_t_planAmount q1 v_t_past q19 v_t_text q15.2.2.2.2.2.2.2) (c_X9_restore z.2.1 k a_t a_t_s a_t_past a_t_aside a_t_text a_t_told a_t_bottoms a_t_planned v_t_pasts v_t_typed q15.2.2.1 q15.2.2.2.1 q15.2.2.2.2.1 q15.2.2.2.2.2.1 v_t_planLength v_t_planAmount q1 q15.2.2.2.2.2.2.1 fuel q19 h20) Y_X9_restore wm_1000 (by decide) rfl 0 rfl rfl rfl [0, 1, 3] rfl (by decide) rfl [some 0, some 1, none, some 2, none, none] (by decide) rfl (Nat.le_of_ble_eq_true rfl) rfl dX9_load_62 ?_
    refine mg_bipush (pc := 65) C dX9_load_65 (v := (-10)) (by decide) ?_
    refine mg_aload_n (pc := 67) C 0 dX9_load_67 rfl rfl ?_
    refine mg_get (pc := 68) C 0 rfl rfl inX9 8 (by decide) wm_882 rfl rfl dX9_load_68 ?_
    refine mg_isub (pc := 71) C dX9_load_71 ?_
    obtain rfl := Option.some.inj hf
    exact E _ _ dX9_load_72
abbrev w_X9_resize (k : mg_K) (a_t a_t_s a_t_past a_t_aside a_t_text a_t_told a_t_bottoms a_t_planned : Nat) (v_t_pasts : Int32) (v_t_typed : Int32) (v_t_at : Int32) (v_t_kind : Int32) (v_t_from : Int32) (v_t_value : Int32) (v_t_planLength : Int32) (v_t_planAmount : Int32) (v_t_aside : Nat → Int32) (v_t_past : Nat → Int32) (v_t_s : Nat → Int32) : va_W := [(a_t, .inr (9, [.ref a_t_s, .ref a_t_past, .ref a_t_aside, .int v_t_pasts, .ref a_t_text, .int v_t_typed, .int v_t_at, .int v_t_kind, .int v_t_from, .int v_t_value, .ref a_t_told, .ref a_t_bottoms, .ref a_t_planned, .int v_t_planLength, .int v_t_planAmount])), (a_t_aside, .inl (k.2.1, 227, .inl v_t_aside)), (a_t_past, .inl (k.2.1, 1362, .inl v_t_past)), (a_t_s, .inl (k.2.1, 227, .inl v_t_s))]
def f_X9_resize_L73 : Nat → Int32 → (Nat → Int32) → Option (Int32 × (Nat → Int32))
  | 0, _, _ => none
  | n_ + 1, x3, v_t_s => if 166 ≤ x3 then (some ((x3, v_t_s))) else (if mg_ix x3 227 = true then (f_X9_resize_L73 n_ (x3 + 1) (upd v_t_s (Int32.toNatClampNeg x3) 0)) else none)
def f_X9_resize (fuel : Nat) (v_t_pasts : Int32) (v_t_aside : Nat → Int32) (v_t_past : Nat → Int32) (v_t_s : Nat → Int32) (x1 : Int32) (x2 : Int32) : Option (Int32 × Int32 × (Nat → Int32) × (Nat → Int32) × (Nat → Int32)) := (f_X9_in x1 3 7).bind (fun q1 => if q1 = 0 then (some ((-1000001), v_t_pasts, v_t_aside, v_t_past, v_t_s)) else ((f_X9_in x2 3 7).bind (fun q3 => if q3 = 0 then (some ((-1000001), v_t_pasts, v_t_aside, v_t_past, v_t_s)) else ((f_X9_hold fuel v_t_aside v_t_s).bind (fun q5 => (f_X9_resize_L73 fuel 64 (upd (upd (upd (upd (upd (upd v_t_s 0 x1) 1 x2) 2 0) 3 0) 4 0) 33 0)).bind (fun q7 => (f_X9_ends fuel v_t_pasts q5 v_t_past ((x1 - 2) * (x2 - 2))).bind (fun q9 => some (q9.1, q9.2.1, q5, q9.2.2, q7.2))))))))
theorem Y_X9_resize : mg_Y yX9_resize cX9_resize 4 (some .int) 2 := ⟨wm_1009, wm_1010, wm_11, wm_1011, ⟨by decide +kernel, by decide +kernel, by decide +kernel⟩, by decide⟩
set_option maxRecDepth 100000 in
set_option maxHeartbeats 4000000 in
theorem c_X9_resize (l : Launch) (k : mg_K) (a_t a_t_s a_t_past a_t_aside a_t_text a_t_told a_t_bottoms a_t_planned : Nat) (v_t_pasts : Int32) (v_t_typed : Int32) (v_t_at : Int32) (v_t_kind : Int32) (v_t_from : Int32) (v_t_value : Int32) (v_t_planLength : Int32) (v_t_planAmount : Int32) (v_t_aside : Nat → Int32) (v_t_past : Nat → Int32) (v_t_s : Nat → Int32) (fuel : Nat) (x1 : Int32) (x2 : Int32) (q : Int32 × Int32 × (Nat → Int32) × (Nat → Int32) × (Nat → Int32)) (hf : f_X9_resize fuel v_t_pasts v_t_aside v_t_past v_t_s x1 x2 = some q) : mg_M l yX9_resize cX9_resize 4 (some .int) 1 k [.ref a_t, .int x1, .int x2] (w_X9_resize k a_t a_t_s a_t_past a_t_aside a_t_text a_t_told a_t_bottoms a_t_planned v_t_pasts v_t_typed v_t_at v_t_kind v_t_from v_t_value v_t_planLength v_t_planAmount v_t_aside v_t_past v_t_s) (w_X9_resize k a_t a_t_s a_t_past a_t_aside a_t_text a_t_told a_t_bottoms a_t_planned q.2.1 v_t_typed v_t_at v_t_kind v_t_from v_t_value v_t_planLength v_t_planAmount q.2.2.1 q.2.2.2.1 q.2.2.2.2) (some (.int q.1)) := by
  refine mg_Mi RX9 [(0, .ref a_t), (1, .int x1), (2, .int x2)] (by decide +kernel) rfl rfl (Nat.le_of_ble_eq_true rfl) ?_
  intro z A Q hl C E
  subst hl
  unfold f_X9_resize at hf
  have L73 : ∀ (x1 : Int32) (x2 : Int32) (v_t_pasts : Int32) (v_t_aside : Nat → Int32) (v_t_past : Nat → Int32) (n_ : Nat) (x3 : Int32) (v_t_s : Nat → Int32) (q_ : Int32 × (Nat → Int32)), f_X9_resize_L73 n_ x3 v_t_s = some q_ → (mg z k A 4 0 0 Q (w_X9_resize k a_t a_t_s a_t_past a_t_aside a_t_text a_t_told a_t_bottoms a_t_planned v_t_pasts v_t_typed v_t_at v_t_kind v_t_from v_t_value v_t_planLength v_t_planAmount v_t_aside v_t_past q_.2) [(0, .ref a_t), (1, .int x1), (2, .int x2)] 93 []) → mg z k A 4 0 0 Q (w_X9_resize k a_t a_t_s a_t_past a_t_aside a_t_text a_t_told a_t_bottoms a_t_planned v_t_pasts v_t_typed v_t_at v_t_kind v_t_from v_t_value v_t_planLength v_t_planAmount v_t_aside v_t_past v_t_s) [(0, .ref a_t), (1, .int x1), (2, .int x2), (3, .int x3)] 73 [] := by
    intro x1 x2 v_t_pasts v_t_aside v_t_past n_
    induction n_ with
    | zero => intro x3 v_t_s q_ hf; exact mg_no (show none = some q_ from hf)
    | succ n_ ih =>
      intro x3 v_t_s q_ hf X0
      rw [f_X9_resize_L73] at hf
      refine mg_iload_n (pc := 73) C 3 dX9_resize_73 rfl rfl ?_
      refine mg_sipush (pc := 74) C dX9_resize_74 (v := 166) (by decide) ?_
      refine mg_icmp_ge (pc := 77) (tgt := 93) C dX9_resize_77 (by decide) hf (fun hf => ?_) (fun hf => ?_)
      · obtain rfl := Option.some.inj hf
        refine mg_lv [0, 1, 2] rfl ?_
        exact X0
      · refine mg_aload_n (pc := 80) C 0 dX9_resize_80 rfl rfl ?_
        refine mg_get (pc := 81) C 0 rfl rfl inX9 0 (by decide) wm_874 rfl rfl dX9_resize_81 ?_
        refine mg_iload_n (pc := 84) C 3 dX9_resize_84 rfl rfl ?_
        refine mg_iconst (pc := 85) C dX9_resize_85 (v := 0) (by decide) ?_
        refine mg_iast (pc := 86) C (w2 := w_X9_resize k a_t a_t_s a_t_past a_t_aside a_t_text a_t_told a_t_bottoms a_t_planned v_t_pasts v_t_typed v_t_at v_t_kind v_t_from v_t_value v_t_planLength v_t_planAmount v_t_aside v_t_past (upd v_t_s (Int32.toNatClampNeg x3) 0)) 3 rfl dX9_resize_86 hf rfl (fun hf => ?_)
        refine mg_iinc (pc := 87) C (c := 1) (lv' := [(3, .int (x3 + 1)), (0, .ref a_t), (1, .int x1), (2, .int x2)]) 3 dX9_resize_87 rfl (by decide) (by decide) rfl ?_
        refine mg_goto (pc := 90) (tgt := 73) C dX9_resize_90 (by decide) ?_
        refine mg_lv [1, 2, 3, 0] rfl ?_
        exact ih (x3 + 1) (upd v_t_s (Int32.toNatClampNeg x3) 0) _ hf X0
  refine mg_iload_n (pc := 0) C 1 dX9_resize_0 rfl rfl ?_
  refine mg_iconst (pc := 1) C dX9_resize_1 (v := 3) (by decide) ?_
  refine mg_bipush (pc := 2) C dX9_resize_2 (v := 7) (by decide) ?_
  obtain ⟨q1, h2, hf⟩ := mg_b hf
  refine mg_callS (pc := 4) C (w2 := w_X9_resize k a_t a_t_s a_t_past a_t_aside a_t_text a_t_told a_t_bottoms a_t_planned v_t_pasts v_t_typed v_t_at v_t_kind v_t_from v_t_value v_t_planLength v_t_planAmount v_t_aside v_t_past v_t_s) (c_X9_in z.2.1 k x1 3 7 q1 h2) Y_X9_in wm_924 (by decide) rfl [] rfl (by decide) rfl [none, none, none, none] (by decide) rfl (Nat.le_of_ble_eq_true rfl) rfl dX9_resize_4 ?_
  refine mg_if_eq (pc := 7) (tgt := 20) C dX9_resize_7 (by decide) hf (fun hf => ?_) (fun hf => ?_)
  · refine mg_ldc (pc := 20) C wm_927 dX9_resize_20 ?_
    obtain rfl := Option.some.inj hf
    exact E _ _ dX9_resize_22
  · refine mg_iload_n (pc := 10) C 2 dX9_resize_10 rfl rfl ?_
    refine mg_iconst (pc := 11) C dX9_resize_11 (v := 3) (by decide) ?_
    refine mg_bipush (pc := 12) C dX9_resize_12 (v := 7) (by decide) ?_
    obtain ⟨q3, h4, hf⟩ := mg_b hf
    refine mg_callS (pc := 14) C (w2 := w_X9_resize k a_t a_t_s a_t_past a_t_aside a_t_text a_t_told a_t_bottoms a_t_planned v_t_pasts v_t_typed v_t_at v_t_kind v_t_from v_t_value v_t_planLength v_t_planAmount v_t_aside v_t_past v_t_s) (c_X9_in z.2.1 k x2 3 7 q3 h4) Y_X9_in wm_924 (by decide) rfl [] rfl (by decide) rfl [none, none, none, none] (by decide) rfl (Nat.le_of_ble_eq_true rfl) rfl dX9_resize_14 ?_
    refine mg_if_ne (pc := 17) (tgt := 23) C dX9_resize_17 (by decide) hf (fun hf => ?_) (fun hf => ?_)
    · refine mg_aload_n (pc := 23) C 0 dX9_resize_23 rfl rfl ?_
      obtain ⟨q5, h6, hf⟩ := mg_b hf
      refine mg_callV (pc := 24) C (w2 := w_X9_resize k a_t a_t_s a_t_past a_t_aside a_t_text a_t_told a_t_bottoms a_t_planned v_t_pasts v_t_typed v_t_at v_t_kind v_t_from v_t_value v_t_planLength v_t_planAmount q5 v_t_past v_t_s) (c_X9_hold z.2.1 k a_t a_t_s a_t_past a_t_aside a_t_text a_t_told a_t_bottoms a_t_planned v_t_pasts v_t_typed v_t_at v_t_kind v_t_from v_t_value v_t_planLength v_t_planAmount v_t_aside v_t_s fuel q5 h6) Y_X9_hold wm_937 (by decide) rfl 0 rfl rfl rfl [0, 1, 3] rfl (by decide) rfl [some 0, some 1, none, some 2] (by decide) rfl (Nat.le_of_ble_eq_true rfl) rfl dX9_resize_24 ?_
      refine mg_aload_n (pc := 27) C 0 dX9_resize_27 rfl rfl ?_
      refine mg_get (pc := 28) C 0 rfl rfl inX9 0 (by decide) wm_874 rfl rfl dX9_resize_28 ?_
      refine mg_iconst (pc := 31) C dX9_resize_31 (v := 0) (by decide) ?_
      refine mg_iload_n (pc := 32) C 1 dX9_resize_32 rfl rfl ?_
      refine mg_iastK (pc := 33) C (w2 := w_X9_resize k a_t a_t_s a_t_past a_t_aside a_t_text a_t_told a_t_bottoms a_t_planned v_t_pasts v_t_typed v_t_at v_t_kind v_t_from v_t_value v_t_planLength v_t_planAmount q5 v_t_past (upd v_t_s 0 x1)) 3 0 rfl dX9_resize_33 (by decide) (by decide) rfl ?_
      refine mg_aload_n (pc := 34) C 0 dX9_resize_34 rfl rfl ?_
      refine mg_get (pc := 35) C 0 rfl rfl inX9 0 (by decide) wm_874 rfl rfl dX9_resize_35 ?_
      refine mg_iconst (pc := 38) C dX9_resize_38 (v := 1) (by decide) ?_
      refine mg_iload_n (pc := 39) C 2 dX9_resize_39 rfl rfl ?_
      refine mg_iastK (pc := 40) C (w2 := w_X9_resize k a_t a_t_s a_t_past a_t_aside a_t_text a_t_told a_t_bottoms a_t_planned v_t_pasts v_t_typed v_t_at v_t_kind v_t_from v_t_value v_t_planLength v_t_planAmount q5 v_t_past (upd (upd v_t_s 0 x1) 1 x2)) 3 1 rfl dX9_resize_40 (by decide) (by decide) rfl ?_
      refine mg_aload_n (pc := 41) C 0 dX9_resize_41 rfl rfl ?_
      refine mg_get (pc := 42) C 0 rfl rfl inX9 0 (by decide) wm_874 rfl rfl dX9_resize_42 ?_
      refine mg_iconst (pc := 45) C dX9_resize_45 (v := 2) (by decide) ?_
      refine mg_iconst (pc := 46) C dX9_resize_46 (v := 0) (by decide) ?_
      refine mg_iastK (pc := 47) C (w2 := w_X9_resize k a_t a_t_s a_t_past a_t_aside a_t_text a_t_told a_t_bottoms a_t_planned v_t_pasts v_t_typed v_t_at v_t_kind v_t_from v_t_value v_t_planLength v_t_planAmount q5 v_t_past (upd (upd (upd v_t_s 0 x1) 1 x2) 2 0)) 3 2 rfl dX9_resize_47 (by decide) (by decide) rfl ?_
      refine mg_aload_n (pc := 48) C 0 dX9_resize_48 rfl rfl ?_
      refine mg_get (pc := 49) C 0 rfl rfl inX9 0 (by decide) wm_874 rfl rfl dX9_resize_49 ?_
      refine mg_iconst (pc := 52) C dX9_resize_52 (v := 3) (by decide) ?_
      refine mg_iconst (pc := 53) C dX9_resize_53 (v := 0) (by decide) ?_
      refine mg_iastK (pc := 54) C (w2 := w_X9_resize k a_t a_t_s a_t_past a_t_aside a_t_text a_t_told a_t_bottoms a_t_planned v_t_pasts v_t_typed v_t_at v_t_kind v_t_from v_t_value v_t_planLength v_t_planAmount q5 v_t_past (upd (upd (upd (upd v_t_s 0 x1) 1 x2) 2 0) 3 0)) 3 3 rfl dX9_resize_54 (by decide) (by decide) rfl ?_
      refine mg_aload_n (pc := 55) C 0 dX9_resize_55 rfl rfl ?_
      refine mg_get (pc := 56) C 0 rfl rfl inX9 0 (by decide) wm_874 rfl rfl dX9_resize_56 ?_
      refine mg_iconst (pc := 59) C dX9_resize_59 (v := 4) (by decide) ?_
      refine mg_iconst (pc := 60) C dX9_resize_60 (v := 0) (by decide) ?_
      refine mg_iastK (pc := 61) C (w2 := w_X9_resize k a_t a_t_s a_t_past a_t_aside a_t_text a_t_told a_t_bottoms a_t_planned v_t_pasts v_t_typed v_t_at v_t_kind v_t_from v_t_value v_t_planLength v_t_planAmount q5 v_t_past (upd (upd (upd (upd (upd v_t_s 0 x1) 1 x2) 2 0) 3 0) 4 0)) 3 4 rfl dX9_resize_61 (by decide) (by decide) rfl ?_
      refine mg_aload_n (pc := 62) C 0 dX9_resize_62 rfl rfl ?_
      refine mg_get (pc := 63) C 0 rfl rfl inX9 0 (by decide) wm_874 rfl rfl dX9_resize_63 ?_
      refine mg_bipush (pc := 66) C dX9_resize_66 (v := 33) (by decide) ?_
      refine mg_iconst (pc := 68) C dX9_resize_68 (v := 0) (by decide) ?_
      refine mg_iastK (pc := 69) C (w2 := w_X9_resize k a_t a_t_s a_t_past a_t_aside a_t_text a_t_told a_t_bottoms a_t_planned v_t_pasts v_t_typed v_t_at v_t_kind v_t_from v_t_value v_t_planLength v_t_planAmount q5 v_t_past (upd (upd (upd (upd (upd (upd v_t_s 0 x1) 1 x2) 2 0) 3 0) 4 0) 33 0)) 3 33 rfl dX9_resize_69 (by decide) (by decide) rfl ?_
      refine mg_bipush (pc := 70) C dX9_resize_70 (v := 64) (by decide) ?_
      refine mg_istore_n (pc := 72) C (lv' := [(3, .int 64), (0, .ref a_t), (1, .int x1), (2, .int x2)]) dX9_resize_72 rfl (by decide) rfl ?_
      obtain ⟨q7, h8, hf⟩ := mg_b hf
      refine mg_lv [1, 2, 3, 0] rfl ?_
      refine L73 x1 x2 v_t_pasts q5 v_t_past fuel 64 (upd (upd (upd (upd (upd (upd v_t_s 0 x1) 1 x2) 2 0) 3 0) 4 0) 33 0) q7 h8 ?_
      refine mg_aload_n (pc := 93) C 0 dX9_resize_93 rfl rfl ?_
      refine mg_iload_n (pc := 94) C 1 dX9_resize_94 rfl rfl ?_
      refine mg_iconst (pc := 95) C dX9_resize_95 (v := 2) (by decide) ?_
      refine mg_isub (pc := 96) C dX9_resize_96 ?_
      refine mg_iload_n (pc := 97) C 2 dX9_resize_97 rfl rfl ?_
      refine mg_iconst (pc := 98) C dX9_resize_98 (v := 2) (by decide) ?_
      refine mg_isub (pc := 99) C dX9_resize_99 ?_
      refine mg_imul (pc := 100) C dX9_resize_100 ?_
      obtain ⟨q9, h10, hf⟩ := mg_b hf
      refine mg_callV (pc := 101) C (w2 := w_X9_resize k a_t a_t_s a_t_past a_t_aside a_t_text a_t_told a_t_bottoms a_t_planned q9.2.1 v_t_typed v_t_at v_t_kind v_t_from v_t_value v_t_planLength v_t_planAmount q5 q9.2.2 q7.2) (c_X9_ends z.2.1 k a_t a_t_s a_t_past a_t_aside a_t_text a_t_told a_t_bottoms a_t_planned v_t_pasts v_t_typed v_t_at v_t_kind v_t_from v_t_value v_t_planLength v_t_planAmount q5 v_t_past fuel ((x1 - 2) * (x2 - 2)) q9 h10) Y_X9_ends wm_1004 (by decide) rfl 0 rfl rfl rfl [0, 1, 2] rfl (by decide) rfl [some 0, some 1, some 2, none] (by decide) rfl (Nat.le_of_ble_eq_true rfl) rfl dX9_resize_101 ?_
      obtain rfl := Option.some.inj hf
      exact E _ _ dX9_resize_104
    · refine mg_ldc (pc := 20) C wm_927 dX9_resize_20 ?_
      obtain rfl := Option.some.inj hf
      exact E _ _ dX9_resize_22
abbrev w_X9_becomes (k : mg_K) (a_t a_t_s a_t_past a_t_aside a_t_text a_t_told a_t_bottoms a_t_planned : Nat) (v_t_pasts : Int32) (v_t_typed : Int32) (v_t_at : Int32) (v_t_kind : Int32) (v_t_from : Int32) (v_t_value : Int32) (v_t_planLength : Int32) (v_t_planAmount : Int32) (v_t_aside : Nat → Int32) (v_t_past : Nat → Int32) (v_t_s : Nat → Int32) : va_W := [(a_t, .inr (9, [.ref a_t_s, .ref a_t_past, .ref a_t_aside, .int v_t_pasts, .ref a_t_text, .int v_t_typed, .int v_t_at, .int v_t_kind, .int v_t_from, .int v_t_value, .ref a_t_told, .ref a_t_bottoms, .ref a_t_planned, .int v_t_planLength, .int v_t_planAmount])), (a_t_aside, .inl (k.2.1, 227, .inl v_t_aside)), (a_t_past, .inl (k.2.1, 1362, .inl v_t_past)), (a_t_s, .inl (k.2.1, 227, .inl v_t_s))]
def f_X9_becomes (fuel : Nat) (v_t_pasts : Int32) (v_t_aside : Nat → Int32) (v_t_past : Nat → Int32) (v_t_s : Nat → Int32) (x1 : Int32) (x2 : Int32) : Option (Int32 × Int32 × (Nat → Int32) × (Nat → Int32) × (Nat → Int32)) := (f_X9_hold fuel v_t_aside v_t_s).bind (fun q1 => if mg_ix x1 227 = true then (if mg_ix x1 227 = true then ((f_X9_ends fuel v_t_pasts q1 v_t_past (v_t_s (Int32.toNatClampNeg x1))).bind (fun q3 => some (q3.1, q3.2.1, q1, q3.2.2, upd v_t_s (Int32.toNatClampNeg x1) x2))) else none) else none)
theorem Y_X9_becomes : mg_Y yX9_becomes cX9_becomes 4 (some .int) 2 := ⟨wm_1018, wp_35, wm_11, wm_1019, ⟨by decide +kernel, by decide +kernel, by decide +kernel⟩, by decide⟩
set_option maxRecDepth 100000 in
set_option maxHeartbeats 4000000 in
theorem c_X9_becomes (l : Launch) (k : mg_K) (a_t a_t_s a_t_past a_t_aside a_t_text a_t_told a_t_bottoms a_t_planned : Nat) (v_t_pasts : Int32) (v_t_typed : Int32) (v_t_at : Int32) (v_t_kind : Int32) (v_t_from : Int32) (v_t_value : Int32) (v_t_planLength : Int32) (v_t_planAmount : Int32) (v_t_aside : Nat → Int32) (v_t_past : Nat → Int32) (v_t_s : Nat → Int32) (fuel : Nat) (x1 : Int32) (x2 : Int32) (q : Int32 × Int32 × (Nat → Int32) × (Nat → Int32) × (Nat → Int32)) (hf : f_X9_becomes fuel v_t_pasts v_t_aside v_t_past v_t_s x1 x2 = some q) : mg_M l yX9_becomes cX9_becomes 4 (some .int) 1 k [.ref a_t, .int x1, .int x2] (w_X9_becomes k a_t a_t_s a_t_past a_t_aside a_t_text a_t_told a_t_bottoms a_t_planned v_t_pasts v_t_typed v_t_at v_t_kind v_t_from v_t_value v_t_planLength v_t_planAmount v_t_aside v_t_past v_t_s) (w_X9_becomes k a_t a_t_s a_t_past a_t_aside a_t_text a_t_told a_t_bottoms a_t_planned q.2.1 v_t_typed v_t_at v_t_kind v_t_from v_t_value v_t_planLength v_t_planAmount q.2.2.1 q.2.2.2.1 q.2.2.2.2) (some (.int q.1)) := by
  refine mg_Mi RX9 [(0, .ref a_t), (1, .int x1), (2, .int x2)] (by decide +kernel) rfl rfl (Nat.le_of_ble_eq_true rfl) ?_
  intro z A Q hl C E
  subst hl
  unfold f_X9_becomes at hf
  refine mg_aload_n (pc := 0) C 0 dX9_becomes_0 rfl rfl ?_
  obtain ⟨q1, h2, hf⟩ := mg_b hf
  refine mg_callV (pc := 1) C (w2 := w_X9_becomes k a_t a_t_s a_t_past a_t_aside a_t_text a_t_told a_t_bottoms a_t_planned v_t_pasts v_t_typed v_t_at v_t_kind v_t_from v_t_value v_t_planLength v_t_planAmount q1 v_t_past v_t_s) (c_X9_hold z.2.1 k a_t a_t_s a_t_past a_t_aside a_t_text a_t_told a_t_bottoms a_t_planned v_t_pasts v_t_typed v_t_at v_t_kind v_t_from v_t_value v_t_planLength v_t_planAmount v_t_aside v_t_s fuel q1 h2) Y_X9_hold wm_937 (by decide) rfl 0 rfl rfl rfl [0, 1, 3] rfl (by decide) rfl [some 0, some 1, none, some 2] (by decide) rfl (Nat.le_of_ble_eq_true rfl) rfl dX9_becomes_1 ?_
  refine mg_aload_n (pc := 4) C 0 dX9_becomes_4 rfl rfl ?_
  refine mg_get (pc := 5) C 0 rfl rfl inX9 0 (by decide) wm_874 rfl rfl dX9_becomes_5 ?_
  refine mg_iload_n (pc := 8) C 1 dX9_becomes_8 rfl rfl ?_
  refine mg_iald (pc := 9) C 3 rfl dX9_becomes_9 hf (fun hf => ?_)
  refine mg_istore_n (pc := 10) C (lv' := [(3, .int (v_t_s (Int32.toNatClampNeg x1))), (0, .ref a_t), (1, .int x1), (2, .int x2)]) dX9_becomes_10 rfl (by decide) rfl ?_
  refine mg_aload_n (pc := 11) C 1 dX9_becomes_11 rfl rfl ?_
  refine mg_get (pc := 12) C 0 rfl rfl inX9 0 (by decide) wm_874 rfl rfl dX9_becomes_12 ?_
  refine mg_iload_n (pc := 15) C 2 dX9_becomes_15 rfl rfl ?_
  refine mg_iload_n (pc := 16) C 3 dX9_becomes_16 rfl rfl ?_
  refine mg_iast (pc := 17) C (w2 := w_X9_becomes k a_t a_t_s a_t_past a_t_aside a_t_text a_t_told a_t_bottoms a_t_planned v_t_pasts v_t_typed v_t_at v_t_kind v_t_from v_t_value v_t_planLength v_t_planAmount q1 v_t_past (upd v_t_s (Int32.toNatClampNeg x1) x2)) 3 rfl dX9_becomes_17 hf rfl (fun hf => ?_)
  refine mg_aload_n (pc := 18) C 1 dX9_becomes_18 rfl rfl ?_
  refine mg_iload_n (pc := 19) C 0 dX9_becomes_19 rfl rfl ?_
  obtain ⟨q3, h4, hf⟩ := mg_b hf
  refine mg_callV (pc := 20) C (w2 := w_X9_becomes k a_t a_t_s a_t_past a_t_aside a_t_text a_t_told a_t_bottoms a_t_planned q3.2.1 v_t_typed v_t_at v_t_kind v_t_from v_t_value v_t_planLength v_t_planAmount q1 q3.2.2 (upd v_t_s (Int32.toNatClampNeg x1) x2)) (c_X9_ends z.2.1 k a_t a_t_s a_t_past a_t_aside a_t_text a_t_told a_t_bottoms a_t_planned v_t_pasts v_t_typed v_t_at v_t_kind v_t_from v_t_value v_t_planLength v_t_planAmount q1 v_t_past fuel (v_t_s (Int32.toNatClampNeg x1)) q3 h4) Y_X9_ends wm_1004 (by decide) rfl 0 rfl rfl rfl [0, 1, 2] rfl (by decide) rfl [some 0, some 1, some 2, none] (by decide) rfl (Nat.le_of_ble_eq_true rfl) rfl dX9_becomes_20 ?_
  obtain rfl := Option.some.inj hf
  exact E _ _ dX9_becomes_23
abbrev w_X9_setWeight (k : mg_K) (a_t a_t_s a_t_past a_t_aside a_t_text a_t_told a_t_bottoms a_t_planned : Nat) (v_t_pasts : Int32) (v_t_typed : Int32) (v_t_at : Int32) (v_t_kind : Int32) (v_t_from : Int32) (v_t_value : Int32) (v_t_planLength : Int32) (v_t_planAmount : Int32) (v_t_aside : Nat → Int32) (v_t_past : Nat → Int32) (v_t_s : Nat → Int32) : va_W := [(a_t, .inr (9, [.ref a_t_s, .ref a_t_past, .ref a_t_aside, .int v_t_pasts, .ref a_t_text, .int v_t_typed, .int v_t_at, .int v_t_kind, .int v_t_from, .int v_t_value, .ref a_t_told, .ref a_t_bottoms, .ref a_t_planned, .int v_t_planLength, .int v_t_planAmount])), (a_t_aside, .inl (k.2.1, 227, .inl v_t_aside)), (a_t_past, .inl (k.2.1, 1362, .inl v_t_past)), (a_t_s, .inl (k.2.1, 227, .inl v_t_s))]
def f_X9_setWeight (fuel : Nat) (v_t_pasts : Int32) (v_t_aside : Nat → Int32) (v_t_past : Nat → Int32) (v_t_s : Nat → Int32) (x1 : Int32) : Option (Int32 × Int32 × (Nat → Int32) × (Nat → Int32) × (Nat → Int32)) := (f_X9_in x1 1 9999).bind (fun q1 => if q1 = 0 then (some ((-1000001), v_t_pasts, v_t_aside, v_t_past, v_t_s)) else ((f_X9_becomes fuel v_t_pasts v_t_aside v_t_past v_t_s 5 x1).bind (fun q3 => some (q3.1, q3.2.1, q3.2.2.1, q3.2.2.2.1, q3.2.2.2.2))))
theorem Y_X9_setWeight : mg_Y yX9_setWeight cX9_setWeight 2 (some .int) 1 := ⟨wm_1013, wm_1014, wm_11, wm_1015, ⟨by decide +kernel, by decide +kernel, by decide +kernel⟩, by decide⟩
set_option maxRecDepth 100000 in
set_option maxHeartbeats 4000000 in
theorem c_X9_setWeight (l : Launch) (k : mg_K) (a_t a_t_s a_t_past a_t_aside a_t_text a_t_told a_t_bottoms a_t_planned : Nat) (v_t_pasts : Int32) (v_t_typed : Int32) (v_t_at : Int32) (v_t_kind : Int32) (v_t_from : Int32) (v_t_value : Int32) (v_t_planLength : Int32) (v_t_planAmount : Int32) (v_t_aside : Nat → Int32) (v_t_past : Nat → Int32) (v_t_s : Nat → Int32) (fuel : Nat) (x1 : Int32) (q : Int32 × Int32 × (Nat → Int32) × (Nat → Int32) × (Nat → Int32)) (hf : f_X9_setWeight fuel v_t_pasts v_t_aside v_t_past v_t_s x1 = some q) : mg_M l yX9_setWeight cX9_setWeight 2 (some .int) 2 k [.ref a_t, .int x1] (w_X9_setWeight k a_t a_t_s a_t_past a_t_aside a_t_text a_t_told a_t_bottoms a_t_planned v_t_pasts v_t_typed v_t_at v_t_kind v_t_from v_t_value v_t_planLength v_t_planAmount v_t_aside v_t_past v_t_s) (w_X9_setWeight k a_t a_t_s a_t_past a_t_aside a_t_text a_t_told a_t_bottoms a_t_planned q.2.1 v_t_typed v_t_at v_t_kind v_t_from v_t_value v_t_planLength v_t_planAmount q.2.2.1 q.2.2.2.1 q.2.2.2.2) (some (.int q.1)) := by
  refine mg_Mi RX9 [(0, .ref a_t), (1, .int x1)] (by decide +kernel) rfl rfl (Nat.le_of_ble_eq_true rfl) ?_
  intro z A Q hl C E
  subst hl
  unfold f_X9_setWeight at hf
  refine mg_iload_n (pc := 0) C 1 dX9_setWeight_0 rfl rfl ?_
  refine mg_iconst (pc := 1) C dX9_setWeight_1 (v := 1) (by decide) ?_
  refine mg_sipush (pc := 2) C dX9_setWeight_2 (v := 9999) (by decide) ?_
  obtain ⟨q1, h2, hf⟩ := mg_b hf
  refine mg_callS (pc := 5) C (w2 := w_X9_setWeight k a_t a_t_s a_t_past a_t_aside a_t_text a_t_told a_t_bottoms a_t_planned v_t_pasts v_t_typed v_t_at v_t_kind v_t_from v_t_value v_t_planLength v_t_planAmount v_t_aside v_t_past v_t_s) (c_X9_in z.2.1 k x1 1 9999 q1 h2) Y_X9_in wm_924 (by decide) rfl [] rfl (by decide) rfl [none, none, none, none] (by decide) rfl (Nat.le_of_ble_eq_true rfl) rfl dX9_setWeight_5 ?_
  refine mg_if_eq (pc := 8) (tgt := 20) C dX9_setWeight_8 (by decide) hf (fun hf => ?_) (fun hf => ?_)
  · refine mg_ldc (pc := 20) C wm_927 dX9_setWeight_20 ?_
    obtain rfl := Option.some.inj hf
    exact E _ _ dX9_setWeight_22
  · refine mg_aload_n (pc := 11) C 0 dX9_setWeight_11 rfl rfl ?_
    refine mg_iconst (pc := 12) C dX9_setWeight_12 (v := 5) (by decide) ?_
    refine mg_iload_n (pc := 13) C 1 dX9_setWeight_13 rfl rfl ?_
    obtain ⟨q3, h4, hf⟩ := mg_b hf
    refine mg_callV (pc := 14) C (w2 := w_X9_setWeight k a_t a_t_s a_t_past a_t_aside a_t_text a_t_told a_t_bottoms a_t_planned q3.2.1 v_t_typed v_t_at v_t_kind v_t_from v_t_value v_t_planLength v_t_planAmount q3.2.2.1 q3.2.2.2.1 q3.2.2.2.2) (c_X9_becomes z.2.1 k a_t a_t_s a_t_past a_t_aside a_t_text a_t_told a_t_bottoms a_t_planned v_t_pasts v_t_typed v_t_at v_t_kind v_t_from v_t_value v_t_planLength v_t_planAmount v_t_aside v_t_past v_t_s fuel 5 x1 q3 h4) Y_X9_becomes wm_1016 (by decide) rfl 0 rfl rfl rfl [0, 1, 2, 3] rfl (by decide) rfl [some 0, some 1, some 2, some 3] (by decide) rfl (Nat.le_of_ble_eq_true rfl) rfl dX9_setWeight_14 ?_
    refine mg_goto (pc := 17) (tgt := 22) C dX9_setWeight_17 (by decide) ?_
    obtain rfl := Option.some.inj hf
    exact E _ _ dX9_setWeight_22
abbrev w_X9_setStiffness (k : mg_K) (a_t a_t_s a_t_past a_t_aside a_t_text a_t_told a_t_bottoms a_t_planned : Nat) (v_t_pasts : Int32) (v_t_typed : Int32) (v_t_at : Int32) (v_t_kind : Int32) (v_t_from : Int32) (v_t_value : Int32) (v_t_planLength : Int32) (v_t_planAmount : Int32) (v_t_aside : Nat → Int32) (v_t_past : Nat → Int32) (v_t_s : Nat → Int32) : va_W := [(a_t, .inr (9, [.ref a_t_s, .ref a_t_past, .ref a_t_aside, .int v_t_pasts, .ref a_t_text, .int v_t_typed, .int v_t_at, .int v_t_kind, .int v_t_from, .int v_t_value, .ref a_t_told, .ref a_t_bottoms, .ref a_t_planned, .int v_t_planLength, .int v_t_planAmount])), (a_t_aside, .inl (k.2.1, 227, .inl v_t_aside)), (a_t_past, .inl (k.2.1, 1362, .inl v_t_past)), (a_t_s, .inl (k.2.1, 227, .inl v_t_s))]
def f_X9_setStiffness (fuel : Nat) (v_t_pasts : Int32) (v_t_aside : Nat → Int32) (v_t_past : Nat → Int32) (v_t_s : Nat → Int32) (x1 : Int32) : Option (Int32 × Int32 × (Nat → Int32) × (Nat → Int32) × (Nat → Int32)) := (f_X9_in x1 0 9999).bind (fun q1 => if q1 = 0 then (some ((-1000001), v_t_pasts, v_t_aside, v_t_past, v_t_s)) else ((f_X9_becomes fuel v_t_pasts v_t_aside v_t_past v_t_s 7 x1).bind (fun q3 => some (q3.1, q3.2.1, q3.2.2.1, q3.2.2.2.1, q3.2.2.2.2))))
theorem Y_X9_setStiffness : mg_Y yX9_setStiffness cX9_setStiffness 2 (some .int) 1 := ⟨wm_1021, wm_1022, wm_11, wm_1023, ⟨by decide +kernel, by decide +kernel, by decide +kernel⟩, by decide⟩
set_option maxRecDepth 100000 in
set_option maxHeartbeats 4000000 in
theorem c_X9_setStiffness (l : Launch) (k : mg_K) (a_t a_t_s a_t_past a_t_aside a_t_text a_t_told a_t_bottoms a_t_planned : Nat) (v_t_pasts : Int32) (v_t_typed : Int32) (v_t_at : Int32) (v_t_kind : Int32) (v_t_from : Int32) (v_t_value : Int32) (v_t_planLength : Int32) (v_t_planAmount : Int32) (v_t_aside : Nat → Int32) (v_t_past : Nat → Int32) (v_t_s : Nat → Int32) (fuel : Nat) (x1 : Int32) (q : Int32 × Int32 × (Nat → Int32) × (Nat → Int32) × (Nat → Int32)) (hf : f_X9_setStiffness fuel v_t_pasts v_t_aside v_t_past v_t_s x1 = some q) : mg_M l yX9_setStiffness cX9_setStiffness 2 (some .int) 2 k [.ref a_t, .int x1] (w_X9_setStiffness k a_t a_t_s a_t_past a_t_aside a_t_text a_t_told a_t_bottoms a_t_planned v_t_pasts v_t_typed v_t_at v_t_kind v_t_from v_t_value v_t_planLength v_t_planAmount v_t_aside v_t_past v_t_s) (w_X9_setStiffness k a_t a_t_s a_t_past a_t_aside a_t_text a_t_told a_t_bottoms a_t_planned q.2.1 v_t_typed v_t_at v_t_kind v_t_from v_t_value v_t_planLength v_t_planAmount q.2.2.1 q.2.2.2.1 q.2.2.2.2) (some (.int q.1)) := by
  refine mg_Mi RX9 [(0, .ref a_t), (1, .int x1)] (by decide +kernel) rfl rfl (Nat.le_of_ble_eq_true rfl) ?_
  intro z A Q hl C E
  subst hl
  unfold f_X9_setStiffness at hf
  refine mg_iload_n (pc := 0) C 1 dX9_setStiffness_0 rfl rfl ?_
  refine mg_iconst (pc := 1) C dX9_setStiffness_1 (v := 0) (by decide) ?_
  refine mg_sipush (pc := 2) C dX9_setStiffness_2 (v := 9999) (by decide) ?_
  obtain ⟨q1, h2, hf⟩ := mg_b hf
  refine mg_callS (pc := 5) C (w2 := w_X9_setStiffness k a_t a_t_s a_t_past a_t_aside a_t_text a_t_told a_t_bottoms a_t_planned v_t_pasts v_t_typed v_t_at v_t_kind v_t_from v_t_value v_t_planLength v_t_planAmount v_t_aside v_t_past v_t_s) (c_X9_in z.2.1 k x1 0 9999 q1 h2) Y_X9_in wm_924 (by decide) rfl [] rfl (by decide) rfl [none, none, none, none] (by decide) rfl (Nat.le_of_ble_eq_true rfl) rfl dX9_setStiffness_5 ?_
  refine mg_if_eq (pc := 8) (tgt := 21) C dX9_setStiffness_8 (by decide) hf (fun hf => ?_) (fun hf => ?_)
  · refine mg_ldc (pc := 21) C wm_927 dX9_setStiffness_21 ?_
    obtain rfl := Option.some.inj hf
    exact E _ _ dX9_setStiffness_23
  · refine mg_aload_n (pc := 11) C 0 dX9_setStiffness_11 rfl rfl ?_
    refine mg_bipush (pc := 12) C dX9_setStiffness_12 (v := 7) (by decide) ?_
    refine mg_iload_n (pc := 14) C 1 dX9_setStiffness_14 rfl rfl ?_
    obtain ⟨q3, h4, hf⟩ := mg_b hf
    refine mg_callV (pc := 15) C (w2 := w_X9_setStiffness k a_t a_t_s a_t_past a_t_aside a_t_text a_t_told a_t_bottoms a_t_planned q3.2.1 v_t_typed v_t_at v_t_kind v_t_from v_t_value v_t_planLength v_t_planAmount q3.2.2.1 q3.2.2.2.1 q3.2.2.2.2) (c_X9_becomes z.2.1 k a_t a_t_s a_t_past a_t_aside a_t_text a_t_told a_t_bottoms a_t_planned v_t_pasts v_t_typed v_t_at v_t_kind v_t_from v_t_value v_t_planLength v_t_planAmount v_t_aside v_t_past v_t_s fuel 7 x1 q3 h4) Y_X9_becomes wm_1016 (by decide) rfl 0 rfl rfl rfl [0, 1, 2, 3] rfl (by decide) rfl [some 0, some 1, some 2, some 3] (by decide) rfl (Nat.le_of_ble_eq_true rfl) rfl dX9_setStiffness_15 ?_
    refine mg_goto (pc := 18) (tgt := 23) C dX9_setStiffness_18 (by decide) ?_
    obtain rfl := Option.some.inj hf
    exact E _ _ dX9_setStiffness_23
abbrev w_X9_addLayer (k : mg_K) (a_t a_t_s a_t_past a_t_aside a_t_text a_t_told a_t_bottoms a_t_planned : Nat) (v_t_pasts : Int32) (v_t_typed : Int32) (v_t_at : Int32) (v_t_kind : Int32) (v_t_from : Int32) (v_t_value : Int32) (v_t_planLength : Int32) (v_t_planAmount : Int32) (v_t_aside : Nat → Int32) (v_t_past : Nat → Int32) (v_t_s : Nat → Int32) : va_W := [(a_t, .inr (9, [.ref a_t_s, .ref a_t_past, .ref a_t_aside, .int v_t_pasts, .ref a_t_text, .int v_t_typed, .int v_t_at, .int v_t_kind, .int v_t_from, .int v_t_value, .ref a_t_told, .ref a_t_bottoms, .ref a_t_planned, .int v_t_planLength, .int v_t_planAmount])), (a_t_aside, .inl (k.2.1, 227, .inl v_t_aside)), (a_t_past, .inl (k.2.1, 1362, .inl v_t_past)), (a_t_s, .inl (k.2.1, 227, .inl v_t_s))]
def f_X9_addLayer (fuel : Nat) (v_t_pasts : Int32) (v_t_aside : Nat → Int32) (v_t_past : Nat → Int32) (v_t_s : Nat → Int32) (x1 : Int32) (x2 : Int32) (x3 : Int32) : Option (Int32 × Int32 × (Nat → Int32) × (Nat → Int32) × (Nat → Int32)) := (f_X9_in x1 1 100).bind (fun q1 => if q1 = 0 then (some ((-1000001), v_t_pasts, v_t_aside, v_t_past, v_t_s)) else ((f_X9_in x2 0 50).bind (fun q3 => if q3 = 0 then (some ((-1000001), v_t_pasts, v_t_aside, v_t_past, v_t_s)) else ((f_X9_in x3 0 9).bind (fun q5 => if q5 = 0 then (some ((-1000001), v_t_pasts, v_t_aside, v_t_past, v_t_s)) else (if (v_t_s 8) = 8 then (some ((-1000003), v_t_pasts, v_t_aside, v_t_past, v_t_s)) else ((f_X9_hold fuel v_t_aside v_t_s).bind (fun q7 => (f_X9_putsLayer v_t_s x1 x2 x3).bind (fun q9 => (f_X9_ends fuel v_t_pasts q7 v_t_past (q9 8)).bind (fun q11 => some (q11.1, q11.2.1, q7, q11.2.2, q9)))))))))))
theorem Y_X9_addLayer : mg_Y yX9_addLayer cX9_addLayer 4 (some .int) 3 := ⟨wm_1025, wm_1026, wm_11, wm_1027, ⟨by decide +kernel, by decide +kernel, by decide +kernel⟩, by decide⟩
set_option maxRecDepth 100000 in
set_option maxHeartbeats 4000000 in
theorem c_X9_addLayer (l : Launch) (k : mg_K) (a_t a_t_s a_t_past a_t_aside a_t_text a_t_told a_t_bottoms a_t_planned : Nat) (v_t_pasts : Int32) (v_t_typed : Int32) (v_t_at : Int32) (v_t_kind : Int32) (v_t_from : Int32) (v_t_value : Int32) (v_t_planLength : Int32) (v_t_planAmount : Int32) (v_t_aside : Nat → Int32) (v_t_past : Nat → Int32) (v_t_s : Nat → Int32) (fuel : Nat) (x1 : Int32) (x2 : Int32) (x3 : Int32) (q : Int32 × Int32 × (Nat → Int32) × (Nat → Int32) × (Nat → Int32)) (hf : f_X9_addLayer fuel v_t_pasts v_t_aside v_t_past v_t_s x1 x2 x3 = some q) : mg_M l yX9_addLayer cX9_addLayer 4 (some .int) 1 k [.ref a_t, .int x1, .int x2, .int x3] (w_X9_addLayer k a_t a_t_s a_t_past a_t_aside a_t_text a_t_told a_t_bottoms a_t_planned v_t_pasts v_t_typed v_t_at v_t_kind v_t_from v_t_value v_t_planLength v_t_planAmount v_t_aside v_t_past v_t_s) (w_X9_addLayer k a_t a_t_s a_t_past a_t_aside a_t_text a_t_told a_t_bottoms a_t_planned q.2.1 v_t_typed v_t_at v_t_kind v_t_from v_t_value v_t_planLength v_t_planAmount q.2.2.1 q.2.2.2.1 q.2.2.2.2) (some (.int q.1)) := by
  refine mg_Mi RX9 [(0, .ref a_t), (1, .int x1), (2, .int x2), (3, .int x3)] (by decide +kernel) rfl rfl (Nat.le_of_ble_eq_true rfl) ?_
  intro z A Q hl C E
  subst hl
  unfold f_X9_addLayer at hf
  refine mg_iload_n (pc := 0) C 1 dX9_addLayer_0 rfl rfl ?_
  refine mg_iconst (pc := 1) C dX9_addLayer_1 (v := 1) (by decide) ?_
  refine mg_bipush (pc := 2) C dX9_addLayer_2 (v := 100) (by decide) ?_
  obtain ⟨q1, h2, hf⟩ := mg_b hf
  refine mg_callS (pc := 4) C (w2 := w_X9_addLayer k a_t a_t_s a_t_past a_t_aside a_t_text a_t_told a_t_bottoms a_t_planned v_t_pasts v_t_typed v_t_at v_t_kind v_t_from v_t_value v_t_planLength v_t_planAmount v_t_aside v_t_past v_t_s) (c_X9_in z.2.1 k x1 1 100 q1 h2) Y_X9_in wm_924 (by decide) rfl [] rfl (by decide) rfl [none, none, none, none] (by decide) rfl (Nat.le_of_ble_eq_true rfl) rfl dX9_addLayer_4 ?_
  refine mg_if_eq (pc := 7) (tgt := 30) C dX9_addLayer_7 (by decide) hf (fun hf => ?_) (fun hf => ?_)
  · refine mg_ldc (pc := 30) C wm_927 dX9_addLayer_30 ?_
    obtain rfl := Option.some.inj hf
    exact E _ _ dX9_addLayer_32
  · refine mg_iload_n (pc := 10) C 2 dX9_addLayer_10 rfl rfl ?_
    refine mg_iconst (pc := 11) C dX9_addLayer_11 (v := 0) (by decide) ?_
    refine mg_bipush (pc := 12) C dX9_addLayer_12 (v := 50) (by decide) ?_
    obtain ⟨q3, h4, hf⟩ := mg_b hf
    refine mg_callS (pc := 14) C (w2 := w_X9_addLayer k a_t a_t_s a_t_past a_t_aside a_t_text a_t_told a_t_bottoms a_t_planned v_t_pasts v_t_typed v_t_at v_t_kind v_t_from v_t_value v_t_planLength v_t_planAmount v_t_aside v_t_past v_t_s) (c_X9_in z.2.1 k x2 0 50 q3 h4) Y_X9_in wm_924 (by decide) rfl [] rfl (by decide) rfl [none, none, none, none] (by decide) rfl (Nat.le_of_ble_eq_true rfl) rfl dX9_addLayer_14 ?_
    refine mg_if_eq (pc := 17) (tgt := 30) C dX9_addLayer_17 (by decide) hf (fun hf => ?_) (fun hf => ?_)
    · refine mg_ldc (pc := 30) C wm_927 dX9_addLayer_30 ?_
      obtain rfl := Option.some.inj hf
      exact E _ _ dX9_addLayer_32
    · refine mg_iload_n (pc := 20) C 3 dX9_addLayer_20 rfl rfl ?_
      refine mg_iconst (pc := 21) C dX9_addLayer_21 (v := 0) (by decide) ?_
      refine mg_bipush (pc := 22) C dX9_addLayer_22 (v := 9) (by decide) ?_
      obtain ⟨q5, h6, hf⟩ := mg_b hf
      refine mg_callS (pc := 24) C (w2 := w_X9_addLayer k a_t a_t_s a_t_past a_t_aside a_t_text a_t_told a_t_bottoms a_t_planned v_t_pasts v_t_typed v_t_at v_t_kind v_t_from v_t_value v_t_planLength v_t_planAmount v_t_aside v_t_past v_t_s) (c_X9_in z.2.1 k x3 0 9 q5 h6) Y_X9_in wm_924 (by decide) rfl [] rfl (by decide) rfl [none, none, none, none] (by decide) rfl (Nat.le_of_ble_eq_true rfl) rfl dX9_addLayer_24 ?_
      refine mg_if_ne (pc := 27) (tgt := 33) C dX9_addLayer_27 (by decide) hf (fun hf => ?_) (fun hf => ?_)
      · refine mg_aload_n (pc := 33) C 0 dX9_addLayer_33 rfl rfl ?_
        refine mg_get (pc := 34) C 0 rfl rfl inX9 0 (by decide) wm_874 rfl rfl dX9_addLayer_34 ?_
        refine mg_bipush (pc := 37) C dX9_addLayer_37 (v := 8) (by decide) ?_
        refine mg_ialdK (pc := 39) C 3 8 rfl dX9_addLayer_39 (by decide) (by decide) ?_
        refine mg_bipush (pc := 40) C dX9_addLayer_40 (v := 8) (by decide) ?_
        refine mg_icmp_ne (pc := 42) (tgt := 48) C dX9_addLayer_42 (by decide) hf (fun hf => ?_) (fun hf => ?_)
        · refine mg_aload_n (pc := 48) C 0 dX9_addLayer_48 rfl rfl ?_
          obtain ⟨q7, h8, hf⟩ := mg_b hf
          refine mg_callV (pc := 49) C (w2 := w_X9_addLayer k a_t a_t_s a_t_past a_t_aside a_t_text a_t_told a_t_bottoms a_t_planned v_t_pasts v_t_typed v_t_at v_t_kind v_t_from v_t_value v_t_planLength v_t_planAmount q7 v_t_past v_t_s) (c_X9_hold z.2.1 k a_t a_t_s a_t_past a_t_aside a_t_text a_t_told a_t_bottoms a_t_planned v_t_pasts v_t_typed v_t_at v_t_kind v_t_from v_t_value v_t_planLength v_t_planAmount v_t_aside v_t_s fuel q7 h8) Y_X9_hold wm_937 (by decide) rfl 0 rfl rfl rfl [0, 1, 3] rfl (by decide) rfl [some 0, some 1, none, some 2] (by decide) rfl (Nat.le_of_ble_eq_true rfl) rfl dX9_addLayer_49 ?_
          refine mg_aload_n (pc := 52) C 0 dX9_addLayer_52 rfl rfl ?_
          refine mg_iload_n (pc := 53) C 1 dX9_addLayer_53 rfl rfl ?_
          refine mg_iload_n (pc := 54) C 2 dX9_addLayer_54 rfl rfl ?_
          refine mg_iload_n (pc := 55) C 3 dX9_addLayer_55 rfl rfl ?_
          obtain ⟨q9, h10, hf⟩ := mg_b hf
          refine mg_callV (pc := 56) C (w2 := w_X9_addLayer k a_t a_t_s a_t_past a_t_aside a_t_text a_t_told a_t_bottoms a_t_planned v_t_pasts v_t_typed v_t_at v_t_kind v_t_from v_t_value v_t_planLength v_t_planAmount q7 v_t_past q9) (c_X9_putsLayer z.2.1 k a_t a_t_s a_t_past a_t_aside a_t_text a_t_told a_t_bottoms a_t_planned v_t_pasts v_t_typed v_t_at v_t_kind v_t_from v_t_value v_t_planLength v_t_planAmount v_t_s x1 x2 x3 q9 h10) Y_X9_putsLayer wm_992 (by decide) rfl 0 rfl rfl rfl [0, 3] rfl (by decide) rfl [some 0, none, none, some 1] (by decide) rfl (Nat.le_of_ble_eq_true rfl) rfl dX9_addLayer_56 ?_
          refine mg_aload_n (pc := 59) C 0 dX9_addLayer_59 rfl rfl ?_
          refine mg_aload_n (pc := 60) C 0 dX9_addLayer_60 rfl rfl ?_
          refine mg_get (pc := 61) C 0 rfl rfl inX9 0 (by decide) wm_874 rfl rfl dX9_addLayer_61 ?_
          refine mg_bipush (pc := 64) C dX9_addLayer_64 (v := 8) (by decide) ?_
          refine mg_ialdK (pc := 66) C 3 8 rfl dX9_addLayer_66 (by decide) (by decide) ?_
          obtain ⟨q11, h12, hf⟩ := mg_b hf
          refine mg_callV (pc := 67) C (w2 := w_X9_addLayer k a_t a_t_s a_t_past a_t_aside a_t_text a_t_told a_t_bottoms a_t_planned q11.2.1 v_t_typed v_t_at v_t_kind v_t_from v_t_value v_t_planLength v_t_planAmount q7 q11.2.2 q9) (c_X9_ends z.2.1 k a_t a_t_s a_t_past a_t_aside a_t_text a_t_told a_t_bottoms a_t_planned v_t_pasts v_t_typed v_t_at v_t_kind v_t_from v_t_value v_t_planLength v_t_planAmount q7 v_t_past fuel (q9 8) q11 h12) Y_X9_ends wm_1004 (by decide) rfl 0 rfl rfl rfl [0, 1, 2] rfl (by decide) rfl [some 0, some 1, some 2, none] (by decide) rfl (Nat.le_of_ble_eq_true rfl) rfl dX9_addLayer_67 ?_
          obtain rfl := Option.some.inj hf
          exact E _ _ dX9_addLayer_70
        · refine mg_ldc (pc := 45) C wm_928 dX9_addLayer_45 ?_
          obtain rfl := Option.some.inj hf
          exact E _ _ dX9_addLayer_47
      · refine mg_ldc (pc := 30) C wm_927 dX9_addLayer_30 ?_
        obtain rfl := Option.some.inj hf
        exact E _ _ dX9_addLayer_32
abbrev w_X9_addBoulder (k : mg_K) (a_t a_t_s a_t_past a_t_aside a_t_text a_t_told a_t_bottoms a_t_planned : Nat) (v_t_pasts : Int32) (v_t_typed : Int32) (v_t_at : Int32) (v_t_kind : Int32) (v_t_from : Int32) (v_t_value : Int32) (v_t_planLength : Int32) (v_t_planAmount : Int32) (v_t_aside : Nat → Int32) (v_t_past : Nat → Int32) (v_t_s : Nat → Int32) : va_W := [(a_t, .inr (9, [.ref a_t_s, .ref a_t_past, .ref a_t_aside, .int v_t_pasts, .ref a_t_text, .int v_t_typed, .int v_t_at, .int v_t_kind, .int v_t_from, .int v_t_value, .ref a_t_told, .ref a_t_bottoms, .ref a_t_planned, .int v_t_planLength, .int v_t_planAmount])), (a_t_aside, .inl (k.2.1, 227, .inl v_t_aside)), (a_t_past, .inl (k.2.1, 1362, .inl v_t_past)), (a_t_s, .inl (k.2.1, 227, .inl v_t_s))]
def f_X9_addBoulder (fuel : Nat) (v_t_pasts : Int32) (v_t_aside : Nat → Int32) (v_t_past : Nat → Int32) (v_t_s : Nat → Int32) (x1 : Int32) (x2 : Int32) (x3 : Int32) : Option (Int32 × Int32 × (Nat → Int32) × (Nat → Int32) × (Nat → Int32)) := (f_X9_isCell v_t_s x1).bind (fun q1 => if q1 = 0 then (some ((-1000001), v_t_pasts, v_t_aside, v_t_past, v_t_s)) else ((f_X9_in x2 1 200).bind (fun q3 => if q3 = 0 then (some ((-1000001), v_t_pasts, v_t_aside, v_t_past, v_t_s)) else ((f_X9_in x3 1 50).bind (fun q5 => if q5 = 0 then (some ((-1000001), v_t_pasts, v_t_aside, v_t_past, v_t_s)) else ((f_X9_boulderAt fuel v_t_s x1 x2).bind (fun q7 => if q7 < 0 then (if (v_t_s 33) = 10 then (some ((-1000003), v_t_pasts, v_t_aside, v_t_past, v_t_s)) else ((f_X9_hold fuel v_t_aside v_t_s).bind (fun q9 => (f_X9_putsBoulder fuel v_t_s x1 x2 x3).bind (fun q11 => (f_X9_ends fuel v_t_pasts q9 v_t_past q11.1).bind (fun q13 => some (q13.1, q13.2.1, q9, q13.2.2, q11.2)))))) else (some ((-1000002), v_t_pasts, v_t_aside, v_t_past, v_t_s)))))))))
theorem Y_X9_addBoulder : mg_Y yX9_addBoulder cX9_addBoulder 4 (some .int) 3 := ⟨wm_1029, wm_1030, wm_11, wm_1031, ⟨by decide +kernel, by decide +kernel, by decide +kernel⟩, by decide⟩
set_option maxRecDepth 100000 in
set_option maxHeartbeats 4000000 in
theorem c_X9_addBoulder (l : Launch) (k : mg_K) (a_t a_t_s a_t_past a_t_aside a_t_text a_t_told a_t_bottoms a_t_planned : Nat) (v_t_pasts : Int32) (v_t_typed : Int32) (v_t_at : Int32) (v_t_kind : Int32) (v_t_from : Int32) (v_t_value : Int32) (v_t_planLength : Int32) (v_t_planAmount : Int32) (v_t_aside : Nat → Int32) (v_t_past : Nat → Int32) (v_t_s : Nat → Int32) (fuel : Nat) (x1 : Int32) (x2 : Int32) (x3 : Int32) (q : Int32 × Int32 × (Nat → Int32) × (Nat → Int32) × (Nat → Int32)) (hf : f_X9_addBoulder fuel v_t_pasts v_t_aside v_t_past v_t_s x1 x2 x3 = some q) : mg_M l yX9_addBoulder cX9_addBoulder 4 (some .int) 2 k [.ref a_t, .int x1, .int x2, .int x3] (w_X9_addBoulder k a_t a_t_s a_t_past a_t_aside a_t_text a_t_told a_t_bottoms a_t_planned v_t_pasts v_t_typed v_t_at v_t_kind v_t_from v_t_value v_t_planLength v_t_planAmount v_t_aside v_t_past v_t_s) (w_X9_addBoulder k a_t a_t_s a_t_past a_t_aside a_t_text a_t_told a_t_bottoms a_t_planned q.2.1 v_t_typed v_t_at v_t_kind v_t_from v_t_value v_t_planLength v_t_planAmount q.2.2.1 q.2.2.2.1 q.2.2.2.2) (some (.int q.1)) := by
  refine mg_Mi RX9 [(0, .ref a_t), (1, .int x1), (2, .int x2), (3, .int x3)] (by decide +kernel) rfl rfl (Nat.le_of_ble_eq_true rfl) ?_
  intro z A Q hl C E
  subst hl
  unfold f_X9_addBoulder at hf
  refine mg_aload_n (pc := 0) C 0 dX9_addBoulder_0 rfl rfl ?_
  refine mg_iload_n (pc := 1) C 1 dX9_addBoulder_1 rfl rfl ?_
  obtain ⟨q1, h2, hf⟩ := mg_b hf
  refine mg_callV (pc := 2) C (w2 := w_X9_addBoulder k a_t a_t_s a_t_past a_t_aside a_t_text a_t_told a_t_bottoms a_t_planned v_t_pasts v_t_typed v_t_at v_t_kind v_t_from v_t_value v_t_planLength v_t_planAmount v_t_aside v_t_past v_t_s) (c_X9_isCell z.2.1 k a_t a_t_s a_t_past a_t_aside a_t_text a_t_told a_t_bottoms a_t_planned v_t_pasts v_t_typed v_t_at v_t_kind v_t_from v_t_value v_t_planLength v_t_planAmount v_t_s x1 q1 h2) Y_X9_isCell wm_1032 (by decide) rfl 0 rfl rfl rfl [0, 3] rfl (by decide) rfl [some 0, none, none, some 1] (by decide) rfl (Nat.le_of_ble_eq_true rfl) rfl dX9_addBoulder_2 ?_
  refine mg_if_eq (pc := 5) (tgt := 29) C dX9_addBoulder_5 (by decide) hf (fun hf => ?_) (fun hf => ?_)
  · refine mg_ldc (pc := 29) C wm_927 dX9_addBoulder_29 ?_
    obtain rfl := Option.some.inj hf
    exact E _ _ dX9_addBoulder_31
  · refine mg_iload_n (pc := 8) C 2 dX9_addBoulder_8 rfl rfl ?_
    refine mg_iconst (pc := 9) C dX9_addBoulder_9 (v := 1) (by decide) ?_
    refine mg_sipush (pc := 10) C dX9_addBoulder_10 (v := 200) (by decide) ?_
    obtain ⟨q3, h4, hf⟩ := mg_b hf
    refine mg_callS (pc := 13) C (w2 := w_X9_addBoulder k a_t a_t_s a_t_past a_t_aside a_t_text a_t_told a_t_bottoms a_t_planned v_t_pasts v_t_typed v_t_at v_t_kind v_t_from v_t_value v_t_planLength v_t_planAmount v_t_aside v_t_past v_t_s) (c_X9_in z.2.1 k x2 1 200 q3 h4) Y_X9_in wm_924 (by decide) rfl [] rfl (by decide) rfl [none, none, none, none] (by decide) rfl (Nat.le_of_ble_eq_true rfl) rfl dX9_addBoulder_13 ?_
    refine mg_if_eq (pc := 16) (tgt := 29) C dX9_addBoulder_16 (by decide) hf (fun hf => ?_) (fun hf => ?_)
    · refine mg_ldc (pc := 29) C wm_927 dX9_addBoulder_29 ?_
      obtain rfl := Option.some.inj hf
      exact E _ _ dX9_addBoulder_31
    · refine mg_iload_n (pc := 19) C 3 dX9_addBoulder_19 rfl rfl ?_
      refine mg_iconst (pc := 20) C dX9_addBoulder_20 (v := 1) (by decide) ?_
      refine mg_bipush (pc := 21) C dX9_addBoulder_21 (v := 50) (by decide) ?_
      obtain ⟨q5, h6, hf⟩ := mg_b hf
      refine mg_callS (pc := 23) C (w2 := w_X9_addBoulder k a_t a_t_s a_t_past a_t_aside a_t_text a_t_told a_t_bottoms a_t_planned v_t_pasts v_t_typed v_t_at v_t_kind v_t_from v_t_value v_t_planLength v_t_planAmount v_t_aside v_t_past v_t_s) (c_X9_in z.2.1 k x3 1 50 q5 h6) Y_X9_in wm_924 (by decide) rfl [] rfl (by decide) rfl [none, none, none, none] (by decide) rfl (Nat.le_of_ble_eq_true rfl) rfl dX9_addBoulder_23 ?_
      refine mg_if_ne (pc := 26) (tgt := 32) C dX9_addBoulder_26 (by decide) hf (fun hf => ?_) (fun hf => ?_)
      · refine mg_aload_n (pc := 32) C 0 dX9_addBoulder_32 rfl rfl ?_
        refine mg_iload_n (pc := 33) C 1 dX9_addBoulder_33 rfl rfl ?_
        refine mg_iload_n (pc := 34) C 2 dX9_addBoulder_34 rfl rfl ?_
        obtain ⟨q7, h8, hf⟩ := mg_b hf
        refine mg_callV (pc := 35) C (w2 := w_X9_addBoulder k a_t a_t_s a_t_past a_t_aside a_t_text a_t_told a_t_bottoms a_t_planned v_t_pasts v_t_typed v_t_at v_t_kind v_t_from v_t_value v_t_planLength v_t_planAmount v_t_aside v_t_past v_t_s) (c_X9_boulderAt z.2.1 k a_t a_t_s a_t_past a_t_aside a_t_text a_t_told a_t_bottoms a_t_planned v_t_pasts v_t_typed v_t_at v_t_kind v_t_from v_t_value v_t_planLength v_t_planAmount v_t_s fuel x1 x2 q7 h8) Y_X9_boulderAt wm_984 (by decide) rfl 0 rfl rfl rfl [0, 3] rfl (by decide) rfl [some 0, none, none, some 1] (by decide) rfl (Nat.le_of_ble_eq_true rfl) rfl dX9_addBoulder_35 ?_
        refine mg_if_lt (pc := 38) (tgt := 44) C dX9_addBoulder_38 (by decide) hf (fun hf => ?_) (fun hf => ?_)
        · refine mg_aload_n (pc := 44) C 0 dX9_addBoulder_44 rfl rfl ?_
          refine mg_get (pc := 45) C 0 rfl rfl inX9 0 (by decide) wm_874 rfl rfl dX9_addBoulder_45 ?_
          refine mg_bipush (pc := 48) C dX9_addBoulder_48 (v := 33) (by decide) ?_
          refine mg_ialdK (pc := 50) C 3 33 rfl dX9_addBoulder_50 (by decide) (by decide) ?_
          refine mg_bipush (pc := 51) C dX9_addBoulder_51 (v := 10) (by decide) ?_
          refine mg_icmp_ne (pc := 53) (tgt := 59) C dX9_addBoulder_53 (by decide) hf (fun hf => ?_) (fun hf => ?_)
          · refine mg_aload_n (pc := 59) C 0 dX9_addBoulder_59 rfl rfl ?_
            obtain ⟨q9, h10, hf⟩ := mg_b hf
            refine mg_callV (pc := 60) C (w2 := w_X9_addBoulder k a_t a_t_s a_t_past a_t_aside a_t_text a_t_told a_t_bottoms a_t_planned v_t_pasts v_t_typed v_t_at v_t_kind v_t_from v_t_value v_t_planLength v_t_planAmount q9 v_t_past v_t_s) (c_X9_hold z.2.1 k a_t a_t_s a_t_past a_t_aside a_t_text a_t_told a_t_bottoms a_t_planned v_t_pasts v_t_typed v_t_at v_t_kind v_t_from v_t_value v_t_planLength v_t_planAmount v_t_aside v_t_s fuel q9 h10) Y_X9_hold wm_937 (by decide) rfl 0 rfl rfl rfl [0, 1, 3] rfl (by decide) rfl [some 0, some 1, none, some 2] (by decide) rfl (Nat.le_of_ble_eq_true rfl) rfl dX9_addBoulder_60 ?_
            refine mg_aload_n (pc := 63) C 0 dX9_addBoulder_63 rfl rfl ?_
            refine mg_aload_n (pc := 64) C 0 dX9_addBoulder_64 rfl rfl ?_
            refine mg_iload_n (pc := 65) C 1 dX9_addBoulder_65 rfl rfl ?_
            refine mg_iload_n (pc := 66) C 2 dX9_addBoulder_66 rfl rfl ?_
            refine mg_iload_n (pc := 67) C 3 dX9_addBoulder_67 rfl rfl ?_
            obtain ⟨q11, h12, hf⟩ := mg_b hf
            refine mg_callV (pc := 68) C (w2 := w_X9_addBoulder k a_t a_t_s a_t_past a_t_aside a_t_text a_t_told a_t_bottoms a_t_planned v_t_pasts v_t_typed v_t_at v_t_kind v_t_from v_t_value v_t_planLength v_t_planAmount q9 v_t_past q11.2) (c_X9_putsBoulder z.2.1 k a_t a_t_s a_t_past a_t_aside a_t_text a_t_told a_t_bottoms a_t_planned v_t_pasts v_t_typed v_t_at v_t_kind v_t_from v_t_value v_t_planLength v_t_planAmount v_t_s fuel x1 x2 x3 q11 h12) Y_X9_putsBoulder wm_996 (by decide) rfl 0 rfl rfl rfl [0, 3] rfl (by decide) rfl [some 0, none, none, some 1] (by decide) rfl (Nat.le_of_ble_eq_true rfl) rfl dX9_addBoulder_68 ?_
            obtain ⟨q13, h14, hf⟩ := mg_b hf
            refine mg_callV (pc := 71) C (w2 := w_X9_addBoulder k a_t a_t_s a_t_past a_t_aside a_t_text a_t_told a_t_bottoms a_t_planned q13.2.1 v_t_typed v_t_at v_t_kind v_t_from v_t_value v_t_planLength v_t_planAmount q9 q13.2.2 q11.2) (c_X9_ends z.2.1 k a_t a_t_s a_t_past a_t_aside a_t_text a_t_told a_t_bottoms a_t_planned v_t_pasts v_t_typed v_t_at v_t_kind v_t_from v_t_value v_t_planLength v_t_planAmount q9 v_t_past fuel q11.1 q13 h14) Y_X9_ends wm_1004 (by decide) rfl 0 rfl rfl rfl [0, 1, 2] rfl (by decide) rfl [some 0, some 1, some 2, none] (by decide) rfl (Nat.le_of_ble_eq_true rfl) rfl dX9_addBoulder_71 ?_
            obtain rfl := Option.some.inj hf
            exact E _ _ dX9_addBoulder_74
          · refine mg_ldc (pc := 56) C wm_928 dX9_addBoulder_56 ?_
            obtain rfl := Option.some.inj hf
            exact E _ _ dX9_addBoulder_58
        · refine mg_ldc (pc := 41) C wm_1036 dX9_addBoulder_41 ?_
          obtain rfl := Option.some.inj hf
          exact E _ _ dX9_addBoulder_43
      · refine mg_ldc (pc := 29) C wm_927 dX9_addBoulder_29 ?_
        obtain rfl := Option.some.inj hf
        exact E _ _ dX9_addBoulder_31
abbrev w_X9_ground (k : mg_K) (a_t a_t_s a_t_past a_t_aside a_t_text a_t_told a_t_bottoms a_t_planned : Nat) (v_t_pasts : Int32) (v_t_typed : Int32) (v_t_at : Int32) (v_t_kind : Int32) (v_t_from : Int32) (v_t_value : Int32) (v_t_planLength : Int32) (v_t_planAmount : Int32) (v_t_s : Nat → Int32) : va_W := [(a_t, .inr (9, [.ref a_t_s, .ref a_t_past, .ref a_t_aside, .int v_t_pasts, .ref a_t_text, .int v_t_typed, .int v_t_at, .int v_t_kind, .int v_t_from, .int v_t_value, .ref a_t_told, .ref a_t_bottoms, .ref a_t_planned, .int v_t_planLength, .int v_t_planAmount])), (a_t_s, .inl (k.2.1, 227, .inl v_t_s))]
def f_X9_ground (fuel : Nat) (v_t_s : Nat → Int32) (x1 : Int32) (x2 : Int32) : Option (Int32) := (f_X9_in x1 0 999).bind (fun q1 => if q1 = 0 then (some (-1000001)) else ((f_X9_in x2 0 1).bind (fun q3 => if q3 = 0 then (some (-1000001)) else ((f_X9_groundAt fuel v_t_s x1 x2).bind (fun q5 => some q5)))))
theorem Y_X9_ground : mg_Y yX9_ground cX9_ground 3 (some .int) 2 := ⟨wm_1038, wm_1039, wm_11, wm_1040, ⟨by decide +kernel, by decide +kernel, by decide +kernel⟩, by decide⟩
set_option maxRecDepth 100000 in
set_option maxHeartbeats 4000000 in
theorem c_X9_ground (l : Launch) (k : mg_K) (a_t a_t_s a_t_past a_t_aside a_t_text a_t_told a_t_bottoms a_t_planned : Nat) (v_t_pasts : Int32) (v_t_typed : Int32) (v_t_at : Int32) (v_t_kind : Int32) (v_t_from : Int32) (v_t_value : Int32) (v_t_planLength : Int32) (v_t_planAmount : Int32) (v_t_s : Nat → Int32) (fuel : Nat) (x1 : Int32) (x2 : Int32) (q : Int32) (hf : f_X9_ground fuel v_t_s x1 x2 = some q) : mg_M l yX9_ground cX9_ground 3 (some .int) 2 k [.ref a_t, .int x1, .int x2] (w_X9_ground k a_t a_t_s a_t_past a_t_aside a_t_text a_t_told a_t_bottoms a_t_planned v_t_pasts v_t_typed v_t_at v_t_kind v_t_from v_t_value v_t_planLength v_t_planAmount v_t_s) (w_X9_ground k a_t a_t_s a_t_past a_t_aside a_t_text a_t_told a_t_bottoms a_t_planned v_t_pasts v_t_typed v_t_at v_t_kind v_t_from v_t_value v_t_planLength v_t_planAmount v_t_s) (some (.int q)) := by
  refine mg_Mi RX9 [(0, .ref a_t), (1, .int x1), (2, .int x2)] (by decide +kernel) rfl rfl (Nat.le_of_ble_eq_true rfl) ?_
  intro z A Q hl C E
  subst hl
  unfold f_X9_ground at hf
  refine mg_iload_n (pc := 0) C 1 dX9_ground_0 rfl rfl ?_
  refine mg_iconst (pc := 1) C dX9_ground_1 (v := 0) (by decide) ?_
  refine mg_sipush (pc := 2) C dX9_ground_2 (v := 999) (by decide) ?_
  obtain ⟨q1, h2, hf⟩ := mg_b hf
  refine mg_callS (pc := 5) C (w2 := w_X9_ground k a_t a_t_s a_t_past a_t_aside a_t_text a_t_told a_t_bottoms a_t_planned v_t_pasts v_t_typed v_t_at v_t_kind v_t_from v_t_value v_t_planLength v_t_planAmount v_t_s) (c_X9_in z.2.1 k x1 0 999 q1 h2) Y_X9_in wm_924 (by decide) rfl [] rfl (by decide) rfl [none, none] (by decide) rfl (Nat.le_of_ble_eq_true rfl) rfl dX9_ground_5 ?_
  refine mg_if_eq (pc := 8) (tgt := 29) C dX9_ground_8 (by decide) hf (fun hf => ?_) (fun hf => ?_)
  · refine mg_ldc (pc := 29) C wm_927 dX9_ground_29 ?_
    obtain rfl := Option.some.inj hf
    exact E _ _ dX9_ground_31
  · refine mg_iload_n (pc := 11) C 2 dX9_ground_11 rfl rfl ?_
    refine mg_iconst (pc := 12) C dX9_ground_12 (v := 0) (by decide) ?_
    refine mg_iconst (pc := 13) C dX9_ground_13 (v := 1) (by decide) ?_
    obtain ⟨q3, h4, hf⟩ := mg_b hf
    refine mg_callS (pc := 14) C (w2 := w_X9_ground k a_t a_t_s a_t_past a_t_aside a_t_text a_t_told a_t_bottoms a_t_planned v_t_pasts v_t_typed v_t_at v_t_kind v_t_from v_t_value v_t_planLength v_t_planAmount v_t_s) (c_X9_in z.2.1 k x2 0 1 q3 h4) Y_X9_in wm_924 (by decide) rfl [] rfl (by decide) rfl [none, none] (by decide) rfl (Nat.le_of_ble_eq_true rfl) rfl dX9_ground_14 ?_
    refine mg_if_eq (pc := 17) (tgt := 29) C dX9_ground_17 (by decide) hf (fun hf => ?_) (fun hf => ?_)
    · refine mg_ldc (pc := 29) C wm_927 dX9_ground_29 ?_
      obtain rfl := Option.some.inj hf
      exact E _ _ dX9_ground_31
    · refine mg_aload_n (pc := 20) C 0 dX9_ground_20 rfl rfl ?_
      refine mg_iload_n (pc := 21) C 1 dX9_ground_21 rfl rfl ?_
      refine mg_iload_n (pc := 22) C 2 dX9_ground_22 rfl rfl ?_
      obtain ⟨q5, h6, hf⟩ := mg_b hf
      refine mg_callV (pc := 23) C (w2 := w_X9_ground k a_t a_t_s a_t_past a_t_aside a_t_text a_t_told a_t_bottoms a_t_planned v_t_pasts v_t_typed v_t_at v_t_kind v_t_from v_t_value v_t_planLength v_t_planAmount v_t_s) (c_X9_groundAt z.2.1 k a_t a_t_s a_t_past a_t_aside a_t_text a_t_told a_t_bottoms a_t_planned v_t_pasts v_t_typed v_t_at v_t_kind v_t_from v_t_value v_t_planLength v_t_planAmount v_t_s fuel x1 x2 q5 h6) Y_X9_groundAt wm_1041 (by decide) rfl 0 rfl rfl rfl [0, 1] rfl (by decide) rfl [some 0, some 1] (by decide) rfl (Nat.le_of_ble_eq_true rfl) rfl dX9_ground_23 ?_
      refine mg_goto (pc := 26) (tgt := 31) C dX9_ground_26 (by decide) ?_
      obtain rfl := Option.some.inj hf
      exact E _ _ dX9_ground_31
abbrev w_X9_boulder (k : mg_K) (a_t a_t_s a_t_past a_t_aside a_t_text a_t_told a_t_bottoms a_t_planned : Nat) (v_t_pasts : Int32) (v_t_typed : Int32) (v_t_at : Int32) (v_t_kind : Int32) (v_t_from : Int32) (v_t_value : Int32) (v_t_planLength : Int32) (v_t_planAmount : Int32) (v_t_s : Nat → Int32) : va_W := [(a_t, .inr (9, [.ref a_t_s, .ref a_t_past, .ref a_t_aside, .int v_t_pasts, .ref a_t_text, .int v_t_typed, .int v_t_at, .int v_t_kind, .int v_t_from, .int v_t_value, .ref a_t_told, .ref a_t_bottoms, .ref a_t_planned, .int v_t_planLength, .int v_t_planAmount])), (a_t_s, .inl (k.2.1, 227, .inl v_t_s))]
def f_X9_boulder (v_t_s : Nat → Int32) (x1 : Int32) (x2 : Int32) : Option (Int32) := (f_X9_in x1 0 ((v_t_s 33) - 1)).bind (fun q1 => if q1 = 0 then (some (-1000001)) else ((f_X9_in x2 0 2).bind (fun q3 => if q3 = 0 then (some (-1000001)) else (if mg_ix ((34 + (3 * x1)) + x2) 227 = true then (some (v_t_s (Int32.toNatClampNeg ((34 + (3 * x1)) + x2)))) else none))))
theorem Y_X9_boulder : mg_Y yX9_boulder cX9_boulder 3 (some .int) 2 := ⟨wm_1050, wm_1051, wm_11, wm_1052, ⟨by decide +kernel, by decide +kernel, by decide +kernel⟩, by decide⟩
set_option maxRecDepth 100000 in
set_option maxHeartbeats 4000000 in
theorem c_X9_boulder (l : Launch) (k : mg_K) (a_t a_t_s a_t_past a_t_aside a_t_text a_t_told a_t_bottoms a_t_planned : Nat) (v_t_pasts : Int32) (v_t_typed : Int32) (v_t_at : Int32) (v_t_kind : Int32) (v_t_from : Int32) (v_t_value : Int32) (v_t_planLength : Int32) (v_t_planAmount : Int32) (v_t_s : Nat → Int32) (x1 : Int32) (x2 : Int32) (q : Int32) (hf : f_X9_boulder v_t_s x1 x2 = some q) : mg_M l yX9_boulder cX9_boulder 3 (some .int) 1 k [.ref a_t, .int x1, .int x2] (w_X9_boulder k a_t a_t_s a_t_past a_t_aside a_t_text a_t_told a_t_bottoms a_t_planned v_t_pasts v_t_typed v_t_at v_t_kind v_t_from v_t_value v_t_planLength v_t_planAmount v_t_s) (w_X9_boulder k a_t a_t_s a_t_past a_t_aside a_t_text a_t_told a_t_bottoms a_t_planned v_t_pasts v_t_typed v_t_at v_t_kind v_t_from v_t_value v_t_planLength v_t_planAmount v_t_s) (some (.int q)) := by
  refine mg_Mi RX9 [(0, .ref a_t), (1, .int x1), (2, .int x2)] (by decide +kernel) rfl rfl (Nat.le_of_ble_eq_true rfl) ?_
  intro z A Q hl C E
  subst hl
  unfold f_X9_boulder at hf
  refine mg_iload_n (pc := 0) C 1 dX9_boulder_0 rfl rfl ?_
  refine mg_iconst (pc := 1) C dX9_boulder_1 (v := 0) (by decide) ?_
  refine mg_aload_n (pc := 2) C 0 dX9_boulder_2 rfl rfl ?_
  refine mg_get (pc := 3) C 0 rfl rfl inX9 0 (by decide) wm_874 rfl rfl dX9_boulder_3 ?_
  refine mg_bipush (pc := 6) C dX9_boulder_6 (v := 33) (by decide) ?_
  refine mg_ialdK (pc := 8) C 1 33 rfl dX9_boulder_8 (by decide) (by decide) ?_
  refine mg_iconst (pc := 9) C dX9_boulder_9 (v := 1) (by decide) ?_
  refine mg_isub (pc := 10) C dX9_boulder_10 ?_
  obtain ⟨q1, h2, hf⟩ := mg_b hf
  refine mg_callS (pc := 11) C (w2 := w_X9_boulder k a_t a_t_s a_t_past a_t_aside a_t_text a_t_told a_t_bottoms a_t_planned v_t_pasts v_t_typed v_t_at v_t_kind v_t_from v_t_value v_t_planLength v_t_planAmount v_t_s) (c_X9_in z.2.1 k x1 0 ((v_t_s 33) - 1) q1 h2) Y_X9_in wm_924 (by decide) rfl [] rfl (by decide) rfl [none, none] (by decide) rfl (Nat.le_of_ble_eq_true rfl) rfl dX9_boulder_11 ?_
  refine mg_if_eq (pc := 14) (tgt := 42) C dX9_boulder_14 (by decide) hf (fun hf => ?_) (fun hf => ?_)
  · refine mg_ldc (pc := 42) C wm_927 dX9_boulder_42 ?_
    obtain rfl := Option.some.inj hf
    exact E _ _ dX9_boulder_44
  · refine mg_iload_n (pc := 17) C 2 dX9_boulder_17 rfl rfl ?_
    refine mg_iconst (pc := 18) C dX9_boulder_18 (v := 0) (by decide) ?_
    refine mg_iconst (pc := 19) C dX9_boulder_19 (v := 2) (by decide) ?_
    obtain ⟨q3, h4, hf⟩ := mg_b hf
    refine mg_callS (pc := 20) C (w2 := w_X9_boulder k a_t a_t_s a_t_past a_t_aside a_t_text a_t_told a_t_bottoms a_t_planned v_t_pasts v_t_typed v_t_at v_t_kind v_t_from v_t_value v_t_planLength v_t_planAmount v_t_s) (c_X9_in z.2.1 k x2 0 2 q3 h4) Y_X9_in wm_924 (by decide) rfl [] rfl (by decide) rfl [none, none] (by decide) rfl (Nat.le_of_ble_eq_true rfl) rfl dX9_boulder_20 ?_
    refine mg_if_eq (pc := 23) (tgt := 42) C dX9_boulder_23 (by decide) hf (fun hf => ?_) (fun hf => ?_)
    · refine mg_ldc (pc := 42) C wm_927 dX9_boulder_42 ?_
      obtain rfl := Option.some.inj hf
      exact E _ _ dX9_boulder_44
    · refine mg_aload_n (pc := 26) C 0 dX9_boulder_26 rfl rfl ?_
      refine mg_get (pc := 27) C 0 rfl rfl inX9 0 (by decide) wm_874 rfl rfl dX9_boulder_27 ?_
      refine mg_bipush (pc := 30) C dX9_boulder_30 (v := 34) (by decide) ?_
      refine mg_iconst (pc := 32) C dX9_boulder_32 (v := 3) (by decide) ?_
      refine mg_iload_n (pc := 33) C 1 dX9_boulder_33 rfl rfl ?_
      refine mg_imul (pc := 34) C dX9_boulder_34 ?_
      refine mg_iadd (pc := 35) C dX9_boulder_35 ?_
      refine mg_iload_n (pc := 36) C 2 dX9_boulder_36 rfl rfl ?_
      refine mg_iadd (pc := 37) C dX9_boulder_37 ?_
      refine mg_iald (pc := 38) C 1 rfl dX9_boulder_38 hf (fun hf => ?_)
      refine mg_goto (pc := 39) (tgt := 44) C dX9_boulder_39 (by decide) ?_
      obtain rfl := Option.some.inj hf
      exact E _ _ dX9_boulder_44
abbrev w_X9_state (k : mg_K) (a_t a_t_s a_t_past a_t_aside a_t_text a_t_told a_t_bottoms a_t_planned : Nat) (v_t_pasts : Int32) (v_t_typed : Int32) (v_t_at : Int32) (v_t_kind : Int32) (v_t_from : Int32) (v_t_value : Int32) (v_t_planLength : Int32) (v_t_planAmount : Int32) (v_t_s : Nat → Int32) : va_W := [(a_t, .inr (9, [.ref a_t_s, .ref a_t_past, .ref a_t_aside, .int v_t_pasts, .ref a_t_text, .int v_t_typed, .int v_t_at, .int v_t_kind, .int v_t_from, .int v_t_value, .ref a_t_told, .ref a_t_bottoms, .ref a_t_planned, .int v_t_planLength, .int v_t_planAmount])), (a_t_s, .inl (k.2.1, 227, .inl v_t_s))]
def f_X9_state (fuel : Nat) (v_t_s : Nat → Int32) (x1 : Int32) : Option (Int32) := if x1 = 0 then (some (v_t_s 0)) else if x1 = 1 then (some (v_t_s 1)) else if x1 = 2 then (some (v_t_s 5)) else if x1 = 3 then (some (v_t_s 2)) else if x1 = 4 then (some ((v_t_s 3) + 10)) else if x1 = 5 then (some ((v_t_s 4) + 10)) else if x1 = 6 then ((f_X9_loadOf fuel v_t_s).bind (fun q8 => some ((q8 / 4) - (v_t_s 5)))) else if x1 = 7 then (some (v_t_s 33)) else if x1 = 8 then (some (v_t_s 8)) else if x1 = 9 then (some (v_t_s 6)) else if x1 = 10 then (some (v_t_s 7)) else if x1 = 11 then (some (v_t_s 166)) else (some (-1000001))
theorem Y_X9_state : mg_Y yX9_state cX9_state 2 (some .int) 1 := ⟨wm_1054, wm_1055, wm_11, wm_1056, ⟨by decide +kernel, by decide +kernel, by decide +kernel⟩, by decide⟩
set_option maxRecDepth 100000 in
set_option maxHeartbeats 4000000 in
theorem c_X9_state (l : Launch) (k : mg_K) (a_t a_t_s a_t_past a_t_aside a_t_text a_t_told a_t_bottoms a_t_planned : Nat) (v_t_pasts : Int32) (v_t_typed : Int32) (v_t_at : Int32) (v_t_kind : Int32) (v_t_from : Int32) (v_t_value : Int32) (v_t_planLength : Int32) (v_t_planAmount : Int32) (v_t_s : Nat → Int32) (fuel : Nat) (x1 : Int32) (q : Int32) (hf : f_X9_state fuel v_t_s x1 = some q) : mg_M l yX9_state cX9_state 2 (some .int) 2 k [.ref a_t, .int x1] (w_X9_state k a_t a_t_s a_t_past a_t_aside a_t_text a_t_told a_t_bottoms a_t_planned v_t_pasts v_t_typed v_t_at v_t_kind v_t_from v_t_value v_t_planLength v_t_planAmount v_t_s) (w_X9_state k a_t a_t_s a_t_past a_t_aside a_t_text a_t_told a_t_bottoms a_t_planned v_t_pasts v_t_typed v_t_at v_t_kind v_t_from v_t_value v_t_planLength v_t_planAmount v_t_s) (some (.int q)) := by
  refine mg_Mi RX9 [(0, .ref a_t), (1, .int x1)] (by decide +kernel) rfl rfl (Nat.le_of_ble_eq_true rfl) ?_
  intro z A Q hl C E
  subst hl
  unfold f_X9_state at hf
  refine mg_iload_n (pc := 0) C 1 dX9_state_0 rfl rfl ?_
  refine mg_cs hf (fun e1 hf => ?_) (fun e1 hf => ?_)
  · refine mg_tableIn (pc := 1) (off := 63) (tgt := 64) C 0 e1 dX9_state_1 (by decide) (by decide) (by decide) (by decide) ?_
    refine mg_aload_n (pc := 64) C 0 dX9_state_64 rfl rfl ?_
    refine mg_get (pc := 65) C 0 rfl rfl inX9 0 (by decide) wm_874 rfl rfl dX9_state_65 ?_
    refine mg_iconst (pc := 68) C dX9_state_68 (v := 0) (by decide) ?_
    refine mg_ialdK (pc := 69) C 1 0 rfl dX9_state_69 (by decide) (by decide) ?_
    obtain rfl := Option.some.inj hf
    exact E _ _ dX9_state_70
  refine mg_cs hf (fun e2 hf => ?_) (fun e2 hf => ?_)
  · refine mg_tableIn (pc := 1) (off := 70) (tgt := 71) C 1 e2 dX9_state_1 (by decide) (by decide) (by decide) (by decide) ?_
    refine mg_aload_n (pc := 71) C 0 dX9_state_71 rfl rfl ?_
    refine mg_get (pc := 72) C 0 rfl rfl inX9 0 (by decide) wm_874 rfl rfl dX9_state_72 ?_
    refine mg_iconst (pc := 75) C dX9_state_75 (v := 1) (by decide) ?_
    refine mg_ialdK (pc := 76) C 1 1 rfl dX9_state_76 (by decide) (by decide) ?_
    obtain rfl := Option.some.inj hf
    exact E _ _ dX9_state_77
  refine mg_cs hf (fun e3 hf => ?_) (fun e3 hf => ?_)
  · refine mg_tableIn (pc := 1) (off := 77) (tgt := 78) C 2 e3 dX9_state_1 (by decide) (by decide) (by decide) (by decide) ?_
    refine mg_aload_n (pc := 78) C 0 dX9_state_78 rfl rfl ?_
    refine mg_get (pc := 79) C 0 rfl rfl inX9 0 (by decide) wm_874 rfl rfl dX9_state_79 ?_
    refine mg_iconst (pc := 82) C dX9_state_82 (v := 5) (by decide) ?_
    refine mg_ialdK (pc := 83) C 1 5 rfl dX9_state_83 (by decide) (by decide) ?_
    obtain rfl := Option.some.inj hf
    exact E _ _ dX9_state_84
  refine mg_cs hf (fun e4 hf => ?_) (fun e4 hf => ?_)
  · refine mg_tableIn (pc := 1) (off := 84) (tgt := 85) C 3 e4 dX9_state_1 (by decide) (by decide) (by decide) (by decide) ?_
    refine mg_aload_n (pc := 85) C 0 dX9_state_85 rfl rfl ?_
    refine mg_get (pc := 86) C 0 rfl rfl inX9 0 (by decide) wm_874 rfl rfl dX9_state_86 ?_
    refine mg_iconst (pc := 89) C dX9_state_89 (v := 2) (by decide) ?_
    refine mg_ialdK (pc := 90) C 1 2 rfl dX9_state_90 (by decide) (by decide) ?_
    obtain rfl := Option.some.inj hf
    exact E _ _ dX9_state_91
  refine mg_cs hf (fun e5 hf => ?_) (fun e5 hf => ?_)
  · refine mg_tableIn (pc := 1) (off := 91) (tgt := 92) C 4 e5 dX9_state_1 (by decide) (by decide) (by decide) (by decide) ?_
    refine mg_aload_n (pc := 92) C 0 dX9_state_92 rfl rfl ?_
    refine mg_get (pc := 93) C 0 rfl rfl inX9 0 (by decide) wm_874 rfl rfl dX9_state_93 ?_
    refine mg_iconst (pc := 96) C dX9_state_96 (v := 3) (by decide) ?_
    refine mg_ialdK (pc := 97) C 1 3 rfl dX9_state_97 (by decide) (by decide) ?_
    refine mg_bipush (pc := 98) C dX9_state_98 (v := 10) (by decide) ?_
    refine mg_iadd (pc := 100) C dX9_state_100 ?_
    obtain rfl := Option.some.inj hf
    exact E _ _ dX9_state_101
  refine mg_cs hf (fun e6 hf => ?_) (fun e6 hf => ?_)
  · refine mg_tableIn (pc := 1) (off := 101) (tgt := 102) C 5 e6 dX9_state_1 (by decide) (by decide) (by decide) (by decide) ?_
    refine mg_aload_n (pc := 102) C 0 dX9_state_102 rfl rfl ?_
    refine mg_get (pc := 103) C 0 rfl rfl inX9 0 (by decide) wm_874 rfl rfl dX9_state_103 ?_
    refine mg_iconst (pc := 106) C dX9_state_106 (v := 4) (by decide) ?_
    refine mg_ialdK (pc := 107) C 1 4 rfl dX9_state_107 (by decide) (by decide) ?_
    refine mg_bipush (pc := 108) C dX9_state_108 (v := 10) (by decide) ?_
    refine mg_iadd (pc := 110) C dX9_state_110 ?_
    obtain rfl := Option.some.inj hf
    exact E _ _ dX9_state_111
  refine mg_cs hf (fun e7 hf => ?_) (fun e7 hf => ?_)
  · refine mg_tableIn (pc := 1) (off := 111) (tgt := 112) C 6 e7 dX9_state_1 (by decide) (by decide) (by decide) (by decide) ?_
    refine mg_aload_n (pc := 112) C 0 dX9_state_112 rfl rfl ?_
    obtain ⟨q8, h9, hf⟩ := mg_b hf
    refine mg_callV (pc := 113) C (w2 := w_X9_state k a_t a_t_s a_t_past a_t_aside a_t_text a_t_told a_t_bottoms a_t_planned v_t_pasts v_t_typed v_t_at v_t_kind v_t_from v_t_value v_t_planLength v_t_planAmount v_t_s) (c_X9_loadOf z.2.1 k a_t a_t_s a_t_past a_t_aside a_t_text a_t_told a_t_bottoms a_t_planned v_t_pasts v_t_typed v_t_at v_t_kind v_t_from v_t_value v_t_planLength v_t_planAmount v_t_s fuel q8 h9) Y_X9_loadOf wm_1057 (by decide) rfl 0 rfl rfl rfl [0, 1] rfl (by decide) rfl [some 0, some 1] (by decide) rfl (Nat.le_of_ble_eq_true rfl) rfl dX9_state_113 ?_
    refine mg_iconst (pc := 116) C dX9_state_116 (v := 4) (by decide) ?_
    refine mg_idiv (pc := 117) C dX9_state_117 (by decide) ?_
    refine mg_aload_n (pc := 118) C 0 dX9_state_118 rfl rfl ?_
    refine mg_get (pc := 119) C 0 rfl rfl inX9 0 (by decide) wm_874 rfl rfl dX9_state_119 ?_
    refine mg_iconst (pc := 122) C dX9_state_122 (v := 5) (by decide) ?_
    refine mg_ialdK (pc := 123) C 1 5 rfl dX9_state_123 (by decide) (by decide) ?_
    refine mg_isub (pc := 124) C dX9_state_124 ?_
    obtain rfl := Option.some.inj hf
    exact E _ _ dX9_state_125
  refine mg_cs hf (fun e10 hf => ?_) (fun e10 hf => ?_)
  · refine mg_tableIn (pc := 1) (off := 125) (tgt := 126) C 7 e10 dX9_state_1 (by decide) (by decide) (by decide) (by decide) ?_
    refine mg_aload_n (pc := 126) C 0 dX9_state_126 rfl rfl ?_
    refine mg_get (pc := 127) C 0 rfl rfl inX9 0 (by decide) wm_874 rfl rfl dX9_state_127 ?_
    refine mg_bipush (pc := 130) C dX9_state_130 (v := 33) (by decide) ?_
    refine mg_ialdK (pc := 132) C 1 33 rfl dX9_state_132 (by decide) (by decide) ?_
    obtain rfl := Option.some.inj hf
    exact E _ _ dX9_state_133
  refine mg_cs hf (fun e11 hf => ?_) (fun e11 hf => ?_)
  · refine mg_tableIn (pc := 1) (off := 133) (tgt := 134) C 8 e11 dX9_state_1 (by decide) (by decide) (by decide) (by decide) ?_
    refine mg_aload_n (pc := 134) C 0 dX9_state_134 rfl rfl ?_
    refine mg_get (pc := 135) C 0 rfl rfl inX9 0 (by decide) wm_874 rfl rfl dX9_state_135 ?_
    refine mg_bipush (pc := 138) C dX9_state_138 (v := 8) (by decide) ?_
    refine mg_ialdK (pc := 140) C 1 8 rfl dX9_state_140 (by decide) (by decide) ?_
    obtain rfl := Option.some.inj hf
    exact E _ _ dX9_state_141
  refine mg_cs hf (fun e12 hf => ?_) (fun e12 hf => ?_)
  · refine mg_tableIn (pc := 1) (off := 141) (tgt := 142) C 9 e12 dX9_state_1 (by decide) (by decide) (by decide) (by decide) ?_
    refine mg_aload_n (pc := 142) C 0 dX9_state_142 rfl rfl ?_
    refine mg_get (pc := 143) C 0 rfl rfl inX9 0 (by decide) wm_874 rfl rfl dX9_state_143 ?_
    refine mg_bipush (pc := 146) C dX9_state_146 (v := 6) (by decide) ?_
    refine mg_ialdK (pc := 148) C 1 6 rfl dX9_state_148 (by decide) (by decide) ?_
    obtain rfl := Option.some.inj hf
    exact E _ _ dX9_state_149
  refine mg_cs hf (fun e13 hf => ?_) (fun e13 hf => ?_)
  · refine mg_tableIn (pc := 1) (off := 149) (tgt := 150) C 10 e13 dX9_state_1 (by decide) (by decide) (by decide) (by decide) ?_
    refine mg_aload_n (pc := 150) C 0 dX9_state_150 rfl rfl ?_
    refine mg_get (pc := 151) C 0 rfl rfl inX9 0 (by decide) wm_874 rfl rfl dX9_state_151 ?_
    refine mg_bipush (pc := 154) C dX9_state_154 (v := 7) (by decide) ?_
    refine mg_ialdK (pc := 156) C 1 7 rfl dX9_state_156 (by decide) (by decide) ?_
    obtain rfl := Option.some.inj hf
    exact E _ _ dX9_state_157
  refine mg_cs hf (fun e14 hf => ?_) (fun e14 hf => ?_)
  · refine mg_tableIn (pc := 1) (off := 157) (tgt := 158) C 11 e14 dX9_state_1 (by decide) (by decide) (by decide) (by decide) ?_
    refine mg_aload_n (pc := 158) C 0 dX9_state_158 rfl rfl ?_
    refine mg_get (pc := 159) C 0 rfl rfl inX9 0 (by decide) wm_874 rfl rfl dX9_state_159 ?_
    refine mg_sipush (pc := 162) C dX9_state_162 (v := 166) (by decide) ?_
    refine mg_ialdK (pc := 165) C 1 166 rfl dX9_state_165 (by decide) (by decide) ?_
    obtain rfl := Option.some.inj hf
    exact E _ _ dX9_state_166
  refine mg_tableOut (pc := 1) (tgt := 167) C dX9_state_1 (by have e1_ := mg_ne e1 (i := 0) (by decide); have e2_ := mg_ne e2 (i := 1) (by decide); have e3_ := mg_ne e3 (i := 2) (by decide); have e4_ := mg_ne e4 (i := 3) (by decide); have e5_ := mg_ne e5 (i := 4) (by decide); have e6_ := mg_ne e6 (i := 5) (by decide); have e7_ := mg_ne e7 (i := 6) (by decide); have e10_ := mg_ne e10 (i := 7) (by decide); have e11_ := mg_ne e11 (i := 8) (by decide); have e12_ := mg_ne e12 (i := 9) (by decide); have e13_ := mg_ne e13 (i := 10) (by decide); have e14_ := mg_ne e14 (i := 11) (by decide); omega) (by decide) ?_
  refine mg_ldc (pc := 167) C wm_927 dX9_state_167 ?_
  obtain rfl := Option.some.inj hf
  exact E _ _ dX9_state_169
abbrev w_X9_edge (k : mg_K) (a_t a_t_s a_t_past a_t_aside a_t_text a_t_told a_t_bottoms a_t_planned : Nat) (v_t_pasts : Int32) (v_t_typed : Int32) (v_t_at : Int32) (v_t_kind : Int32) (v_t_from : Int32) (v_t_value : Int32) (v_t_planLength : Int32) (v_t_planAmount : Int32) (v_t_s : Nat → Int32) : va_W := [(a_t, .inr (9, [.ref a_t_s, .ref a_t_past, .ref a_t_aside, .int v_t_pasts, .ref a_t_text, .int v_t_typed, .int v_t_at, .int v_t_kind, .int v_t_from, .int v_t_value, .ref a_t_told, .ref a_t_bottoms, .ref a_t_planned, .int v_t_planLength, .int v_t_planAmount])), (a_t_s, .inl (k.2.1, 227, .inl v_t_s))]
def f_X9_edge (fuel : Nat) (v_t_s : Nat → Int32) (x1 : Int32) (x2 : Int32) : Option (Int32) := (f_X9_isEdge v_t_s x1).bind (fun q1 => if q1 = 0 then (some (-1000001)) else ((f_X9_in x2 0 4).bind (fun q3 => if q3 = 0 then (some (-1000001)) else ((f_X9_edgeDepth v_t_s x1).bind (fun q5 => if x2 = 0 then (some q5) else if x2 = 1 then ((f_X9_support fuel v_t_s x1).bind (fun q9 => some q9)) else if x2 = 2 then ((f_X9_skin fuel v_t_s x1 q5).bind (fun q12 => some q12)) else if x2 = 3 then ((f_X9_buoyancy v_t_s q5).bind (fun q15 => some q15)) else ((f_X9_wellBeside v_t_s x1).bind (fun q17 => some q17)))))))
theorem Y_X9_edge : mg_Y yX9_edge cX9_edge 4 (some .int) 2 := ⟨wm_1066, wm_1067, wm_11, wm_1068, ⟨by decide +kernel, by decide +kernel, by decide +kernel⟩, by decide⟩
set_option maxRecDepth 100000 in
set_option maxHeartbeats 4000000 in
theorem c_X9_edge (l : Launch) (k : mg_K) (a_t a_t_s a_t_past a_t_aside a_t_text a_t_told a_t_bottoms a_t_planned : Nat) (v_t_pasts : Int32) (v_t_typed : Int32) (v_t_at : Int32) (v_t_kind : Int32) (v_t_from : Int32) (v_t_value : Int32) (v_t_planLength : Int32) (v_t_planAmount : Int32) (v_t_s : Nat → Int32) (fuel : Nat) (x1 : Int32) (x2 : Int32) (q : Int32) (hf : f_X9_edge fuel v_t_s x1 x2 = some q) : mg_M l yX9_edge cX9_edge 4 (some .int) 4 k [.ref a_t, .int x1, .int x2] (w_X9_edge k a_t a_t_s a_t_past a_t_aside a_t_text a_t_told a_t_bottoms a_t_planned v_t_pasts v_t_typed v_t_at v_t_kind v_t_from v_t_value v_t_planLength v_t_planAmount v_t_s) (w_X9_edge k a_t a_t_s a_t_past a_t_aside a_t_text a_t_told a_t_bottoms a_t_planned v_t_pasts v_t_typed v_t_at v_t_kind v_t_from v_t_value v_t_planLength v_t_planAmount v_t_s) (some (.int q)) := by
  refine mg_Mi RX9 [(0, .ref a_t), (1, .int x1), (2, .int x2)] (by decide +kernel) rfl rfl (Nat.le_of_ble_eq_true rfl) ?_
  intro z A Q hl C E
  subst hl
  unfold f_X9_edge at hf
  refine mg_aload_n (pc := 0) C 0 dX9_edge_0 rfl rfl ?_
  refine mg_iload_n (pc := 1) C 1 dX9_edge_1 rfl rfl ?_
  obtain ⟨q1, h2, hf⟩ := mg_b hf
  refine mg_callV (pc := 2) C (w2 := w_X9_edge k a_t a_t_s a_t_past a_t_aside a_t_text a_t_told a_t_bottoms a_t_planned v_t_pasts v_t_typed v_t_at v_t_kind v_t_from v_t_value v_t_planLength v_t_planAmount v_t_s) (c_X9_isEdge z.2.1 k a_t a_t_s a_t_past a_t_aside a_t_text a_t_told a_t_bottoms a_t_planned v_t_pasts v_t_typed v_t_at v_t_kind v_t_from v_t_value v_t_planLength v_t_planAmount v_t_s x1 q1 h2) Y_X9_isEdge wm_1069 (by decide) rfl 0 rfl rfl rfl [0, 1] rfl (by decide) rfl [some 0, some 1] (by decide) rfl (Nat.le_of_ble_eq_true rfl) rfl dX9_edge_2 ?_
  refine mg_if_eq (pc := 5) (tgt := 17) C dX9_edge_5 (by decide) hf (fun hf => ?_) (fun hf => ?_)
  · refine mg_ldc (pc := 17) C wm_927 dX9_edge_17 ?_
    obtain rfl := Option.some.inj hf
    exact E _ _ dX9_edge_19
  · refine mg_iload_n (pc := 8) C 2 dX9_edge_8 rfl rfl ?_
    refine mg_iconst (pc := 9) C dX9_edge_9 (v := 0) (by decide) ?_
    refine mg_iconst (pc := 10) C dX9_edge_10 (v := 4) (by decide) ?_
    obtain ⟨q3, h4, hf⟩ := mg_b hf
    refine mg_callS (pc := 11) C (w2 := w_X9_edge k a_t a_t_s a_t_past a_t_aside a_t_text a_t_told a_t_bottoms a_t_planned v_t_pasts v_t_typed v_t_at v_t_kind v_t_from v_t_value v_t_planLength v_t_planAmount v_t_s) (c_X9_in z.2.1 k x2 0 4 q3 h4) Y_X9_in wm_924 (by decide) rfl [] rfl (by decide) rfl [none, none] (by decide) rfl (Nat.le_of_ble_eq_true rfl) rfl dX9_edge_11 ?_
    refine mg_if_ne (pc := 14) (tgt := 20) C dX9_edge_14 (by decide) hf (fun hf => ?_) (fun hf => ?_)
    · refine mg_aload_n (pc := 20) C 0 dX9_edge_20 rfl rfl ?_
      refine mg_iload_n (pc := 21) C 1 dX9_edge_21 rfl rfl ?_
      obtain ⟨q5, h6, hf⟩ := mg_b hf
      refine mg_callV (pc := 22) C (w2 := w_X9_edge k a_t a_t_s a_t_past a_t_aside a_t_text a_t_told a_t_bottoms a_t_planned v_t_pasts v_t_typed v_t_at v_t_kind v_t_from v_t_value v_t_planLength v_t_planAmount v_t_s) (c_X9_edgeDepth z.2.1 k a_t a_t_s a_t_past a_t_aside a_t_text a_t_told a_t_bottoms a_t_planned v_t_pasts v_t_typed v_t_at v_t_kind v_t_from v_t_value v_t_planLength v_t_planAmount v_t_s x1 q5 h6) Y_X9_edgeDepth wm_1085 (by decide) rfl 0 rfl rfl rfl [0, 1] rfl (by decide) rfl [some 0, some 1] (by decide) rfl (Nat.le_of_ble_eq_true rfl) rfl dX9_edge_22 ?_
      refine mg_istore_n (pc := 25) C (lv' := [(3, .int q5), (0, .ref a_t), (1, .int x1), (2, .int x2)]) dX9_edge_25 rfl (by decide) rfl ?_
      refine mg_iload_n (pc := 26) C 3 dX9_edge_26 rfl rfl ?_
      refine mg_cs hf (fun e7 hf => ?_) (fun e7 hf => ?_)
      · refine mg_tableIn (pc := 27) (off := 29) (tgt := 56) C 0 e7 dX9_edge_27 (by decide) (by decide) (by decide) (by decide) ?_
        refine mg_iload_n (pc := 56) C 0 dX9_edge_56 rfl rfl ?_
        obtain rfl := Option.some.inj hf
        exact E _ _ dX9_edge_57
      refine mg_cs hf (fun e8 hf => ?_) (fun e8 hf => ?_)
      · refine mg_tableIn (pc := 27) (off := 31) (tgt := 58) C 1 e8 dX9_edge_27 (by decide) (by decide) (by decide) (by decide) ?_
        refine mg_aload_n (pc := 58) C 1 dX9_edge_58 rfl rfl ?_
        refine mg_iload_n (pc := 59) C 2 dX9_edge_59 rfl rfl ?_
        obtain ⟨q9, h10, hf⟩ := mg_b hf
        refine mg_callV (pc := 60) C (w2 := w_X9_edge k a_t a_t_s a_t_past a_t_aside a_t_text a_t_told a_t_bottoms a_t_planned v_t_pasts v_t_typed v_t_at v_t_kind v_t_from v_t_value v_t_planLength v_t_planAmount v_t_s) (c_X9_support z.2.1 k a_t a_t_s a_t_past a_t_aside a_t_text a_t_told a_t_bottoms a_t_planned v_t_pasts v_t_typed v_t_at v_t_kind v_t_from v_t_value v_t_planLength v_t_planAmount v_t_s fuel x1 q9 h10) Y_X9_support wm_1093 (by decide) rfl 0 rfl rfl rfl [0, 1] rfl (by decide) rfl [some 0, some 1] (by decide) rfl (Nat.le_of_ble_eq_true rfl) rfl dX9_edge_60 ?_
        obtain rfl := Option.some.inj hf
        exact E _ _ dX9_edge_63
      refine mg_cs hf (fun e11 hf => ?_) (fun e11 hf => ?_)
      · refine mg_tableIn (pc := 27) (off := 37) (tgt := 64) C 2 e11 dX9_edge_27 (by decide) (by decide) (by decide) (by decide) ?_
        refine mg_aload_n (pc := 64) C 1 dX9_edge_64 rfl rfl ?_
        refine mg_iload_n (pc := 65) C 2 dX9_edge_65 rfl rfl ?_
        refine mg_iload_n (pc := 66) C 0 dX9_edge_66 rfl rfl ?_
        obtain ⟨q12, h13, hf⟩ := mg_b hf
        refine mg_callV (pc := 67) C (w2 := w_X9_edge k a_t a_t_s a_t_past a_t_aside a_t_text a_t_told a_t_bottoms a_t_planned v_t_pasts v_t_typed v_t_at v_t_kind v_t_from v_t_value v_t_planLength v_t_planAmount v_t_s) (c_X9_skin z.2.1 k a_t a_t_s a_t_past a_t_aside a_t_text a_t_told a_t_bottoms a_t_planned v_t_pasts v_t_typed v_t_at v_t_kind v_t_from v_t_value v_t_planLength v_t_planAmount v_t_s fuel x1 q5 q12 h13) Y_X9_skin wm_1104 (by decide) rfl 0 rfl rfl rfl [0, 1] rfl (by decide) rfl [some 0, some 1] (by decide) rfl (Nat.le_of_ble_eq_true rfl) rfl dX9_edge_67 ?_
        obtain rfl := Option.some.inj hf
        exact E _ _ dX9_edge_70
      refine mg_cs hf (fun e14 hf => ?_) (fun e14 hf => ?_)
      · refine mg_tableIn (pc := 27) (off := 44) (tgt := 71) C 3 e14 dX9_edge_27 (by decide) (by decide) (by decide) (by decide) ?_
        refine mg_aload_n (pc := 71) C 1 dX9_edge_71 rfl rfl ?_
        refine mg_iload_n (pc := 72) C 0 dX9_edge_72 rfl rfl ?_
        obtain ⟨q15, h16, hf⟩ := mg_b hf
        refine mg_callV (pc := 73) C (w2 := w_X9_edge k a_t a_t_s a_t_past a_t_aside a_t_text a_t_told a_t_bottoms a_t_planned v_t_pasts v_t_typed v_t_at v_t_kind v_t_from v_t_value v_t_planLength v_t_planAmount v_t_s) (c_X9_buoyancy z.2.1 k a_t a_t_s a_t_past a_t_aside a_t_text a_t_told a_t_bottoms a_t_planned v_t_pasts v_t_typed v_t_at v_t_kind v_t_from v_t_value v_t_planLength v_t_planAmount v_t_s q5 q15 h16) Y_X9_buoyancy wm_1112 (by decide) rfl 0 rfl rfl rfl [0, 1] rfl (by decide) rfl [some 0, some 1] (by decide) rfl (Nat.le_of_ble_eq_true rfl) rfl dX9_edge_73 ?_
        obtain rfl := Option.some.inj hf
        exact E _ _ dX9_edge_76
      refine mg_tableOut (pc := 27) (tgt := 77) C dX9_edge_27 (by have e7_ := mg_ne e7 (i := 0) (by decide); have e8_ := mg_ne e8 (i := 1) (by decide); have e11_ := mg_ne e11 (i := 2) (by decide); have e14_ := mg_ne e14 (i := 3) (by decide); omega) (by decide) ?_
      refine mg_aload_n (pc := 77) C 1 dX9_edge_77 rfl rfl ?_
      refine mg_iload_n (pc := 78) C 2 dX9_edge_78 rfl rfl ?_
      obtain ⟨q17, h18, hf⟩ := mg_b hf
      refine mg_callV (pc := 79) C (w2 := w_X9_edge k a_t a_t_s a_t_past a_t_aside a_t_text a_t_told a_t_bottoms a_t_planned v_t_pasts v_t_typed v_t_at v_t_kind v_t_from v_t_value v_t_planLength v_t_planAmount v_t_s) (c_X9_wellBeside z.2.1 k a_t a_t_s a_t_past a_t_aside a_t_text a_t_told a_t_bottoms a_t_planned v_t_pasts v_t_typed v_t_at v_t_kind v_t_from v_t_value v_t_planLength v_t_planAmount v_t_s x1 q17 h18) Y_X9_wellBeside wm_1097 (by decide) rfl 0 rfl rfl rfl [0, 1] rfl (by decide) rfl [some 0, some 1] (by decide) rfl (Nat.le_of_ble_eq_true rfl) rfl dX9_edge_79 ?_
      obtain rfl := Option.some.inj hf
      exact E _ _ dX9_edge_82
    · refine mg_ldc (pc := 17) C wm_927 dX9_edge_17 ?_
      obtain rfl := Option.some.inj hf
      exact E _ _ dX9_edge_19
abbrev w_X9_bottom (k : mg_K) (a_t a_t_s a_t_past a_t_aside a_t_text a_t_told a_t_bottoms a_t_planned : Nat) (v_t_pasts : Int32) (v_t_typed : Int32) (v_t_at : Int32) (v_t_kind : Int32) (v_t_from : Int32) (v_t_value : Int32) (v_t_planLength : Int32) (v_t_planAmount : Int32) (v_t_s : Nat → Int32) : va_W := [(a_t, .inr (9, [.ref a_t_s, .ref a_t_past, .ref a_t_aside, .int v_t_pasts, .ref a_t_text, .int v_t_typed, .int v_t_at, .int v_t_kind, .int v_t_from, .int v_t_value, .ref a_t_told, .ref a_t_bottoms, .ref a_t_planned, .int v_t_planLength, .int v_t_planAmount])), (a_t_s, .inl (k.2.1, 227, .inl v_t_s))]
def f_X9_bottom (v_t_s : Nat → Int32) (x1 : Int32) : Option (Int32) := (f_X9_isWell v_t_s x1).bind (fun q1 => if q1 = 0 then (some (-1000001)) else (if mg_ix (117 + x1) 227 = true then (some (v_t_s (Int32.toNatClampNeg (117 + x1)))) else none))
theorem Y_X9_bottom : mg_Y yX9_bottom cX9_bottom 2 (some .int) 1 := ⟨wm_1117, wm_1118, wm_11, wm_1119, ⟨by decide +kernel, by decide +kernel, by decide +kernel⟩, by decide⟩
set_option maxRecDepth 100000 in
set_option maxHeartbeats 4000000 in
theorem c_X9_bottom (l : Launch) (k : mg_K) (a_t a_t_s a_t_past a_t_aside a_t_text a_t_told a_t_bottoms a_t_planned : Nat) (v_t_pasts : Int32) (v_t_typed : Int32) (v_t_at : Int32) (v_t_kind : Int32) (v_t_from : Int32) (v_t_value : Int32) (v_t_planLength : Int32) (v_t_planAmount : Int32) (v_t_s : Nat → Int32) (x1 : Int32) (q : Int32) (hf : f_X9_bottom v_t_s x1 = some q) : mg_M l yX9_bottom cX9_bottom 2 (some .int) 4 k [.ref a_t, .int x1] (w_X9_bottom k a_t a_t_s a_t_past a_t_aside a_t_text a_t_told a_t_bottoms a_t_planned v_t_pasts v_t_typed v_t_at v_t_kind v_t_from v_t_value v_t_planLength v_t_planAmount v_t_s) (w_X9_bottom k a_t a_t_s a_t_past a_t_aside a_t_text a_t_told a_t_bottoms a_t_planned v_t_pasts v_t_typed v_t_at v_t_kind v_t_from v_t_value v_t_planLength v_t_planAmount v_t_s) (some (.int q)) := by
  refine mg_Mi RX9 [(0, .ref a_t), (1, .int x1)] (by decide +kernel) rfl rfl (Nat.le_of_ble_eq_true rfl) ?_
  intro z A Q hl C E
  subst hl
  unfold f_X9_bottom at hf
  refine mg_aload_n (pc := 0) C 0 dX9_bottom_0 rfl rfl ?_
  refine mg_iload_n (pc := 1) C 1 dX9_bottom_1 rfl rfl ?_
  obtain ⟨q1, h2, hf⟩ := mg_b hf
  refine mg_callV (pc := 2) C (w2 := w_X9_bottom k a_t a_t_s a_t_past a_t_aside a_t_text a_t_told a_t_bottoms a_t_planned v_t_pasts v_t_typed v_t_at v_t_kind v_t_from v_t_value v_t_planLength v_t_planAmount v_t_s) (c_X9_isWell z.2.1 k a_t a_t_s a_t_past a_t_aside a_t_text a_t_told a_t_bottoms a_t_planned v_t_pasts v_t_typed v_t_at v_t_kind v_t_from v_t_value v_t_planLength v_t_planAmount v_t_s x1 q1 h2) Y_X9_isWell wm_1120 (by decide) rfl 0 rfl rfl rfl [0, 1] rfl (by decide) rfl [some 0, some 1] (by decide) rfl (Nat.le_of_ble_eq_true rfl) rfl dX9_bottom_2 ?_
  refine mg_if_eq (pc := 5) (tgt := 20) C dX9_bottom_5 (by decide) hf (fun hf => ?_) (fun hf => ?_)
  · refine mg_ldc (pc := 20) C wm_927 dX9_bottom_20 ?_
    obtain rfl := Option.some.inj hf
    exact E _ _ dX9_bottom_22
  · refine mg_aload_n (pc := 8) C 0 dX9_bottom_8 rfl rfl ?_
    refine mg_get (pc := 9) C 0 rfl rfl inX9 0 (by decide) wm_874 rfl rfl dX9_bottom_9 ?_
    refine mg_bipush (pc := 12) C dX9_bottom_12 (v := 117) (by decide) ?_
    refine mg_iload_n (pc := 14) C 1 dX9_bottom_14 rfl rfl ?_
    refine mg_iadd (pc := 15) C dX9_bottom_15 ?_
    refine mg_iald (pc := 16) C 1 rfl dX9_bottom_16 hf (fun hf => ?_)
    refine mg_goto (pc := 17) (tgt := 22) C dX9_bottom_17 (by decide) ?_
    obtain rfl := Option.some.inj hf
    exact E _ _ dX9_bottom_22
abbrev w_X9_surplus (k : mg_K) (a_t a_t_s a_t_past a_t_aside a_t_text a_t_told a_t_bottoms a_t_planned : Nat) (v_t_pasts : Int32) (v_t_typed : Int32) (v_t_at : Int32) (v_t_kind : Int32) (v_t_from : Int32) (v_t_value : Int32) (v_t_planLength : Int32) (v_t_planAmount : Int32) (v_t_s : Nat → Int32) : va_W := [(a_t, .inr (9, [.ref a_t_s, .ref a_t_past, .ref a_t_aside, .int v_t_pasts, .ref a_t_text, .int v_t_typed, .int v_t_at, .int v_t_kind, .int v_t_from, .int v_t_value, .ref a_t_told, .ref a_t_bottoms, .ref a_t_planned, .int v_t_planLength, .int v_t_planAmount])), (a_t_s, .inl (k.2.1, 227, .inl v_t_s))]
def f_X9_surplus (fuel : Nat) (v_t_s : Nat → Int32) : Option (Int32) := (f_X9_over fuel v_t_s).bind (fun q1 => some q1)
theorem Y_X9_surplus : mg_Y yX9_surplus cX9_surplus 1 (some .int) 0 := ⟨wm_1125, wm_1126, wm_11, wm_1127, ⟨by decide +kernel, by decide +kernel, by decide +kernel⟩, by decide⟩
set_option maxRecDepth 100000 in
set_option maxHeartbeats 4000000 in
theorem c_X9_surplus (l : Launch) (k : mg_K) (a_t a_t_s a_t_past a_t_aside a_t_text a_t_told a_t_bottoms a_t_planned : Nat) (v_t_pasts : Int32) (v_t_typed : Int32) (v_t_at : Int32) (v_t_kind : Int32) (v_t_from : Int32) (v_t_value : Int32) (v_t_planLength : Int32) (v_t_planAmount : Int32) (v_t_s : Nat → Int32) (fuel : Nat) (q : Int32) (hf : f_X9_surplus fuel v_t_s = some q) : mg_M l yX9_surplus cX9_surplus 1 (some .int) 6 k [.ref a_t] (w_X9_surplus k a_t a_t_s a_t_past a_t_aside a_t_text a_t_told a_t_bottoms a_t_planned v_t_pasts v_t_typed v_t_at v_t_kind v_t_from v_t_value v_t_planLength v_t_planAmount v_t_s) (w_X9_surplus k a_t a_t_s a_t_past a_t_aside a_t_text a_t_told a_t_bottoms a_t_planned v_t_pasts v_t_typed v_t_at v_t_kind v_t_from v_t_value v_t_planLength v_t_planAmount v_t_s) (some (.int q)) := by
  refine mg_Mi RX9 [(0, .ref a_t)] (by decide +kernel) rfl rfl (Nat.le_of_ble_eq_true rfl) ?_
  intro z A Q hl C E
  subst hl
  unfold f_X9_surplus at hf
  refine mg_aload_n (pc := 0) C 0 dX9_surplus_0 rfl rfl ?_
  obtain ⟨q1, h2, hf⟩ := mg_b hf
  refine mg_callV (pc := 1) C (w2 := w_X9_surplus k a_t a_t_s a_t_past a_t_aside a_t_text a_t_told a_t_bottoms a_t_planned v_t_pasts v_t_typed v_t_at v_t_kind v_t_from v_t_value v_t_planLength v_t_planAmount v_t_s) (c_X9_over z.2.1 k a_t a_t_s a_t_past a_t_aside a_t_text a_t_told a_t_bottoms a_t_planned v_t_pasts v_t_typed v_t_at v_t_kind v_t_from v_t_value v_t_planLength v_t_planAmount v_t_s fuel q1 h2) Y_X9_over wm_1128 (by decide) rfl 0 rfl rfl rfl [0, 1] rfl (by decide) rfl [some 0, some 1] (by decide) rfl (Nat.le_of_ble_eq_true rfl) rfl dX9_surplus_1 ?_
  obtain rfl := Option.some.inj hf
  exact E _ _ dX9_surplus_4
abbrev w_X9_moment (k : mg_K) (a_t a_t_s a_t_past a_t_aside a_t_text a_t_told a_t_bottoms a_t_planned : Nat) (v_t_pasts : Int32) (v_t_typed : Int32) (v_t_at : Int32) (v_t_kind : Int32) (v_t_from : Int32) (v_t_value : Int32) (v_t_planLength : Int32) (v_t_planAmount : Int32) (v_t_s : Nat → Int32) : va_W := [(a_t, .inr (9, [.ref a_t_s, .ref a_t_past, .ref a_t_aside, .int v_t_pasts, .ref a_t_text, .int v_t_typed, .int v_t_at, .int v_t_kind, .int v_t_from, .int v_t_value, .ref a_t_told, .ref a_t_bottoms, .ref a_t_planned, .int v_t_planLength, .int v_t_planAmount])), (a_t_s, .inl (k.2.1, 227, .inl v_t_s))]
def f_X9_moment (fuel : Nat) (v_t_s : Nat → Int32) (x1 : Int32) : Option (Int32) := (f_X9_in x1 0 1).bind (fun q1 => if q1 = 0 then (some (-1000001)) else ((f_X9_momentOf fuel v_t_s x1).bind (fun q3 => some q3)))
theorem Y_X9_moment : mg_Y yX9_moment cX9_moment 2 (some .int) 1 := ⟨wm_1137, wm_1138, wm_11, wm_1139, ⟨by decide +kernel, by decide +kernel, by decide +kernel⟩, by decide⟩
set_option maxRecDepth 100000 in
set_option maxHeartbeats 4000000 in
theorem c_X9_moment (l : Launch) (k : mg_K) (a_t a_t_s a_t_past a_t_aside a_t_text a_t_told a_t_bottoms a_t_planned : Nat) (v_t_pasts : Int32) (v_t_typed : Int32) (v_t_at : Int32) (v_t_kind : Int32) (v_t_from : Int32) (v_t_value : Int32) (v_t_planLength : Int32) (v_t_planAmount : Int32) (v_t_s : Nat → Int32) (fuel : Nat) (x1 : Int32) (q : Int32) (hf : f_X9_moment fuel v_t_s x1 = some q) : mg_M l yX9_moment cX9_moment 2 (some .int) 6 k [.ref a_t, .int x1] (w_X9_moment k a_t a_t_s a_t_past a_t_aside a_t_text a_t_told a_t_bottoms a_t_planned v_t_pasts v_t_typed v_t_at v_t_kind v_t_from v_t_value v_t_planLength v_t_planAmount v_t_s) (w_X9_moment k a_t a_t_s a_t_past a_t_aside a_t_text a_t_told a_t_bottoms a_t_planned v_t_pasts v_t_typed v_t_at v_t_kind v_t_from v_t_value v_t_planLength v_t_planAmount v_t_s) (some (.int q)) := by
  refine mg_Mi RX9 [(0, .ref a_t), (1, .int x1)] (by decide +kernel) rfl rfl (Nat.le_of_ble_eq_true rfl) ?_
  intro z A Q hl C E
  subst hl
  unfold f_X9_moment at hf
  refine mg_iload_n (pc := 0) C 1 dX9_moment_0 rfl rfl ?_
  refine mg_iconst (pc := 1) C dX9_moment_1 (v := 0) (by decide) ?_
  refine mg_iconst (pc := 2) C dX9_moment_2 (v := 1) (by decide) ?_
  obtain ⟨q1, h2, hf⟩ := mg_b hf
  refine mg_callS (pc := 3) C (w2 := w_X9_moment k a_t a_t_s a_t_past a_t_aside a_t_text a_t_told a_t_bottoms a_t_planned v_t_pasts v_t_typed v_t_at v_t_kind v_t_from v_t_value v_t_planLength v_t_planAmount v_t_s) (c_X9_in z.2.1 k x1 0 1 q1 h2) Y_X9_in wm_924 (by decide) rfl [] rfl (by decide) rfl [none, none] (by decide) rfl (Nat.le_of_ble_eq_true rfl) rfl dX9_moment_3 ?_
  refine mg_if_eq (pc := 6) (tgt := 17) C dX9_moment_6 (by decide) hf (fun hf => ?_) (fun hf => ?_)
  · refine mg_ldc (pc := 17) C wm_927 dX9_moment_17 ?_
    obtain rfl := Option.some.inj hf
    exact E _ _ dX9_moment_19
  · refine mg_aload_n (pc := 9) C 0 dX9_moment_9 rfl rfl ?_
    refine mg_iload_n (pc := 10) C 1 dX9_moment_10 rfl rfl ?_
    obtain ⟨q3, h4, hf⟩ := mg_b hf
    refine mg_callV (pc := 11) C (w2 := w_X9_moment k a_t a_t_s a_t_past a_t_aside a_t_text a_t_told a_t_bottoms a_t_planned v_t_pasts v_t_typed v_t_at v_t_kind v_t_from v_t_value v_t_planLength v_t_planAmount v_t_s) (c_X9_momentOf z.2.1 k a_t a_t_s a_t_past a_t_aside a_t_text a_t_told a_t_bottoms a_t_planned v_t_pasts v_t_typed v_t_at v_t_kind v_t_from v_t_value v_t_planLength v_t_planAmount v_t_s fuel x1 q3 h4) Y_X9_momentOf wm_1140 (by decide) rfl 0 rfl rfl rfl [0, 1] rfl (by decide) rfl [some 0, some 1] (by decide) rfl (Nat.le_of_ble_eq_true rfl) rfl dX9_moment_11 ?_
    refine mg_goto (pc := 14) (tgt := 19) C dX9_moment_14 (by decide) ?_
    obtain rfl := Option.some.inj hf
    exact E _ _ dX9_moment_19
abbrev w_X9_nextStep (k : mg_K) (a_t a_t_s a_t_past a_t_aside a_t_text a_t_told a_t_bottoms a_t_planned : Nat) (v_t_pasts : Int32) (v_t_typed : Int32) (v_t_at : Int32) (v_t_kind : Int32) (v_t_from : Int32) (v_t_value : Int32) (v_t_planLength : Int32) (v_t_planAmount : Int32) (v_t_s : Nat → Int32) : va_W := [(a_t, .inr (9, [.ref a_t_s, .ref a_t_past, .ref a_t_aside, .int v_t_pasts, .ref a_t_text, .int v_t_typed, .int v_t_at, .int v_t_kind, .int v_t_from, .int v_t_value, .ref a_t_told, .ref a_t_bottoms, .ref a_t_planned, .int v_t_planLength, .int v_t_planAmount])), (a_t_s, .inl (k.2.1, 227, .inl v_t_s))]
def f_X9_nextStep (fuel : Nat) (v_t_s : Nat → Int32) : Option (Int32) := (f_X9_next fuel v_t_s).bind (fun q1 => some q1)
theorem Y_X9_nextStep : mg_Y yX9_nextStep cX9_nextStep 1 (some .int) 0 := ⟨wm_1145, wm_1146, wm_11, wm_1147, ⟨by decide +kernel, by decide +kernel, by decide +kernel⟩, by decide⟩
set_option maxRecDepth 100000 in
set_option maxHeartbeats 4000000 in
theorem c_X9_nextStep (l : Launch) (k : mg_K) (a_t a_t_s a_t_past a_t_aside a_t_text a_t_told a_t_bottoms a_t_planned : Nat) (v_t_pasts : Int32) (v_t_typed : Int32) (v_t_at : Int32) (v_t_kind : Int32) (v_t_from : Int32) (v_t_value : Int32) (v_t_planLength : Int32) (v_t_planAmount : Int32) (v_t_s : Nat → Int32) (fuel : Nat) (q : Int32) (hf : f_X9_nextStep fuel v_t_s = some q) : mg_M l yX9_nextStep cX9_nextStep 1 (some .int) 8 k [.ref a_t] (w_X9_nextStep k a_t a_t_s a_t_past a_t_aside a_t_text a_t_told a_t_bottoms a_t_planned v_t_pasts v_t_typed v_t_at v_t_kind v_t_from v_t_value v_t_planLength v_t_planAmount v_t_s) (w_X9_nextStep k a_t a_t_s a_t_past a_t_aside a_t_text a_t_told a_t_bottoms a_t_planned v_t_pasts v_t_typed v_t_at v_t_kind v_t_from v_t_value v_t_planLength v_t_planAmount v_t_s) (some (.int q)) := by
  refine mg_Mi RX9 [(0, .ref a_t)] (by decide +kernel) rfl rfl (Nat.le_of_ble_eq_true rfl) ?_
  intro z A Q hl C E
  subst hl
  unfold f_X9_nextStep at hf
  refine mg_aload_n (pc := 0) C 0 dX9_nextStep_0 rfl rfl ?_
  obtain ⟨q1, h2, hf⟩ := mg_b hf
  refine mg_callV (pc := 1) C (w2 := w_X9_nextStep k a_t a_t_s a_t_past a_t_aside a_t_text a_t_told a_t_bottoms a_t_planned v_t_pasts v_t_typed v_t_at v_t_kind v_t_from v_t_value v_t_planLength v_t_planAmount v_t_s) (c_X9_next z.2.1 k a_t a_t_s a_t_past a_t_aside a_t_text a_t_told a_t_bottoms a_t_planned v_t_pasts v_t_typed v_t_at v_t_kind v_t_from v_t_value v_t_planLength v_t_planAmount v_t_s fuel q1 h2) Y_X9_next wm_1148 (by decide) rfl 0 rfl rfl rfl [0, 1] rfl (by decide) rfl [some 0, some 1] (by decide) rfl (Nat.le_of_ble_eq_true rfl) rfl dX9_nextStep_1 ?_
  obtain rfl := Option.some.inj hf
  exact E _ _ dX9_nextStep_4
abbrev w_X9_sideResistance (k : mg_K) (a_t a_t_s a_t_past a_t_aside a_t_text a_t_told a_t_bottoms a_t_planned : Nat) (v_t_pasts : Int32) (v_t_typed : Int32) (v_t_at : Int32) (v_t_kind : Int32) (v_t_from : Int32) (v_t_value : Int32) (v_t_planLength : Int32) (v_t_planAmount : Int32) (v_t_s : Nat → Int32) : va_W := [(a_t, .inr (9, [.ref a_t_s, .ref a_t_past, .ref a_t_aside, .int v_t_pasts, .ref a_t_text, .int v_t_typed, .int v_t_at, .int v_t_kind, .int v_t_from, .int v_t_value, .ref a_t_told, .ref a_t_bottoms, .ref a_t_planned, .int v_t_planLength, .int v_t_planAmount])), (a_t_s, .inl (k.2.1, 227, .inl v_t_s))]
def f_X9_sideResistance_L16 (fuel : Nat) (v_t_s : Nat → Int32) (x1 : Int32) : Nat → Int32 → Int32 → Option (Int32 × Int32)
  | 0, _, _ => none
  | n_ + 1, x2, x3 => (f_X9_cells v_t_s).bind (fun q3 => if q3 ≤ x3 then (some ((x2, x3))) else ((f_X9_isOn v_t_s x3 x1).bind (fun q5 => if q5 = 0 then (f_X9_sideResistance_L16 fuel v_t_s x1 n_ (x2 + 0) (x3 + 1)) else ((f_X9_resistance fuel v_t_s x3).bind (fun q7 => f_X9_sideResistance_L16 fuel v_t_s x1 n_ (x2 + q7) (x3 + 1))))))
def f_X9_sideResistance (fuel : Nat) (v_t_s : Nat → Int32) (x1 : Int32) : Option (Int32) := (f_X9_in x1 0 3).bind (fun q1 => if q1 = 0 then (some (-1000001)) else ((f_X9_sideResistance_L16 fuel v_t_s x1 fuel 0 0).bind (fun q9 => some q9.1)))
theorem Y_X9_sideResistance : mg_Y yX9_sideResistance cX9_sideResistance 4 (some .int) 1 := ⟨wm_1160, wm_1161, wm_11, wm_1162, ⟨by decide +kernel, by decide +kernel, by decide +kernel⟩, by decide⟩
set_option maxRecDepth 100000 in
set_option maxHeartbeats 4000000 in
theorem c_X9_sideResistance (l : Launch) (k : mg_K) (a_t a_t_s a_t_past a_t_aside a_t_text a_t_told a_t_bottoms a_t_planned : Nat) (v_t_pasts : Int32) (v_t_typed : Int32) (v_t_at : Int32) (v_t_kind : Int32) (v_t_from : Int32) (v_t_value : Int32) (v_t_planLength : Int32) (v_t_planAmount : Int32) (v_t_s : Nat → Int32) (fuel : Nat) (x1 : Int32) (q : Int32) (hf : f_X9_sideResistance fuel v_t_s x1 = some q) : mg_M l yX9_sideResistance cX9_sideResistance 4 (some .int) 5 k [.ref a_t, .int x1] (w_X9_sideResistance k a_t a_t_s a_t_past a_t_aside a_t_text a_t_told a_t_bottoms a_t_planned v_t_pasts v_t_typed v_t_at v_t_kind v_t_from v_t_value v_t_planLength v_t_planAmount v_t_s) (w_X9_sideResistance k a_t a_t_s a_t_past a_t_aside a_t_text a_t_told a_t_bottoms a_t_planned v_t_pasts v_t_typed v_t_at v_t_kind v_t_from v_t_value v_t_planLength v_t_planAmount v_t_s) (some (.int q)) := by
  refine mg_Mi RX9 [(0, .ref a_t), (1, .int x1)] (by decide +kernel) rfl rfl (Nat.le_of_ble_eq_true rfl) ?_
  intro z A Q hl C E
  subst hl
  unfold f_X9_sideResistance at hf
  have L16 : ∀ (x1 : Int32) (n_ : Nat) (x2 : Int32) (x3 : Int32) (q_ : Int32 × Int32), f_X9_sideResistance_L16 fuel v_t_s x1 n_ x2 x3 = some q_ → (mg z k A 4 0 0 Q (w_X9_sideResistance k a_t a_t_s a_t_past a_t_aside a_t_text a_t_told a_t_bottoms a_t_planned v_t_pasts v_t_typed v_t_at v_t_kind v_t_from v_t_value v_t_planLength v_t_planAmount v_t_s) [(2, .int q_.1)] 51 []) → mg z k A 4 0 0 Q (w_X9_sideResistance k a_t a_t_s a_t_past a_t_aside a_t_text a_t_told a_t_bottoms a_t_planned v_t_pasts v_t_typed v_t_at v_t_kind v_t_from v_t_value v_t_planLength v_t_planAmount v_t_s) [(0, .ref a_t), (1, .int x1), (2, .int x2), (3, .int x3)] 16 [] := by
    intro x1 n_
    induction n_ with
    | zero => intro x2 x3 q_ hf; exact mg_no (show none = some q_ from hf)
    | succ n_ ih =>
      intro x2 x3 q_ hf X0
      rw [f_X9_sideResistance_L16] at hf
      refine mg_iload_n (pc := 16) C 3 dX9_sideResistance_16 rfl rfl ?_
      refine mg_aload_n (pc := 17) C 0 dX9_sideResistance_17 rfl rfl ?_
      obtain ⟨q3, h4, hf⟩ := mg_b hf
      refine mg_callV (pc := 18) C (w2 := w_X9_sideResistance k a_t a_t_s a_t_past a_t_aside a_t_text a_t_told a_t_bottoms a_t_planned v_t_pasts v_t_typed v_t_at v_t_kind v_t_from v_t_value v_t_planLength v_t_planAmount v_t_s) (c_X9_cells z.2.1 k a_t a_t_s a_t_past a_t_aside a_t_text a_t_told a_t_bottoms a_t_planned v_t_pasts v_t_typed v_t_at v_t_kind v_t_from v_t_value v_t_planLength v_t_planAmount v_t_s q3 h4) Y_X9_cells wm_1061 (by decide) rfl 0 rfl rfl rfl [0, 1] rfl (by decide) rfl [some 0, some 1] (by decide) rfl (Nat.le_of_ble_eq_true rfl) rfl dX9_sideResistance_18 ?_
      refine mg_icmp_ge (pc := 21) (tgt := 51) C dX9_sideResistance_21 (by decide) hf (fun hf => ?_) (fun hf => ?_)
      · obtain rfl := Option.some.inj hf
        refine mg_lv [2] rfl ?_
        exact X0
      · refine mg_iload_n (pc := 24) C 2 dX9_sideResistance_24 rfl rfl ?_
        refine mg_aload_n (pc := 25) C 0 dX9_sideResistance_25 rfl rfl ?_
        refine mg_iload_n (pc := 26) C 3 dX9_sideResistance_26 rfl rfl ?_
        refine mg_iload_n (pc := 27) C 1 dX9_sideResistance_27 rfl rfl ?_
        obtain ⟨q5, h6, hf⟩ := mg_b hf
        refine mg_callV (pc := 28) C (w2 := w_X9_sideResistance k a_t a_t_s a_t_past a_t_aside a_t_text a_t_told a_t_bottoms a_t_planned v_t_pasts v_t_typed v_t_at v_t_kind v_t_from v_t_value v_t_planLength v_t_planAmount v_t_s) (c_X9_isOn z.2.1 k a_t a_t_s a_t_past a_t_aside a_t_text a_t_told a_t_bottoms a_t_planned v_t_pasts v_t_typed v_t_at v_t_kind v_t_from v_t_value v_t_planLength v_t_planAmount v_t_s x3 x1 q5 h6) Y_X9_isOn wm_1073 (by decide) rfl 0 rfl rfl rfl [0, 1] rfl (by decide) rfl [some 0, some 1] (by decide) rfl (Nat.le_of_ble_eq_true rfl) rfl dX9_sideResistance_28 ?_
        refine mg_if_eq (pc := 31) (tgt := 42) C dX9_sideResistance_31 (by decide) hf (fun hf => ?_) (fun hf => ?_)
        · refine mg_iconst (pc := 42) C dX9_sideResistance_42 (v := 0) (by decide) ?_
          refine mg_iadd (pc := 43) C dX9_sideResistance_43 ?_
          refine mg_istore_n (pc := 44) C (lv' := [(2, .int (x2 + 0)), (0, .ref a_t), (1, .int x1), (3, .int x3)]) dX9_sideResistance_44 rfl (by decide) rfl ?_
          refine mg_iinc (pc := 45) C (c := 1) (lv' := [(3, .int (x3 + 1)), (2, .int (x2 + 0)), (0, .ref a_t), (1, .int x1)]) 3 dX9_sideResistance_45 rfl (by decide) (by decide) rfl ?_
          refine mg_goto (pc := 48) (tgt := 16) C dX9_sideResistance_48 (by decide) ?_
          refine mg_lv [2, 3, 1, 0] rfl ?_
          exact ih (x2 + 0) (x3 + 1) _ hf X0
        · refine mg_aload_n (pc := 34) C 0 dX9_sideResistance_34 rfl rfl ?_
          refine mg_iload_n (pc := 35) C 3 dX9_sideResistance_35 rfl rfl ?_
          obtain ⟨q7, h8, hf⟩ := mg_b hf
          refine mg_callV (pc := 36) C (w2 := w_X9_sideResistance k a_t a_t_s a_t_past a_t_aside a_t_text a_t_told a_t_bottoms a_t_planned v_t_pasts v_t_typed v_t_at v_t_kind v_t_from v_t_value v_t_planLength v_t_planAmount v_t_s) (c_X9_resistance z.2.1 k a_t a_t_s a_t_past a_t_aside a_t_text a_t_told a_t_bottoms a_t_planned v_t_pasts v_t_typed v_t_at v_t_kind v_t_from v_t_value v_t_planLength v_t_planAmount v_t_s fuel x3 q7 h8) Y_X9_resistance wm_1132 (by decide) rfl 0 rfl rfl rfl [0, 1] rfl (by decide) rfl [some 0, some 1] (by decide) rfl (Nat.le_of_ble_eq_true rfl) rfl dX9_sideResistance_36 ?_
          refine mg_goto (pc := 39) (tgt := 43) C dX9_sideResistance_39 (by decide) ?_
          refine mg_iadd (pc := 43) C dX9_sideResistance_43 ?_
          refine mg_istore_n (pc := 44) C (lv' := [(2, .int (x2 + q7)), (0, .ref a_t), (1, .int x1), (3, .int x3)]) dX9_sideResistance_44 rfl (by decide) rfl ?_
          refine mg_iinc (pc := 45) C (c := 1) (lv' := [(3, .int (x3 + 1)), (2, .int (x2 + q7)), (0, .ref a_t), (1, .int x1)]) 3 dX9_sideResistance_45 rfl (by decide) (by decide) rfl ?_
          refine mg_goto (pc := 48) (tgt := 16) C dX9_sideResistance_48 (by decide) ?_
          refine mg_lv [2, 3, 1, 0] rfl ?_
          exact ih (x2 + q7) (x3 + 1) _ hf X0
  refine mg_iload_n (pc := 0) C 1 dX9_sideResistance_0 rfl rfl ?_
  refine mg_iconst (pc := 1) C dX9_sideResistance_1 (v := 0) (by decide) ?_
  refine mg_iconst (pc := 2) C dX9_sideResistance_2 (v := 3) (by decide) ?_
  obtain ⟨q1, h2, hf⟩ := mg_b hf
  refine mg_callS (pc := 3) C (w2 := w_X9_sideResistance k a_t a_t_s a_t_past a_t_aside a_t_text a_t_told a_t_bottoms a_t_planned v_t_pasts v_t_typed v_t_at v_t_kind v_t_from v_t_value v_t_planLength v_t_planAmount v_t_s) (c_X9_in z.2.1 k x1 0 3 q1 h2) Y_X9_in wm_924 (by decide) rfl [] rfl (by decide) rfl [none, none] (by decide) rfl (Nat.le_of_ble_eq_true rfl) rfl dX9_sideResistance_3 ?_
  refine mg_if_ne (pc := 6) (tgt := 12) C dX9_sideResistance_6 (by decide) hf (fun hf => ?_) (fun hf => ?_)
  · refine mg_iconst (pc := 12) C dX9_sideResistance_12 (v := 0) (by decide) ?_
    refine mg_istore_n (pc := 13) C (lv' := [(2, .int 0), (0, .ref a_t), (1, .int x1)]) dX9_sideResistance_13 rfl (by decide) rfl ?_
    refine mg_iconst (pc := 14) C dX9_sideResistance_14 (v := 0) (by decide) ?_
    refine mg_istore_n (pc := 15) C (lv' := [(3, .int 0), (2, .int 0), (0, .ref a_t), (1, .int x1)]) dX9_sideResistance_15 rfl (by decide) rfl ?_
    obtain ⟨q9, h10, hf⟩ := mg_b hf
    refine mg_lv [2, 3, 1, 0] rfl ?_
    refine L16 x1 fuel 0 0 q9 h10 ?_
    refine mg_iload_n (pc := 51) C 0 dX9_sideResistance_51 rfl rfl ?_
    obtain rfl := Option.some.inj hf
    exact E _ _ dX9_sideResistance_52
  · refine mg_ldc (pc := 9) C wm_927 dX9_sideResistance_9 ?_
    obtain rfl := Option.some.inj hf
    exact E _ _ dX9_sideResistance_11
abbrev w_X9_stuckDepth (k : mg_K) (a_t a_t_s a_t_past a_t_aside a_t_text a_t_told a_t_bottoms a_t_planned : Nat) (v_t_pasts : Int32) (v_t_typed : Int32) (v_t_at : Int32) (v_t_kind : Int32) (v_t_from : Int32) (v_t_value : Int32) (v_t_planLength : Int32) (v_t_planAmount : Int32) (v_t_s : Nat → Int32) : va_W := [(a_t, .inr (9, [.ref a_t_s, .ref a_t_past, .ref a_t_aside, .int v_t_pasts, .ref a_t_text, .int v_t_typed, .int v_t_at, .int v_t_kind, .int v_t_from, .int v_t_value, .ref a_t_told, .ref a_t_bottoms, .ref a_t_planned, .int v_t_planLength, .int v_t_planAmount])), (a_t_s, .inl (k.2.1, 227, .inl v_t_s))]
def f_X9_stuckDepth_L18 (fuel : Nat) (v_t_s : Nat → Int32) (x1 : Int32) : Nat → Int32 → Int32 → Option (Int32 × Int32)
  | 0, _, _ => none
  | n_ + 1, x2, x3 => (f_X9_cells v_t_s).bind (fun q1 => if q1 ≤ x3 then (some ((x2, x3))) else ((f_X9_isEdge v_t_s x3).bind (fun q3 => if q3 = 0 then (f_X9_stuckDepth_L18 fuel v_t_s x1 n_ (x2 + 0) (x3 + 1)) else ((f_X9_skin fuel v_t_s x3 x1).bind (fun q5 => (f_X9_buoyancy v_t_s x1).bind (fun q7 => f_X9_stuckDepth_L18 fuel v_t_s x1 n_ (x2 + (q5 + q7)) (x3 + 1)))))))
def f_X9_stuckDepth_L7 (fuel : Nat) (v_t_s : Nat → Int32) : Nat → Int32 → Option (Nat × Int32)
  | 0, _ => none
  | n_ + 1, x1 => if 200 < x1 then (some (0, x1)) else ((f_X9_stuckDepth_L18 fuel v_t_s x1 fuel 0 0).bind (fun q9 => (f_X9_loadOf fuel v_t_s).bind (fun q11 => if q9.1 < q11 then (f_X9_stuckDepth_L7 fuel v_t_s n_ (x1 + 1)) else (some (1, x1)))))
def f_X9_stuckDepth (fuel : Nat) (v_t_s : Nat → Int32) : Option (Int32) := (f_X9_stuckDepth_L7 fuel v_t_s fuel (v_t_s 2)).bind (fun q13 => if q13.1 = 0 then (some (-1000009)) else (some q13.2))
theorem Y_X9_stuckDepth : mg_Y yX9_stuckDepth cX9_stuckDepth 4 (some .int) 0 := ⟨wm_1164, wm_1165, wm_11, wm_1166, ⟨by decide +kernel, by decide +kernel, by decide +kernel⟩, by decide⟩
set_option maxRecDepth 100000 in
set_option maxHeartbeats 4000000 in
theorem c_X9_stuckDepth (l : Launch) (k : mg_K) (a_t a_t_s a_t_past a_t_aside a_t_text a_t_told a_t_bottoms a_t_planned : Nat) (v_t_pasts : Int32) (v_t_typed : Int32) (v_t_at : Int32) (v_t_kind : Int32) (v_t_from : Int32) (v_t_value : Int32) (v_t_planLength : Int32) (v_t_planAmount : Int32) (v_t_s : Nat → Int32) (fuel : Nat) (q : Int32) (hf : f_X9_stuckDepth fuel v_t_s = some q) : mg_M l yX9_stuckDepth cX9_stuckDepth 4 (some .int) 3 k [.ref a_t] (w_X9_stuckDepth k a_t a_t_s a_t_past a_t_aside a_t_text a_t_told a_t_bottoms a_t_planned v_t_pasts v_t_typed v_t_at v_t_kind v_t_from v_t_value v_t_planLength v_t_planAmount v_t_s) (w_X9_stuckDepth k a_t a_t_s a_t_past a_t_aside a_t_text a_t_told a_t_bottoms a_t_planned v_t_pasts v_t_typed v_t_at v_t_kind v_t_from v_t_value v_t_planLength v_t_planAmount v_t_s) (some (.int q)) := by
  refine mg_Mi RX9 [(0, .ref a_t)] (by decide +kernel) rfl rfl (Nat.le_of_ble_eq_true rfl) ?_
  intro z A Q hl C E
  subst hl
  unfold f_X9_stuckDepth at hf
  have L7 : ∀ (n_ : Nat) (x1 : Int32) (q_ : Nat × Int32), f_X9_stuckDepth_L7 fuel v_t_s n_ x1 = some q_ → (q_.1 = 0 → mg z k A 4 0 0 Q (w_X9_stuckDepth k a_t a_t_s a_t_past a_t_aside a_t_text a_t_told a_t_bottoms a_t_planned v_t_pasts v_t_typed v_t_at v_t_kind v_t_from v_t_value v_t_planLength v_t_planAmount v_t_s) [] 75 []) → (q_.1 = 1 → mg z k A 4 0 0 Q (w_X9_stuckDepth k a_t a_t_s a_t_past a_t_aside a_t_text a_t_told a_t_bottoms a_t_planned v_t_pasts v_t_typed v_t_at v_t_kind v_t_from v_t_value v_t_planLength v_t_planAmount v_t_s) [(1, .int q_.2)] 67 []) → mg z k A 4 0 0 Q (w_X9_stuckDepth k a_t a_t_s a_t_past a_t_aside a_t_text a_t_told a_t_bottoms a_t_planned v_t_pasts v_t_typed v_t_at v_t_kind v_t_from v_t_value v_t_planLength v_t_planAmount v_t_s) [(0, .ref a_t), (1, .int x1)] 7 [] := by
    intro n_
    induction n_ with
    | zero => intro x1 q_ hf; exact mg_no (show none = some q_ from hf)
    | succ n_ ih =>
      intro x1 q_ hf X0 X1
      rw [f_X9_stuckDepth_L7] at hf
      have L18 : ∀ (x1 : Int32) (n_ : Nat) (x2 : Int32) (x3 : Int32) (q_ : Int32 × Int32), f_X9_stuckDepth_L18 fuel v_t_s x1 n_ x2 x3 = some q_ → (mg z k A 4 0 0 Q (w_X9_stuckDepth k a_t a_t_s a_t_past a_t_aside a_t_text a_t_told a_t_bottoms a_t_planned v_t_pasts v_t_typed v_t_at v_t_kind v_t_from v_t_value v_t_planLength v_t_planAmount v_t_s) [(0, .ref a_t), (1, .int x1), (2, .int q_.1)] 59 []) → mg z k A 4 0 0 Q (w_X9_stuckDepth k a_t a_t_s a_t_past a_t_aside a_t_text a_t_told a_t_bottoms a_t_planned v_t_pasts v_t_typed v_t_at v_t_kind v_t_from v_t_value v_t_planLength v_t_planAmount v_t_s) [(0, .ref a_t), (1, .int x1), (2, .int x2), (3, .int x3)] 18 [] := by
        intro x1 n_
        induction n_ with
        | zero => intro x2 x3 q_ hf; exact mg_no (show none = some q_ from hf)
        | succ n_ ih =>
          intro x2 x3 q_ hf X0
          rw [f_X9_stuckDepth_L18] at hf
          refine mg_iload_n (pc := 18) C 3 dX9_stuckDepth_18 rfl rfl ?_
          refine mg_aload_n (pc := 19) C 0 dX9_stuckDepth_19 rfl rfl ?_
          obtain ⟨q1, h2, hf⟩ := mg_b hf
          refine mg_callV (pc := 20) C (w2 := w_X9_stuckDepth k a_t a_t_s a_t_past a_t_aside a_t_text a_t_told a_t_bottoms a_t_planned v_t_pasts v_t_typed v_t_at v_t_kind v_t_from v_t_value v_t_planLength v_t_planAmount v_t_s) (c_X9_cells z.2.1 k a_t a_t_s a_t_past a_t_aside a_t_text a_t_told a_t_bottoms a_t_planned v_t_pasts v_t_typed v_t_at v_t_kind v_t_from v_t_value v_t_planLength v_t_planAmount v_t_s q1 h2) Y_X9_cells wm_1061 (by decide) rfl 0 rfl rfl rfl [0, 1] rfl (by decide) rfl [some 0, some 1] (by decide) rfl (Nat.le_of_ble_eq_true rfl) rfl dX9_stuckDepth_20 ?_
          refine mg_icmp_ge (pc := 23) (tgt := 59) C dX9_stuckDepth_23 (by decide) hf (fun hf => ?_) (fun hf => ?_)
          · obtain rfl := Option.some.inj hf
            refine mg_lv [0, 1, 2] rfl ?_
            exact X0
          · refine mg_iload_n (pc := 26) C 2 dX9_stuckDepth_26 rfl rfl ?_
            refine mg_aload_n (pc := 27) C 0 dX9_stuckDepth_27 rfl rfl ?_
            refine mg_iload_n (pc := 28) C 3 dX9_stuckDepth_28 rfl rfl ?_
            obtain ⟨q3, h4, hf⟩ := mg_b hf
            refine mg_callV (pc := 29) C (w2 := w_X9_stuckDepth k a_t a_t_s a_t_past a_t_aside a_t_text a_t_told a_t_bottoms a_t_planned v_t_pasts v_t_typed v_t_at v_t_kind v_t_from v_t_value v_t_planLength v_t_planAmount v_t_s) (c_X9_isEdge z.2.1 k a_t a_t_s a_t_past a_t_aside a_t_text a_t_told a_t_bottoms a_t_planned v_t_pasts v_t_typed v_t_at v_t_kind v_t_from v_t_value v_t_planLength v_t_planAmount v_t_s x3 q3 h4) Y_X9_isEdge wm_1069 (by decide) rfl 0 rfl rfl rfl [0, 1] rfl (by decide) rfl [some 0, some 1] (by decide) rfl (Nat.le_of_ble_eq_true rfl) rfl dX9_stuckDepth_29 ?_
            refine mg_if_eq (pc := 32) (tgt := 50) C dX9_stuckDepth_32 (by decide) hf (fun hf => ?_) (fun hf => ?_)
            · refine mg_iconst (pc := 50) C dX9_stuckDepth_50 (v := 0) (by decide) ?_
              refine mg_iadd (pc := 51) C dX9_stuckDepth_51 ?_
              refine mg_istore_n (pc := 52) C (lv' := [(2, .int (x2 + 0)), (0, .ref a_t), (1, .int x1), (3, .int x3)]) dX9_stuckDepth_52 rfl (by decide) rfl ?_
              refine mg_iinc (pc := 53) C (c := 1) (lv' := [(3, .int (x3 + 1)), (2, .int (x2 + 0)), (0, .ref a_t), (1, .int x1)]) 3 dX9_stuckDepth_53 rfl (by decide) (by decide) rfl ?_
              refine mg_goto (pc := 56) (tgt := 18) C dX9_stuckDepth_56 (by decide) ?_
              refine mg_lv [2, 3, 1, 0] rfl ?_
              exact ih (x2 + 0) (x3 + 1) _ hf X0
            · refine mg_aload_n (pc := 35) C 0 dX9_stuckDepth_35 rfl rfl ?_
              refine mg_iload_n (pc := 36) C 3 dX9_stuckDepth_36 rfl rfl ?_
              refine mg_iload_n (pc := 37) C 1 dX9_stuckDepth_37 rfl rfl ?_
              obtain ⟨q5, h6, hf⟩ := mg_b hf
              refine mg_callV (pc := 38) C (w2 := w_X9_stuckDepth k a_t a_t_s a_t_past a_t_aside a_t_text a_t_told a_t_bottoms a_t_planned v_t_pasts v_t_typed v_t_at v_t_kind v_t_from v_t_value v_t_planLength v_t_planAmount v_t_s) (c_X9_skin z.2.1 k a_t a_t_s a_t_past a_t_aside a_t_text a_t_told a_t_bottoms a_t_planned v_t_pasts v_t_typed v_t_at v_t_kind v_t_from v_t_value v_t_planLength v_t_planAmount v_t_s fuel x3 x1 q5 h6) Y_X9_skin wm_1104 (by decide) rfl 0 rfl rfl rfl [0, 1] rfl (by decide) rfl [some 0, some 1] (by decide) rfl (Nat.le_of_ble_eq_true rfl) rfl dX9_stuckDepth_38 ?_
              refine mg_aload_n (pc := 41) C 0 dX9_stuckDepth_41 rfl rfl ?_
              refine mg_iload_n (pc := 42) C 1 dX9_stuckDepth_42 rfl rfl ?_
              obtain ⟨q7, h8, hf⟩ := mg_b hf
              refine mg_callV (pc := 43) C (w2 := w_X9_stuckDepth k a_t a_t_s a_t_past a_t_aside a_t_text a_t_told a_t_bottoms a_t_planned v_t_pasts v_t_typed v_t_at v_t_kind v_t_from v_t_value v_t_planLength v_t_planAmount v_t_s) (c_X9_buoyancy z.2.1 k a_t a_t_s a_t_past a_t_aside a_t_text a_t_told a_t_bottoms a_t_planned v_t_pasts v_t_typed v_t_at v_t_kind v_t_from v_t_value v_t_planLength v_t_planAmount v_t_s x1 q7 h8) Y_X9_buoyancy wm_1112 (by decide) rfl 0 rfl rfl rfl [0, 1] rfl (by decide) rfl [some 0, some 1] (by decide) rfl (Nat.le_of_ble_eq_true rfl) rfl dX9_stuckDepth_43 ?_
              refine mg_iadd (pc := 46) C dX9_stuckDepth_46 ?_
              refine mg_goto (pc := 47) (tgt := 51) C dX9_stuckDepth_47 (by decide) ?_
              refine mg_iadd (pc := 51) C dX9_stuckDepth_51 ?_
              refine mg_istore_n (pc := 52) C (lv' := [(2, .int (x2 + (q5 + q7))), (0, .ref a_t), (1, .int x1), (3, .int x3)]) dX9_stuckDepth_52 rfl (by decide) rfl ?_
              refine mg_iinc (pc := 53) C (c := 1) (lv' := [(3, .int (x3 + 1)), (2, .int (x2 + (q5 + q7))), (0, .ref a_t), (1, .int x1)]) 3 dX9_stuckDepth_53 rfl (by decide) (by decide) rfl ?_
              refine mg_goto (pc := 56) (tgt := 18) C dX9_stuckDepth_56 (by decide) ?_
              refine mg_lv [2, 3, 1, 0] rfl ?_
              exact ih (x2 + (q5 + q7)) (x3 + 1) _ hf X0
      refine mg_iload_n (pc := 7) C 1 dX9_stuckDepth_7 rfl rfl ?_
      refine mg_sipush (pc := 8) C dX9_stuckDepth_8 (v := 200) (by decide) ?_
      refine mg_icmp_gt (pc := 11) (tgt := 75) C dX9_stuckDepth_11 (by decide) hf (fun hf => ?_) (fun hf => ?_)
      · obtain rfl := Option.some.inj hf
        refine mg_lv [] rfl ?_
        exact (X0 rfl)
      · refine mg_iconst (pc := 14) C dX9_stuckDepth_14 (v := 0) (by decide) ?_
        refine mg_istore_n (pc := 15) C (lv' := [(2, .int 0), (0, .ref a_t), (1, .int x1)]) dX9_stuckDepth_15 rfl (by decide) rfl ?_
        refine mg_iconst (pc := 16) C dX9_stuckDepth_16 (v := 0) (by decide) ?_
        refine mg_istore_n (pc := 17) C (lv' := [(3, .int 0), (2, .int 0), (0, .ref a_t), (1, .int x1)]) dX9_stuckDepth_17 rfl (by decide) rfl ?_
        obtain ⟨q9, h10, hf⟩ := mg_b hf
        refine mg_lv [2, 3, 1, 0] rfl ?_
        refine L18 x1 fuel 0 0 q9 h10 ?_
        refine mg_aload_n (pc := 59) C 0 dX9_stuckDepth_59 rfl rfl ?_
        obtain ⟨q11, h12, hf⟩ := mg_b hf
        refine mg_callV (pc := 60) C (w2 := w_X9_stuckDepth k a_t a_t_s a_t_past a_t_aside a_t_text a_t_told a_t_bottoms a_t_planned v_t_pasts v_t_typed v_t_at v_t_kind v_t_from v_t_value v_t_planLength v_t_planAmount v_t_s) (c_X9_loadOf z.2.1 k a_t a_t_s a_t_past a_t_aside a_t_text a_t_told a_t_bottoms a_t_planned v_t_pasts v_t_typed v_t_at v_t_kind v_t_from v_t_value v_t_planLength v_t_planAmount v_t_s fuel q11 h12) Y_X9_loadOf wm_1057 (by decide) rfl 0 rfl rfl rfl [0, 1] rfl (by decide) rfl [some 0, some 1] (by decide) rfl (Nat.le_of_ble_eq_true rfl) rfl dX9_stuckDepth_60 ?_
        refine mg_iload_n (pc := 63) C 2 dX9_stuckDepth_63 rfl rfl ?_
        refine mg_icmp_gt (pc := 64) (tgt := 69) C dX9_stuckDepth_64 (by decide) hf (fun hf => ?_) (fun hf => ?_)
        · refine mg_iinc (pc := 69) C (c := 1) (lv' := [(1, .int (x1 + 1)), (0, .ref a_t), (2, .int q9.1)]) 1 dX9_stuckDepth_69 rfl (by decide) (by decide) rfl ?_
          refine mg_goto (pc := 72) (tgt := 7) C dX9_stuckDepth_72 (by decide) ?_
          refine mg_lv [1, 0] rfl ?_
          exact ih (x1 + 1) _ hf X0 X1
        · obtain rfl := Option.some.inj hf
          refine mg_lv [1] rfl ?_
          exact (X1 rfl)
  refine mg_aload_n (pc := 0) C 0 dX9_stuckDepth_0 rfl rfl ?_
  refine mg_get (pc := 1) C 0 rfl rfl inX9 0 (by decide) wm_874 rfl rfl dX9_stuckDepth_1 ?_
  refine mg_iconst (pc := 4) C dX9_stuckDepth_4 (v := 2) (by decide) ?_
  refine mg_ialdK (pc := 5) C 1 2 rfl dX9_stuckDepth_5 (by decide) (by decide) ?_
  refine mg_istore_n (pc := 6) C (lv' := [(1, .int (v_t_s 2)), (0, .ref a_t)]) dX9_stuckDepth_6 rfl (by decide) rfl ?_
  obtain ⟨q13, h14, hf⟩ := mg_b hf
  refine mg_lv [1, 0] rfl ?_
  refine L7  fuel (v_t_s 2) q13 h14 (fun e15 => ?_) (fun e16 => ?_)
  · have hf := mg_t e15 hf
    refine mg_ldc (pc := 75) C wm_964 dX9_stuckDepth_75 ?_
    obtain rfl := Option.some.inj hf
    exact E _ _ dX9_stuckDepth_77
  · have hf := mg_f (by rw [e16]; decide) hf
    refine mg_iload_n (pc := 67) C 0 dX9_stuckDepth_67 rfl rfl ?_
    obtain rfl := Option.some.inj hf
    exact E _ _ dX9_stuckDepth_68
abbrev w_X9_ballastNeeded (k : mg_K) (a_t a_t_s a_t_past a_t_aside a_t_text a_t_told a_t_bottoms a_t_planned : Nat) (v_t_pasts : Int32) (v_t_typed : Int32) (v_t_at : Int32) (v_t_kind : Int32) (v_t_from : Int32) (v_t_value : Int32) (v_t_planLength : Int32) (v_t_planAmount : Int32) (v_t_s : Nat → Int32) : va_W := [(a_t, .inr (9, [.ref a_t_s, .ref a_t_past, .ref a_t_aside, .int v_t_pasts, .ref a_t_text, .int v_t_typed, .int v_t_at, .int v_t_kind, .int v_t_from, .int v_t_value, .ref a_t_told, .ref a_t_bottoms, .ref a_t_planned, .int v_t_planLength, .int v_t_planAmount])), (a_t_s, .inl (k.2.1, 227, .inl v_t_s))]
def f_X9_ballastNeeded (fuel : Nat) (v_t_s : Nat → Int32) : Option (Int32) := (f_X9_over fuel v_t_s).bind (fun q1 => if q1 ≤ 0 then (some (((-q1) / 4) + 1)) else (some 0))
theorem Y_X9_ballastNeeded : mg_Y yX9_ballastNeeded cX9_ballastNeeded 2 (some .int) 0 := ⟨wm_1168, wm_1169, wm_11, wm_1170, ⟨by decide +kernel, by decide +kernel, by decide +kernel⟩, by decide⟩
set_option maxRecDepth 100000 in
set_option maxHeartbeats 4000000 in
theorem c_X9_ballastNeeded (l : Launch) (k : mg_K) (a_t a_t_s a_t_past a_t_aside a_t_text a_t_told a_t_bottoms a_t_planned : Nat) (v_t_pasts : Int32) (v_t_typed : Int32) (v_t_at : Int32) (v_t_kind : Int32) (v_t_from : Int32) (v_t_value : Int32) (v_t_planLength : Int32) (v_t_planAmount : Int32) (v_t_s : Nat → Int32) (fuel : Nat) (q : Int32) (hf : f_X9_ballastNeeded fuel v_t_s = some q) : mg_M l yX9_ballastNeeded cX9_ballastNeeded 2 (some .int) 6 k [.ref a_t] (w_X9_ballastNeeded k a_t a_t_s a_t_past a_t_aside a_t_text a_t_told a_t_bottoms a_t_planned v_t_pasts v_t_typed v_t_at v_t_kind v_t_from v_t_value v_t_planLength v_t_planAmount v_t_s) (w_X9_ballastNeeded k a_t a_t_s a_t_past a_t_aside a_t_text a_t_told a_t_bottoms a_t_planned v_t_pasts v_t_typed v_t_at v_t_kind v_t_from v_t_value v_t_planLength v_t_planAmount v_t_s) (some (.int q)) := by
  refine mg_Mi RX9 [(0, .ref a_t)] (by decide +kernel) rfl rfl (Nat.le_of_ble_eq_true rfl) ?_
  intro z A Q hl C E
  subst hl
  unfold f_X9_ballastNeeded at hf
  refine mg_aload_n (pc := 0) C 0 dX9_ballastNeeded_0 rfl rfl ?_
  obtain ⟨q1, h2, hf⟩ := mg_b hf
  refine mg_callV (pc := 1) C (w2 := w_X9_ballastNeeded k a_t a_t_s a_t_past a_t_aside a_t_text a_t_told a_t_bottoms a_t_planned v_t_pasts v_t_typed v_t_at v_t_kind v_t_from v_t_value v_t_planLength v_t_planAmount v_t_s) (c_X9_over z.2.1 k a_t a_t_s a_t_past a_t_aside a_t_text a_t_told a_t_bottoms a_t_planned v_t_pasts v_t_typed v_t_at v_t_kind v_t_from v_t_value v_t_planLength v_t_planAmount v_t_s fuel q1 h2) Y_X9_over wm_1128 (by decide) rfl 0 rfl rfl rfl [0, 1] rfl (by decide) rfl [some 0, some 1] (by decide) rfl (Nat.le_of_ble_eq_true rfl) rfl dX9_ballastNeeded_1 ?_
  refine mg_istore_n (pc := 4) C (lv' := [(1, .int q1), (0, .ref a_t)]) dX9_ballastNeeded_4 rfl (by decide) rfl ?_
  refine mg_iload_n (pc := 5) C 0 dX9_ballastNeeded_5 rfl rfl ?_
  refine mg_if_le (pc := 6) (tgt := 13) C dX9_ballastNeeded_6 (by decide) hf (fun hf => ?_) (fun hf => ?_)
  · refine mg_iload_n (pc := 13) C 0 dX9_ballastNeeded_13 rfl rfl ?_
    refine mg_ineg (pc := 14) C dX9_ballastNeeded_14 ?_
    refine mg_iconst (pc := 15) C dX9_ballastNeeded_15 (v := 4) (by decide) ?_
    refine mg_idiv (pc := 16) C dX9_ballastNeeded_16 (by decide) ?_
    refine mg_iconst (pc := 17) C dX9_ballastNeeded_17 (v := 1) (by decide) ?_
    refine mg_iadd (pc := 18) C dX9_ballastNeeded_18 ?_
    obtain rfl := Option.some.inj hf
    exact E _ _ dX9_ballastNeeded_19
  · refine mg_iconst (pc := 9) C dX9_ballastNeeded_9 (v := 0) (by decide) ?_
    refine mg_goto (pc := 10) (tgt := 19) C dX9_ballastNeeded_10 (by decide) ?_
    obtain rfl := Option.some.inj hf
    exact E _ _ dX9_ballastNeeded_19
abbrev w_X9_dig (k : mg_K) (a_t a_t_s a_t_past a_t_aside a_t_text a_t_told a_t_bottoms a_t_planned : Nat) (v_t_pasts : Int32) (v_t_typed : Int32) (v_t_at : Int32) (v_t_kind : Int32) (v_t_from : Int32) (v_t_value : Int32) (v_t_planLength : Int32) (v_t_planAmount : Int32) (v_t_aside : Nat → Int32) (v_t_past : Nat → Int32) (v_t_s : Nat → Int32) : va_W := [(a_t, .inr (9, [.ref a_t_s, .ref a_t_past, .ref a_t_aside, .int v_t_pasts, .ref a_t_text, .int v_t_typed, .int v_t_at, .int v_t_kind, .int v_t_from, .int v_t_value, .ref a_t_told, .ref a_t_bottoms, .ref a_t_planned, .int v_t_planLength, .int v_t_planAmount])), (a_t_aside, .inl (k.2.1, 227, .inl v_t_aside)), (a_t_past, .inl (k.2.1, 1362, .inl v_t_past)), (a_t_s, .inl (k.2.1, 227, .inl v_t_s))]
def f_X9_dig (fuel : Nat) (v_t_pasts : Int32) (v_t_aside : Nat → Int32) (v_t_past : Nat → Int32) (v_t_s : Nat → Int32) (x1 : Int32) (x2 : Int32) : Option (Int32 × Int32 × (Nat → Int32) × (Nat → Int32) × (Nat → Int32)) := (f_X9_isWell v_t_s x1).bind (fun q1 => if q1 = 0 then (some ((-1000001), v_t_pasts, v_t_aside, v_t_past, v_t_s)) else ((f_X9_in x2 1 10).bind (fun q3 => if q3 = 0 then (some ((-1000001), v_t_pasts, v_t_aside, v_t_past, v_t_s)) else ((f_X9_sinkable fuel v_t_s x1 x2).bind (fun q5 => if q5 = 0 then (some ((-1000002), v_t_pasts, v_t_aside, v_t_past, v_t_s)) else ((f_X9_hold fuel v_t_aside v_t_s).bind (fun q7 => if mg_ix (117 + x1) 227 = true then (if mg_ix (117 + x1) 227 = true then ((f_X9_records fuel (upd v_t_s (Int32.toNatClampNeg (117 + x1)) ((v_t_s (Int32.toNatClampNeg (117 + x1))) + q5)) 0 x1).bind (fun q9 => (f_X9_ends fuel v_t_pasts q7 v_t_past q5).bind (fun q11 => some (q11.1, q11.2.1, q7, q11.2.2, q9)))) else none) else none)))))))
theorem Y_X9_dig : mg_Y yX9_dig cX9_dig 4 (some .int) 2 := ⟨wm_1172, wm_1173, wm_11, wm_1174, ⟨by decide +kernel, by decide +kernel, by decide +kernel⟩, by decide⟩
set_option maxRecDepth 100000 in
set_option maxHeartbeats 4000000 in
theorem c_X9_dig (l : Launch) (k : mg_K) (a_t a_t_s a_t_past a_t_aside a_t_text a_t_told a_t_bottoms a_t_planned : Nat) (v_t_pasts : Int32) (v_t_typed : Int32) (v_t_at : Int32) (v_t_kind : Int32) (v_t_from : Int32) (v_t_value : Int32) (v_t_planLength : Int32) (v_t_planAmount : Int32) (v_t_aside : Nat → Int32) (v_t_past : Nat → Int32) (v_t_s : Nat → Int32) (fuel : Nat) (x1 : Int32) (x2 : Int32) (q : Int32 × Int32 × (Nat → Int32) × (Nat → Int32) × (Nat → Int32)) (hf : f_X9_dig fuel v_t_pasts v_t_aside v_t_past v_t_s x1 x2 = some q) : mg_M l yX9_dig cX9_dig 4 (some .int) 4 k [.ref a_t, .int x1, .int x2] (w_X9_dig k a_t a_t_s a_t_past a_t_aside a_t_text a_t_told a_t_bottoms a_t_planned v_t_pasts v_t_typed v_t_at v_t_kind v_t_from v_t_value v_t_planLength v_t_planAmount v_t_aside v_t_past v_t_s) (w_X9_dig k a_t a_t_s a_t_past a_t_aside a_t_text a_t_told a_t_bottoms a_t_planned q.2.1 v_t_typed v_t_at v_t_kind v_t_from v_t_value v_t_planLength v_t_planAmount q.2.2.1 q.2.2.2.1 q.2.2.2.2) (some (.int q.1)) := by
  refine mg_Mi RX9 [(0, .ref a_t), (1, .int x1), (2, .int x2)] (by decide +kernel) rfl rfl (Nat.le_of_ble_eq_true rfl) ?_
  intro z A Q hl C E
  subst hl
  unfold f_X9_dig at hf
  refine mg_aload_n (pc := 0) C 0 dX9_dig_0 rfl rfl ?_
  refine mg_iload_n (pc := 1) C 1 dX9_dig_1 rfl rfl ?_
  obtain ⟨q1, h2, hf⟩ := mg_b hf
  refine mg_callV (pc := 2) C (w2 := w_X9_dig k a_t a_t_s a_t_past a_t_aside a_t_text a_t_told a_t_bottoms a_t_planned v_t_pasts v_t_typed v_t_at v_t_kind v_t_from v_t_value v_t_planLength v_t_planAmount v_t_aside v_t_past v_t_s) (c_X9_isWell z.2.1 k a_t a_t_s a_t_past a_t_aside a_t_text a_t_told a_t_bottoms a_t_planned v_t_pasts v_t_typed v_t_at v_t_kind v_t_from v_t_value v_t_planLength v_t_planAmount v_t_s x1 q1 h2) Y_X9_isWell wm_1120 (by decide) rfl 0 rfl rfl rfl [0, 3] rfl (by decide) rfl [some 0, none, none, some 1] (by decide) rfl (Nat.le_of_ble_eq_true rfl) rfl dX9_dig_2 ?_
  refine mg_if_eq (pc := 5) (tgt := 18) C dX9_dig_5 (by decide) hf (fun hf => ?_) (fun hf => ?_)
  · refine mg_ldc (pc := 18) C wm_927 dX9_dig_18 ?_
    obtain rfl := Option.some.inj hf
    exact E _ _ dX9_dig_20
  · refine mg_iload_n (pc := 8) C 2 dX9_dig_8 rfl rfl ?_
    refine mg_iconst (pc := 9) C dX9_dig_9 (v := 1) (by decide) ?_
    refine mg_bipush (pc := 10) C dX9_dig_10 (v := 10) (by decide) ?_
    obtain ⟨q3, h4, hf⟩ := mg_b hf
    refine mg_callS (pc := 12) C (w2 := w_X9_dig k a_t a_t_s a_t_past a_t_aside a_t_text a_t_told a_t_bottoms a_t_planned v_t_pasts v_t_typed v_t_at v_t_kind v_t_from v_t_value v_t_planLength v_t_planAmount v_t_aside v_t_past v_t_s) (c_X9_in z.2.1 k x2 1 10 q3 h4) Y_X9_in wm_924 (by decide) rfl [] rfl (by decide) rfl [none, none, none, none] (by decide) rfl (Nat.le_of_ble_eq_true rfl) rfl dX9_dig_12 ?_
    refine mg_if_ne (pc := 15) (tgt := 21) C dX9_dig_15 (by decide) hf (fun hf => ?_) (fun hf => ?_)
    · refine mg_aload_n (pc := 21) C 0 dX9_dig_21 rfl rfl ?_
      refine mg_iload_n (pc := 22) C 1 dX9_dig_22 rfl rfl ?_
      refine mg_iload_n (pc := 23) C 2 dX9_dig_23 rfl rfl ?_
      obtain ⟨q5, h6, hf⟩ := mg_b hf
      refine mg_callV (pc := 24) C (w2 := w_X9_dig k a_t a_t_s a_t_past a_t_aside a_t_text a_t_told a_t_bottoms a_t_planned v_t_pasts v_t_typed v_t_at v_t_kind v_t_from v_t_value v_t_planLength v_t_planAmount v_t_aside v_t_past v_t_s) (c_X9_sinkable z.2.1 k a_t a_t_s a_t_past a_t_aside a_t_text a_t_told a_t_bottoms a_t_planned v_t_pasts v_t_typed v_t_at v_t_kind v_t_from v_t_value v_t_planLength v_t_planAmount v_t_s fuel x1 x2 q5 h6) Y_X9_sinkable wm_1175 (by decide) rfl 0 rfl rfl rfl [0, 3] rfl (by decide) rfl [some 0, none, none, some 1] (by decide) rfl (Nat.le_of_ble_eq_true rfl) rfl dX9_dig_24 ?_
      refine mg_istore_n (pc := 27) C (lv' := [(3, .int q5), (0, .ref a_t), (1, .int x1), (2, .int x2)]) dX9_dig_27 rfl (by decide) rfl ?_
      refine mg_iload_n (pc := 28) C 0 dX9_dig_28 rfl rfl ?_
      refine mg_if_ne (pc := 29) (tgt := 35) C dX9_dig_29 (by decide) hf (fun hf => ?_) (fun hf => ?_)
      · refine mg_aload_n (pc := 35) C 1 dX9_dig_35 rfl rfl ?_
        obtain ⟨q7, h8, hf⟩ := mg_b hf
        refine mg_callV (pc := 36) C (w2 := w_X9_dig k a_t a_t_s a_t_past a_t_aside a_t_text a_t_told a_t_bottoms a_t_planned v_t_pasts v_t_typed v_t_at v_t_kind v_t_from v_t_value v_t_planLength v_t_planAmount q7 v_t_past v_t_s) (c_X9_hold z.2.1 k a_t a_t_s a_t_past a_t_aside a_t_text a_t_told a_t_bottoms a_t_planned v_t_pasts v_t_typed v_t_at v_t_kind v_t_from v_t_value v_t_planLength v_t_planAmount v_t_aside v_t_s fuel q7 h8) Y_X9_hold wm_937 (by decide) rfl 0 rfl rfl rfl [0, 1, 3] rfl (by decide) rfl [some 0, some 1, none, some 2] (by decide) rfl (Nat.le_of_ble_eq_true rfl) rfl dX9_dig_36 ?_
        refine mg_aload_n (pc := 39) C 1 dX9_dig_39 rfl rfl ?_
        refine mg_get (pc := 40) C 0 rfl rfl inX9 0 (by decide) wm_874 rfl rfl dX9_dig_40 ?_
        refine mg_bipush (pc := 43) C dX9_dig_43 (v := 117) (by decide) ?_
        refine mg_iload_n (pc := 45) C 2 dX9_dig_45 rfl rfl ?_
        refine mg_iadd (pc := 46) C dX9_dig_46 ?_
        refine mg_dup2 (pc := 47) C dX9_dig_47 rfl rfl ?_
        refine mg_iald (pc := 48) C 3 rfl dX9_dig_48 hf (fun hf => ?_)
        refine mg_iload_n (pc := 49) C 0 dX9_dig_49 rfl rfl ?_
        refine mg_iadd (pc := 50) C dX9_dig_50 ?_
        refine mg_iast (pc := 51) C (w2 := w_X9_dig k a_t a_t_s a_t_past a_t_aside a_t_text a_t_told a_t_bottoms a_t_planned v_t_pasts v_t_typed v_t_at v_t_kind v_t_from v_t_value v_t_planLength v_t_planAmount q7 v_t_past (upd v_t_s (Int32.toNatClampNeg (117 + x1)) ((v_t_s (Int32.toNatClampNeg (117 + x1))) + q5))) 3 rfl dX9_dig_51 hf rfl (fun hf => ?_)
        refine mg_aload_n (pc := 52) C 1 dX9_dig_52 rfl rfl ?_
        refine mg_iconst (pc := 53) C dX9_dig_53 (v := 0) (by decide) ?_
        refine mg_iload_n (pc := 54) C 2 dX9_dig_54 rfl rfl ?_
        obtain ⟨q9, h10, hf⟩ := mg_b hf
        refine mg_callV (pc := 55) C (w2 := w_X9_dig k a_t a_t_s a_t_past a_t_aside a_t_text a_t_told a_t_bottoms a_t_planned v_t_pasts v_t_typed v_t_at v_t_kind v_t_from v_t_value v_t_planLength v_t_planAmount q7 v_t_past q9) (c_X9_records z.2.1 k a_t a_t_s a_t_past a_t_aside a_t_text a_t_told a_t_bottoms a_t_planned v_t_pasts v_t_typed v_t_at v_t_kind v_t_from v_t_value v_t_planLength v_t_planAmount (upd v_t_s (Int32.toNatClampNeg (117 + x1)) ((v_t_s (Int32.toNatClampNeg (117 + x1))) + q5)) fuel 0 x1 q9 h10) Y_X9_records wm_1179 (by decide) rfl 0 rfl rfl rfl [0, 3] rfl (by decide) rfl [some 0, none, none, some 1] (by decide) rfl (Nat.le_of_ble_eq_true rfl) rfl dX9_dig_55 ?_
        refine mg_aload_n (pc := 58) C 1 dX9_dig_58 rfl rfl ?_
        refine mg_iload_n (pc := 59) C 0 dX9_dig_59 rfl rfl ?_
        obtain ⟨q11, h12, hf⟩ := mg_b hf
        refine mg_callV (pc := 60) C (w2 := w_X9_dig k a_t a_t_s a_t_past a_t_aside a_t_text a_t_told a_t_bottoms a_t_planned q11.2.1 v_t_typed v_t_at v_t_kind v_t_from v_t_value v_t_planLength v_t_planAmount q7 q11.2.2 q9) (c_X9_ends z.2.1 k a_t a_t_s a_t_past a_t_aside a_t_text a_t_told a_t_bottoms a_t_planned v_t_pasts v_t_typed v_t_at v_t_kind v_t_from v_t_value v_t_planLength v_t_planAmount q7 v_t_past fuel q5 q11 h12) Y_X9_ends wm_1004 (by decide) rfl 0 rfl rfl rfl [0, 1, 2] rfl (by decide) rfl [some 0, some 1, some 2, none] (by decide) rfl (Nat.le_of_ble_eq_true rfl) rfl dX9_dig_60 ?_
        obtain rfl := Option.some.inj hf
        exact E _ _ dX9_dig_63
      · refine mg_ldc (pc := 32) C wm_1036 dX9_dig_32 ?_
        obtain rfl := Option.some.inj hf
        exact E _ _ dX9_dig_34
    · refine mg_ldc (pc := 18) C wm_927 dX9_dig_18 ?_
      obtain rfl := Option.some.inj hf
      exact E _ _ dX9_dig_20
abbrev w_X9_settle (k : mg_K) (a_t a_t_s a_t_past a_t_aside a_t_text a_t_told a_t_bottoms a_t_planned : Nat) (v_t_pasts : Int32) (v_t_typed : Int32) (v_t_at : Int32) (v_t_kind : Int32) (v_t_from : Int32) (v_t_value : Int32) (v_t_planLength : Int32) (v_t_planAmount : Int32) (v_t_aside : Nat → Int32) (v_t_past : Nat → Int32) (v_t_s : Nat → Int32) : va_W := [(a_t, .inr (9, [.ref a_t_s, .ref a_t_past, .ref a_t_aside, .int v_t_pasts, .ref a_t_text, .int v_t_typed, .int v_t_at, .int v_t_kind, .int v_t_from, .int v_t_value, .ref a_t_told, .ref a_t_bottoms, .ref a_t_planned, .int v_t_planLength, .int v_t_planAmount])), (a_t_aside, .inl (k.2.1, 227, .inl v_t_aside)), (a_t_past, .inl (k.2.1, 1362, .inl v_t_past)), (a_t_s, .inl (k.2.1, 227, .inl v_t_s))]
def f_X9_settle (fuel : Nat) (v_t_pasts : Int32) (v_t_aside : Nat → Int32) (v_t_past : Nat → Int32) (v_t_s : Nat → Int32) (x1 : Int32) : Option (Int32 × Int32 × (Nat → Int32) × (Nat → Int32) × (Nat → Int32)) := (f_X9_in x1 1 50).bind (fun q1 => if q1 = 0 then (some ((-1000001), v_t_pasts, v_t_aside, v_t_past, v_t_s)) else ((f_X9_next fuel v_t_s).bind (fun q3 => if q3 = 0 then (some ((-1000002), v_t_pasts, v_t_aside, v_t_past, v_t_s)) else ((f_X9_hold fuel v_t_aside v_t_s).bind (fun q5 => (f_X9_settles fuel v_t_s x1).bind (fun q7 => (f_X9_records fuel q7.2 1 q7.1).bind (fun q9 => (f_X9_ends fuel v_t_pasts q5 v_t_past q7.1).bind (fun q11 => some (q11.1, q11.2.1, q5, q11.2.2, q9)))))))))
theorem Y_X9_settle : mg_Y yX9_settle cX9_settle 3 (some .int) 1 := ⟨wm_1184, wm_1185, wm_11, wm_1186, ⟨by decide +kernel, by decide +kernel, by decide +kernel⟩, by decide⟩
set_option maxRecDepth 100000 in
set_option maxHeartbeats 4000000 in
theorem c_X9_settle (l : Launch) (k : mg_K) (a_t a_t_s a_t_past a_t_aside a_t_text a_t_told a_t_bottoms a_t_planned : Nat) (v_t_pasts : Int32) (v_t_typed : Int32) (v_t_at : Int32) (v_t_kind : Int32) (v_t_from : Int32) (v_t_value : Int32) (v_t_planLength : Int32) (v_t_planAmount : Int32) (v_t_aside : Nat → Int32) (v_t_past : Nat → Int32) (v_t_s : Nat → Int32) (fuel : Nat) (x1 : Int32) (q : Int32 × Int32 × (Nat → Int32) × (Nat → Int32) × (Nat → Int32)) (hf : f_X9_settle fuel v_t_pasts v_t_aside v_t_past v_t_s x1 = some q) : mg_M l yX9_settle cX9_settle 3 (some .int) 9 k [.ref a_t, .int x1] (w_X9_settle k a_t a_t_s a_t_past a_t_aside a_t_text a_t_told a_t_bottoms a_t_planned v_t_pasts v_t_typed v_t_at v_t_kind v_t_from v_t_value v_t_planLength v_t_planAmount v_t_aside v_t_past v_t_s) (w_X9_settle k a_t a_t_s a_t_past a_t_aside a_t_text a_t_told a_t_bottoms a_t_planned q.2.1 v_t_typed v_t_at v_t_kind v_t_from v_t_value v_t_planLength v_t_planAmount q.2.2.1 q.2.2.2.1 q.2.2.2.2) (some (.int q.1)) := by
  refine mg_Mi RX9 [(0, .ref a_t), (1, .int x1)] (by decide +kernel) rfl rfl (Nat.le_of_ble_eq_true rfl) ?_
  intro z A Q hl C E
  subst hl
  unfold f_X9_settle at hf
  refine mg_iload_n (pc := 0) C 1 dX9_settle_0 rfl rfl ?_
  refine mg_iconst (pc := 1) C dX9_settle_1 (v := 1) (by decide) ?_
  refine mg_bipush (pc := 2) C dX9_settle_2 (v := 50) (by decide) ?_
  obtain ⟨q1, h2, hf⟩ := mg_b hf
  refine mg_callS (pc := 4) C (w2 := w_X9_settle k a_t a_t_s a_t_past a_t_aside a_t_text a_t_told a_t_bottoms a_t_planned v_t_pasts v_t_typed v_t_at v_t_kind v_t_from v_t_value v_t_planLength v_t_planAmount v_t_aside v_t_past v_t_s) (c_X9_in z.2.1 k x1 1 50 q1 h2) Y_X9_in wm_924 (by decide) rfl [] rfl (by decide) rfl [none, none, none, none] (by decide) rfl (Nat.le_of_ble_eq_true rfl) rfl dX9_settle_4 ?_
  refine mg_if_ne (pc := 7) (tgt := 13) C dX9_settle_7 (by decide) hf (fun hf => ?_) (fun hf => ?_)
  · refine mg_aload_n (pc := 13) C 0 dX9_settle_13 rfl rfl ?_
    obtain ⟨q3, h4, hf⟩ := mg_b hf
    refine mg_callV (pc := 14) C (w2 := w_X9_settle k a_t a_t_s a_t_past a_t_aside a_t_text a_t_told a_t_bottoms a_t_planned v_t_pasts v_t_typed v_t_at v_t_kind v_t_from v_t_value v_t_planLength v_t_planAmount v_t_aside v_t_past v_t_s) (c_X9_next z.2.1 k a_t a_t_s a_t_past a_t_aside a_t_text a_t_told a_t_bottoms a_t_planned v_t_pasts v_t_typed v_t_at v_t_kind v_t_from v_t_value v_t_planLength v_t_planAmount v_t_s fuel q3 h4) Y_X9_next wm_1148 (by decide) rfl 0 rfl rfl rfl [0, 3] rfl (by decide) rfl [some 0, none, none, some 1] (by decide) rfl (Nat.le_of_ble_eq_true rfl) rfl dX9_settle_14 ?_
    refine mg_if_ne (pc := 17) (tgt := 23) C dX9_settle_17 (by decide) hf (fun hf => ?_) (fun hf => ?_)
    · refine mg_aload_n (pc := 23) C 0 dX9_settle_23 rfl rfl ?_
      obtain ⟨q5, h6, hf⟩ := mg_b hf
      refine mg_callV (pc := 24) C (w2 := w_X9_settle k a_t a_t_s a_t_past a_t_aside a_t_text a_t_told a_t_bottoms a_t_planned v_t_pasts v_t_typed v_t_at v_t_kind v_t_from v_t_value v_t_planLength v_t_planAmount q5 v_t_past v_t_s) (c_X9_hold z.2.1 k a_t a_t_s a_t_past a_t_aside a_t_text a_t_told a_t_bottoms a_t_planned v_t_pasts v_t_typed v_t_at v_t_kind v_t_from v_t_value v_t_planLength v_t_planAmount v_t_aside v_t_s fuel q5 h6) Y_X9_hold wm_937 (by decide) rfl 0 rfl rfl rfl [0, 1, 3] rfl (by decide) rfl [some 0, some 1, none, some 2] (by decide) rfl (Nat.le_of_ble_eq_true rfl) rfl dX9_settle_24 ?_
      refine mg_aload_n (pc := 27) C 0 dX9_settle_27 rfl rfl ?_
      refine mg_iload_n (pc := 28) C 1 dX9_settle_28 rfl rfl ?_
      obtain ⟨q7, h8, hf⟩ := mg_b hf
      refine mg_callV (pc := 29) C (w2 := w_X9_settle k a_t a_t_s a_t_past a_t_aside a_t_text a_t_told a_t_bottoms a_t_planned v_t_pasts v_t_typed v_t_at v_t_kind v_t_from v_t_value v_t_planLength v_t_planAmount q5 v_t_past q7.2) (c_X9_settles z.2.1 k a_t a_t_s a_t_past a_t_aside a_t_text a_t_told a_t_bottoms a_t_planned v_t_pasts v_t_typed v_t_at v_t_kind v_t_from v_t_value v_t_planLength v_t_planAmount v_t_s fuel x1 q7 h8) Y_X9_settles wm_1187 (by decide) rfl 0 rfl rfl rfl [0, 3] rfl (by decide) rfl [some 0, none, none, some 1] (by decide) rfl (Nat.le_of_ble_eq_true rfl) rfl dX9_settle_29 ?_
      refine mg_istore_n (pc := 32) C (lv' := [(2, .int q7.1), (0, .ref a_t), (1, .int x1)]) dX9_settle_32 rfl (by decide) rfl ?_
      refine mg_aload_n (pc := 33) C 1 dX9_settle_33 rfl rfl ?_
      refine mg_iconst (pc := 34) C dX9_settle_34 (v := 1) (by decide) ?_
      refine mg_iload_n (pc := 35) C 0 dX9_settle_35 rfl rfl ?_
      obtain ⟨q9, h10, hf⟩ := mg_b hf
      refine mg_callV (pc := 36) C (w2 := w_X9_settle k a_t a_t_s a_t_past a_t_aside a_t_text a_t_told a_t_bottoms a_t_planned v_t_pasts v_t_typed v_t_at v_t_kind v_t_from v_t_value v_t_planLength v_t_planAmount q5 v_t_past q9) (c_X9_records z.2.1 k a_t a_t_s a_t_past a_t_aside a_t_text a_t_told a_t_bottoms a_t_planned v_t_pasts v_t_typed v_t_at v_t_kind v_t_from v_t_value v_t_planLength v_t_planAmount q7.2 fuel 1 q7.1 q9 h10) Y_X9_records wm_1179 (by decide) rfl 0 rfl rfl rfl [0, 3] rfl (by decide) rfl [some 0, none, none, some 1] (by decide) rfl (Nat.le_of_ble_eq_true rfl) rfl dX9_settle_36 ?_
      refine mg_aload_n (pc := 39) C 1 dX9_settle_39 rfl rfl ?_
      refine mg_iload_n (pc := 40) C 0 dX9_settle_40 rfl rfl ?_
      obtain ⟨q11, h12, hf⟩ := mg_b hf
      refine mg_callV (pc := 41) C (w2 := w_X9_settle k a_t a_t_s a_t_past a_t_aside a_t_text a_t_told a_t_bottoms a_t_planned q11.2.1 v_t_typed v_t_at v_t_kind v_t_from v_t_value v_t_planLength v_t_planAmount q5 q11.2.2 q9) (c_X9_ends z.2.1 k a_t a_t_s a_t_past a_t_aside a_t_text a_t_told a_t_bottoms a_t_planned v_t_pasts v_t_typed v_t_at v_t_kind v_t_from v_t_value v_t_planLength v_t_planAmount q5 v_t_past fuel q7.1 q11 h12) Y_X9_ends wm_1004 (by decide) rfl 0 rfl rfl rfl [0, 1, 2] rfl (by decide) rfl [some 0, some 1, some 2, none] (by decide) rfl (Nat.le_of_ble_eq_true rfl) rfl dX9_settle_41 ?_
      obtain rfl := Option.some.inj hf
      exact E _ _ dX9_settle_44
    · refine mg_ldc (pc := 20) C wm_1036 dX9_settle_20 ?_
      obtain rfl := Option.some.inj hf
      exact E _ _ dX9_settle_22
  · refine mg_ldc (pc := 10) C wm_927 dX9_settle_10 ?_
    obtain rfl := Option.some.inj hf
    exact E _ _ dX9_settle_12
abbrev w_X9_setBallast (k : mg_K) (a_t a_t_s a_t_past a_t_aside a_t_text a_t_told a_t_bottoms a_t_planned : Nat) (v_t_pasts : Int32) (v_t_typed : Int32) (v_t_at : Int32) (v_t_kind : Int32) (v_t_from : Int32) (v_t_value : Int32) (v_t_planLength : Int32) (v_t_planAmount : Int32) (v_t_aside : Nat → Int32) (v_t_past : Nat → Int32) (v_t_s : Nat → Int32) : va_W := [(a_t, .inr (9, [.ref a_t_s, .ref a_t_past, .ref a_t_aside, .int v_t_pasts, .ref a_t_text, .int v_t_typed, .int v_t_at, .int v_t_kind, .int v_t_from, .int v_t_value, .ref a_t_told, .ref a_t_bottoms, .ref a_t_planned, .int v_t_planLength, .int v_t_planAmount])), (a_t_aside, .inl (k.2.1, 227, .inl v_t_aside)), (a_t_past, .inl (k.2.1, 1362, .inl v_t_past)), (a_t_s, .inl (k.2.1, 227, .inl v_t_s))]
def f_X9_setBallast (fuel : Nat) (v_t_pasts : Int32) (v_t_aside : Nat → Int32) (v_t_past : Nat → Int32) (v_t_s : Nat → Int32) (x1 : Int32) (x2 : Int32) : Option (Int32 × Int32 × (Nat → Int32) × (Nat → Int32) × (Nat → Int32)) := (f_X9_isCell v_t_s x1).bind (fun q1 => if q1 = 0 then (some ((-1000001), v_t_pasts, v_t_aside, v_t_past, v_t_s)) else ((f_X9_in x2 0 99).bind (fun q3 => if q3 = 0 then (some ((-1000001), v_t_pasts, v_t_aside, v_t_past, v_t_s)) else (if mg_ix (68 + x1) 227 = true then (if (v_t_s (Int32.toNatClampNeg (68 + x1))) = x2 then (some ((-1000002), v_t_pasts, v_t_aside, v_t_past, v_t_s)) else ((f_X9_hold fuel v_t_aside v_t_s).bind (fun q5 => if mg_ix (68 + x1) 227 = true then ((f_X9_records fuel (upd v_t_s (Int32.toNatClampNeg (68 + x1)) x2) 2 x1).bind (fun q7 => (f_X9_ends fuel v_t_pasts q5 v_t_past (v_t_s (Int32.toNatClampNeg (68 + x1)))).bind (fun q9 => some (q9.1, q9.2.1, q5, q9.2.2, q7)))) else none))) else none))))
theorem Y_X9_setBallast : mg_Y yX9_setBallast cX9_setBallast 4 (some .int) 2 := ⟨wm_1192, wm_1193, wm_11, wm_1194, ⟨by decide +kernel, by decide +kernel, by decide +kernel⟩, by decide⟩
set_option maxRecDepth 100000 in
set_option maxHeartbeats 4000000 in
theorem c_X9_setBallast (l : Launch) (k : mg_K) (a_t a_t_s a_t_past a_t_aside a_t_text a_t_told a_t_bottoms a_t_planned : Nat) (v_t_pasts : Int32) (v_t_typed : Int32) (v_t_at : Int32) (v_t_kind : Int32) (v_t_from : Int32) (v_t_value : Int32) (v_t_planLength : Int32) (v_t_planAmount : Int32) (v_t_aside : Nat → Int32) (v_t_past : Nat → Int32) (v_t_s : Nat → Int32) (fuel : Nat) (x1 : Int32) (x2 : Int32) (q : Int32 × Int32 × (Nat → Int32) × (Nat → Int32) × (Nat → Int32)) (hf : f_X9_setBallast fuel v_t_pasts v_t_aside v_t_past v_t_s x1 x2 = some q) : mg_M l yX9_setBallast cX9_setBallast 4 (some .int) 2 k [.ref a_t, .int x1, .int x2] (w_X9_setBallast k a_t a_t_s a_t_past a_t_aside a_t_text a_t_told a_t_bottoms a_t_planned v_t_pasts v_t_typed v_t_at v_t_kind v_t_from v_t_value v_t_planLength v_t_planAmount v_t_aside v_t_past v_t_s) (w_X9_setBallast k a_t a_t_s a_t_past a_t_aside a_t_text a_t_told a_t_bottoms a_t_planned q.2.1 v_t_typed v_t_at v_t_kind v_t_from v_t_value v_t_planLength v_t_planAmount q.2.2.1 q.2.2.2.1 q.2.2.2.2) (some (.int q.1)) := by
  refine mg_Mi RX9 [(0, .ref a_t), (1, .int x1), (2, .int x2)] (by decide +kernel) rfl rfl (Nat.le_of_ble_eq_true rfl) ?_
  intro z A Q hl C E
  subst hl
  unfold f_X9_setBallast at hf
  refine mg_aload_n (pc := 0) C 0 dX9_setBallast_0 rfl rfl ?_
  refine mg_iload_n (pc := 1) C 1 dX9_setBallast_1 rfl rfl ?_
  obtain ⟨q1, h2, hf⟩ := mg_b hf
  refine mg_callV (pc := 2) C (w2 := w_X9_setBallast k a_t a_t_s a_t_past a_t_aside a_t_text a_t_told a_t_bottoms a_t_planned v_t_pasts v_t_typed v_t_at v_t_kind v_t_from v_t_value v_t_planLength v_t_planAmount v_t_aside v_t_past v_t_s) (c_X9_isCell z.2.1 k a_t a_t_s a_t_past a_t_aside a_t_text a_t_told a_t_bottoms a_t_planned v_t_pasts v_t_typed v_t_at v_t_kind v_t_from v_t_value v_t_planLength v_t_planAmount v_t_s x1 q1 h2) Y_X9_isCell wm_1032 (by decide) rfl 0 rfl rfl rfl [0, 3] rfl (by decide) rfl [some 0, none, none, some 1] (by decide) rfl (Nat.le_of_ble_eq_true rfl) rfl dX9_setBallast_2 ?_
  refine mg_if_eq (pc := 5) (tgt := 18) C dX9_setBallast_5 (by decide) hf (fun hf => ?_) (fun hf => ?_)
  · refine mg_ldc (pc := 18) C wm_927 dX9_setBallast_18 ?_
    obtain rfl := Option.some.inj hf
    exact E _ _ dX9_setBallast_20
  · refine mg_iload_n (pc := 8) C 2 dX9_setBallast_8 rfl rfl ?_
    refine mg_iconst (pc := 9) C dX9_setBallast_9 (v := 0) (by decide) ?_
    refine mg_bipush (pc := 10) C dX9_setBallast_10 (v := 99) (by decide) ?_
    obtain ⟨q3, h4, hf⟩ := mg_b hf
    refine mg_callS (pc := 12) C (w2 := w_X9_setBallast k a_t a_t_s a_t_past a_t_aside a_t_text a_t_told a_t_bottoms a_t_planned v_t_pasts v_t_typed v_t_at v_t_kind v_t_from v_t_value v_t_planLength v_t_planAmount v_t_aside v_t_past v_t_s) (c_X9_in z.2.1 k x2 0 99 q3 h4) Y_X9_in wm_924 (by decide) rfl [] rfl (by decide) rfl [none, none, none, none] (by decide) rfl (Nat.le_of_ble_eq_true rfl) rfl dX9_setBallast_12 ?_
    refine mg_if_ne (pc := 15) (tgt := 21) C dX9_setBallast_15 (by decide) hf (fun hf => ?_) (fun hf => ?_)
    · refine mg_aload_n (pc := 21) C 0 dX9_setBallast_21 rfl rfl ?_
      refine mg_get (pc := 22) C 0 rfl rfl inX9 0 (by decide) wm_874 rfl rfl dX9_setBallast_22 ?_
      refine mg_bipush (pc := 25) C dX9_setBallast_25 (v := 68) (by decide) ?_
      refine mg_iload_n (pc := 27) C 1 dX9_setBallast_27 rfl rfl ?_
      refine mg_iadd (pc := 28) C dX9_setBallast_28 ?_
      refine mg_iald (pc := 29) C 3 rfl dX9_setBallast_29 hf (fun hf => ?_)
      refine mg_istore_n (pc := 30) C (lv' := [(3, .int (v_t_s (Int32.toNatClampNeg (68 + x1)))), (0, .ref a_t), (1, .int x1), (2, .int x2)]) dX9_setBallast_30 rfl (by decide) rfl ?_
      refine mg_iload_n (pc := 31) C 0 dX9_setBallast_31 rfl rfl ?_
      refine mg_iload_n (pc := 32) C 3 dX9_setBallast_32 rfl rfl ?_
      refine mg_icmp_ne (pc := 33) (tgt := 39) C dX9_setBallast_33 (by decide) hf (fun hf => ?_) (fun hf => ?_)
      · refine mg_aload_n (pc := 39) C 1 dX9_setBallast_39 rfl rfl ?_
        obtain ⟨q5, h6, hf⟩ := mg_b hf
        refine mg_callV (pc := 40) C (w2 := w_X9_setBallast k a_t a_t_s a_t_past a_t_aside a_t_text a_t_told a_t_bottoms a_t_planned v_t_pasts v_t_typed v_t_at v_t_kind v_t_from v_t_value v_t_planLength v_t_planAmount q5 v_t_past v_t_s) (c_X9_hold z.2.1 k a_t a_t_s a_t_past a_t_aside a_t_text a_t_told a_t_bottoms a_t_planned v_t_pasts v_t_typed v_t_at v_t_kind v_t_from v_t_value v_t_planLength v_t_planAmount v_t_aside v_t_s fuel q5 h6) Y_X9_hold wm_937 (by decide) rfl 0 rfl rfl rfl [0, 1, 3] rfl (by decide) rfl [some 0, some 1, none, some 2] (by decide) rfl (Nat.le_of_ble_eq_true rfl) rfl dX9_setBallast_40 ?_
        refine mg_aload_n (pc := 43) C 1 dX9_setBallast_43 rfl rfl ?_
        refine mg_get (pc := 44) C 0 rfl rfl inX9 0 (by decide) wm_874 rfl rfl dX9_setBallast_44 ?_
        refine mg_bipush (pc := 47) C dX9_setBallast_47 (v := 68) (by decide) ?_
        refine mg_iload_n (pc := 49) C 2 dX9_setBallast_49 rfl rfl ?_
        refine mg_iadd (pc := 50) C dX9_setBallast_50 ?_
        refine mg_iload_n (pc := 51) C 3 dX9_setBallast_51 rfl rfl ?_
        refine mg_iast (pc := 52) C (w2 := w_X9_setBallast k a_t a_t_s a_t_past a_t_aside a_t_text a_t_told a_t_bottoms a_t_planned v_t_pasts v_t_typed v_t_at v_t_kind v_t_from v_t_value v_t_planLength v_t_planAmount q5 v_t_past (upd v_t_s (Int32.toNatClampNeg (68 + x1)) x2)) 3 rfl dX9_setBallast_52 hf rfl (fun hf => ?_)
        refine mg_aload_n (pc := 53) C 1 dX9_setBallast_53 rfl rfl ?_
        refine mg_iconst (pc := 54) C dX9_setBallast_54 (v := 2) (by decide) ?_
        refine mg_iload_n (pc := 55) C 2 dX9_setBallast_55 rfl rfl ?_
        obtain ⟨q7, h8, hf⟩ := mg_b hf
        refine mg_callV (pc := 56) C (w2 := w_X9_setBallast k a_t a_t_s a_t_past a_t_aside a_t_text a_t_told a_t_bottoms a_t_planned v_t_pasts v_t_typed v_t_at v_t_kind v_t_from v_t_value v_t_planLength v_t_planAmount q5 v_t_past q7) (c_X9_records z.2.1 k a_t a_t_s a_t_past a_t_aside a_t_text a_t_told a_t_bottoms a_t_planned v_t_pasts v_t_typed v_t_at v_t_kind v_t_from v_t_value v_t_planLength v_t_planAmount (upd v_t_s (Int32.toNatClampNeg (68 + x1)) x2) fuel 2 x1 q7 h8) Y_X9_records wm_1179 (by decide) rfl 0 rfl rfl rfl [0, 3] rfl (by decide) rfl [some 0, none, none, some 1] (by decide) rfl (Nat.le_of_ble_eq_true rfl) rfl dX9_setBallast_56 ?_
        refine mg_aload_n (pc := 59) C 1 dX9_setBallast_59 rfl rfl ?_
        refine mg_iload_n (pc := 60) C 0 dX9_setBallast_60 rfl rfl ?_
        obtain ⟨q9, h10, hf⟩ := mg_b hf
        refine mg_callV (pc := 61) C (w2 := w_X9_setBallast k a_t a_t_s a_t_past a_t_aside a_t_text a_t_told a_t_bottoms a_t_planned q9.2.1 v_t_typed v_t_at v_t_kind v_t_from v_t_value v_t_planLength v_t_planAmount q5 q9.2.2 q7) (c_X9_ends z.2.1 k a_t a_t_s a_t_past a_t_aside a_t_text a_t_told a_t_bottoms a_t_planned v_t_pasts v_t_typed v_t_at v_t_kind v_t_from v_t_value v_t_planLength v_t_planAmount q5 v_t_past fuel (v_t_s (Int32.toNatClampNeg (68 + x1))) q9 h10) Y_X9_ends wm_1004 (by decide) rfl 0 rfl rfl rfl [0, 1, 2] rfl (by decide) rfl [some 0, some 1, some 2, none] (by decide) rfl (Nat.le_of_ble_eq_true rfl) rfl dX9_setBallast_61 ?_
        obtain rfl := Option.some.inj hf
        exact E _ _ dX9_setBallast_64
      · refine mg_ldc (pc := 36) C wm_1036 dX9_setBallast_36 ?_
        obtain rfl := Option.some.inj hf
        exact E _ _ dX9_setBallast_38
    · refine mg_ldc (pc := 18) C wm_927 dX9_setBallast_18 ?_
      obtain rfl := Option.some.inj hf
      exact E _ _ dX9_setBallast_20
abbrev w_X9_lubricate (k : mg_K) (a_t a_t_s a_t_past a_t_aside a_t_text a_t_told a_t_bottoms a_t_planned : Nat) (v_t_pasts : Int32) (v_t_typed : Int32) (v_t_at : Int32) (v_t_kind : Int32) (v_t_from : Int32) (v_t_value : Int32) (v_t_planLength : Int32) (v_t_planAmount : Int32) (v_t_aside : Nat → Int32) (v_t_past : Nat → Int32) (v_t_s : Nat → Int32) : va_W := [(a_t, .inr (9, [.ref a_t_s, .ref a_t_past, .ref a_t_aside, .int v_t_pasts, .ref a_t_text, .int v_t_typed, .int v_t_at, .int v_t_kind, .int v_t_from, .int v_t_value, .ref a_t_told, .ref a_t_bottoms, .ref a_t_planned, .int v_t_planLength, .int v_t_planAmount])), (a_t_aside, .inl (k.2.1, 227, .inl v_t_aside)), (a_t_past, .inl (k.2.1, 1362, .inl v_t_past)), (a_t_s, .inl (k.2.1, 227, .inl v_t_s))]
def f_X9_lubricate (fuel : Nat) (v_t_pasts : Int32) (v_t_aside : Nat → Int32) (v_t_past : Nat → Int32) (v_t_s : Nat → Int32) (x1 : Int32) (x2 : Int32) : Option (Int32 × Int32 × (Nat → Int32) × (Nat → Int32) × (Nat → Int32)) := (f_X9_in x1 0 3).bind (fun q1 => if q1 = 0 then (some ((-1000001), v_t_pasts, v_t_aside, v_t_past, v_t_s)) else ((f_X9_in x2 0 1).bind (fun q3 => if q3 = 0 then (some ((-1000001), v_t_pasts, v_t_aside, v_t_past, v_t_s)) else (if mg_ix (64 + x1) 227 = true then (if (v_t_s (Int32.toNatClampNeg (64 + x1))) = x2 then (some ((-1000002), v_t_pasts, v_t_aside, v_t_past, v_t_s)) else ((f_X9_hold fuel v_t_aside v_t_s).bind (fun q5 => if mg_ix (64 + x1) 227 = true then ((f_X9_records fuel (upd v_t_s (Int32.toNatClampNeg (64 + x1)) x2) 3 x1).bind (fun q7 => (f_X9_ends fuel v_t_pasts q5 v_t_past ((((q7 64) + (q7 65)) + (q7 66)) + (q7 67))).bind (fun q9 => some (q9.1, q9.2.1, q5, q9.2.2, q7)))) else none))) else none))))
theorem Y_X9_lubricate : mg_Y yX9_lubricate cX9_lubricate 3 (some .int) 2 := ⟨wm_1196, wm_1197, wm_11, wm_1198, ⟨by decide +kernel, by decide +kernel, by decide +kernel⟩, by decide⟩
set_option maxRecDepth 100000 in
set_option maxHeartbeats 4000000 in
theorem c_X9_lubricate (l : Launch) (k : mg_K) (a_t a_t_s a_t_past a_t_aside a_t_text a_t_told a_t_bottoms a_t_planned : Nat) (v_t_pasts : Int32) (v_t_typed : Int32) (v_t_at : Int32) (v_t_kind : Int32) (v_t_from : Int32) (v_t_value : Int32) (v_t_planLength : Int32) (v_t_planAmount : Int32) (v_t_aside : Nat → Int32) (v_t_past : Nat → Int32) (v_t_s : Nat → Int32) (fuel : Nat) (x1 : Int32) (x2 : Int32) (q : Int32 × Int32 × (Nat → Int32) × (Nat → Int32) × (Nat → Int32)) (hf : f_X9_lubricate fuel v_t_pasts v_t_aside v_t_past v_t_s x1 x2 = some q) : mg_M l yX9_lubricate cX9_lubricate 3 (some .int) 1 k [.ref a_t, .int x1, .int x2] (w_X9_lubricate k a_t a_t_s a_t_past a_t_aside a_t_text a_t_told a_t_bottoms a_t_planned v_t_pasts v_t_typed v_t_at v_t_kind v_t_from v_t_value v_t_planLength v_t_planAmount v_t_aside v_t_past v_t_s) (w_X9_lubricate k a_t a_t_s a_t_past a_t_aside a_t_text a_t_told a_t_bottoms a_t_planned q.2.1 v_t_typed v_t_at v_t_kind v_t_from v_t_value v_t_planLength v_t_planAmount q.2.2.1 q.2.2.2.1 q.2.2.2.2) (some (.int q.1)) := by
  refine mg_Mi RX9 [(0, .ref a_t), (1, .int x1), (2, .int x2)] (by decide +kernel) rfl rfl (Nat.le_of_ble_eq_true rfl) ?_
  intro z A Q hl C E
  subst hl
  unfold f_X9_lubricate at hf
  refine mg_iload_n (pc := 0) C 1 dX9_lubricate_0 rfl rfl ?_
  refine mg_iconst (pc := 1) C dX9_lubricate_1 (v := 0) (by decide) ?_
  refine mg_iconst (pc := 2) C dX9_lubricate_2 (v := 3) (by decide) ?_
  obtain ⟨q1, h2, hf⟩ := mg_b hf
  refine mg_callS (pc := 3) C (w2 := w_X9_lubricate k a_t a_t_s a_t_past a_t_aside a_t_text a_t_told a_t_bottoms a_t_planned v_t_pasts v_t_typed v_t_at v_t_kind v_t_from v_t_value v_t_planLength v_t_planAmount v_t_aside v_t_past v_t_s) (c_X9_in z.2.1 k x1 0 3 q1 h2) Y_X9_in wm_924 (by decide) rfl [] rfl (by decide) rfl [none, none, none, none] (by decide) rfl (Nat.le_of_ble_eq_true rfl) rfl dX9_lubricate_3 ?_
  refine mg_if_eq (pc := 6) (tgt := 18) C dX9_lubricate_6 (by decide) hf (fun hf => ?_) (fun hf => ?_)
  · refine mg_ldc (pc := 18) C wm_927 dX9_lubricate_18 ?_
    obtain rfl := Option.some.inj hf
    exact E _ _ dX9_lubricate_20
  · refine mg_iload_n (pc := 9) C 2 dX9_lubricate_9 rfl rfl ?_
    refine mg_iconst (pc := 10) C dX9_lubricate_10 (v := 0) (by decide) ?_
    refine mg_iconst (pc := 11) C dX9_lubricate_11 (v := 1) (by decide) ?_
    obtain ⟨q3, h4, hf⟩ := mg_b hf
    refine mg_callS (pc := 12) C (w2 := w_X9_lubricate k a_t a_t_s a_t_past a_t_aside a_t_text a_t_told a_t_bottoms a_t_planned v_t_pasts v_t_typed v_t_at v_t_kind v_t_from v_t_value v_t_planLength v_t_planAmount v_t_aside v_t_past v_t_s) (c_X9_in z.2.1 k x2 0 1 q3 h4) Y_X9_in wm_924 (by decide) rfl [] rfl (by decide) rfl [none, none, none, none] (by decide) rfl (Nat.le_of_ble_eq_true rfl) rfl dX9_lubricate_12 ?_
    refine mg_if_ne (pc := 15) (tgt := 21) C dX9_lubricate_15 (by decide) hf (fun hf => ?_) (fun hf => ?_)
    · refine mg_aload_n (pc := 21) C 0 dX9_lubricate_21 rfl rfl ?_
      refine mg_get (pc := 22) C 0 rfl rfl inX9 0 (by decide) wm_874 rfl rfl dX9_lubricate_22 ?_
      refine mg_bipush (pc := 25) C dX9_lubricate_25 (v := 64) (by decide) ?_
      refine mg_iload_n (pc := 27) C 1 dX9_lubricate_27 rfl rfl ?_
      refine mg_iadd (pc := 28) C dX9_lubricate_28 ?_
      refine mg_iald (pc := 29) C 3 rfl dX9_lubricate_29 hf (fun hf => ?_)
      refine mg_iload_n (pc := 30) C 2 dX9_lubricate_30 rfl rfl ?_
      refine mg_icmp_ne (pc := 31) (tgt := 37) C dX9_lubricate_31 (by decide) hf (fun hf => ?_) (fun hf => ?_)
      · refine mg_aload_n (pc := 37) C 0 dX9_lubricate_37 rfl rfl ?_
        obtain ⟨q5, h6, hf⟩ := mg_b hf
        refine mg_callV (pc := 38) C (w2 := w_X9_lubricate k a_t a_t_s a_t_past a_t_aside a_t_text a_t_told a_t_bottoms a_t_planned v_t_pasts v_t_typed v_t_at v_t_kind v_t_from v_t_value v_t_planLength v_t_planAmount q5 v_t_past v_t_s) (c_X9_hold z.2.1 k a_t a_t_s a_t_past a_t_aside a_t_text a_t_told a_t_bottoms a_t_planned v_t_pasts v_t_typed v_t_at v_t_kind v_t_from v_t_value v_t_planLength v_t_planAmount v_t_aside v_t_s fuel q5 h6) Y_X9_hold wm_937 (by decide) rfl 0 rfl rfl rfl [0, 1, 3] rfl (by decide) rfl [some 0, some 1, none, some 2] (by decide) rfl (Nat.le_of_ble_eq_true rfl) rfl dX9_lubricate_38 ?_
        refine mg_aload_n (pc := 41) C 0 dX9_lubricate_41 rfl rfl ?_
        refine mg_get (pc := 42) C 0 rfl rfl inX9 0 (by decide) wm_874 rfl rfl dX9_lubricate_42 ?_
        refine mg_bipush (pc := 45) C dX9_lubricate_45 (v := 64) (by decide) ?_
        refine mg_iload_n (pc := 47) C 1 dX9_lubricate_47 rfl rfl ?_
        refine mg_iadd (pc := 48) C dX9_lubricate_48 ?_
        refine mg_iload_n (pc := 49) C 2 dX9_lubricate_49 rfl rfl ?_
        refine mg_iast (pc := 50) C (w2 := w_X9_lubricate k a_t a_t_s a_t_past a_t_aside a_t_text a_t_told a_t_bottoms a_t_planned v_t_pasts v_t_typed v_t_at v_t_kind v_t_from v_t_value v_t_planLength v_t_planAmount q5 v_t_past (upd v_t_s (Int32.toNatClampNeg (64 + x1)) x2)) 3 rfl dX9_lubricate_50 hf rfl (fun hf => ?_)
        refine mg_aload_n (pc := 51) C 0 dX9_lubricate_51 rfl rfl ?_
        refine mg_iconst (pc := 52) C dX9_lubricate_52 (v := 3) (by decide) ?_
        refine mg_iload_n (pc := 53) C 1 dX9_lubricate_53 rfl rfl ?_
        obtain ⟨q7, h8, hf⟩ := mg_b hf
        refine mg_callV (pc := 54) C (w2 := w_X9_lubricate k a_t a_t_s a_t_past a_t_aside a_t_text a_t_told a_t_bottoms a_t_planned v_t_pasts v_t_typed v_t_at v_t_kind v_t_from v_t_value v_t_planLength v_t_planAmount q5 v_t_past q7) (c_X9_records z.2.1 k a_t a_t_s a_t_past a_t_aside a_t_text a_t_told a_t_bottoms a_t_planned v_t_pasts v_t_typed v_t_at v_t_kind v_t_from v_t_value v_t_planLength v_t_planAmount (upd v_t_s (Int32.toNatClampNeg (64 + x1)) x2) fuel 3 x1 q7 h8) Y_X9_records wm_1179 (by decide) rfl 0 rfl rfl rfl [0, 3] rfl (by decide) rfl [some 0, none, none, some 1] (by decide) rfl (Nat.le_of_ble_eq_true rfl) rfl dX9_lubricate_54 ?_
        refine mg_aload_n (pc := 57) C 0 dX9_lubricate_57 rfl rfl ?_
        refine mg_aload_n (pc := 58) C 0 dX9_lubricate_58 rfl rfl ?_
        refine mg_get (pc := 59) C 0 rfl rfl inX9 0 (by decide) wm_874 rfl rfl dX9_lubricate_59 ?_
        refine mg_bipush (pc := 62) C dX9_lubricate_62 (v := 64) (by decide) ?_
        refine mg_ialdK (pc := 64) C 3 64 rfl dX9_lubricate_64 (by decide) (by decide) ?_
        refine mg_aload_n (pc := 65) C 0 dX9_lubricate_65 rfl rfl ?_
        refine mg_get (pc := 66) C 0 rfl rfl inX9 0 (by decide) wm_874 rfl rfl dX9_lubricate_66 ?_
        refine mg_bipush (pc := 69) C dX9_lubricate_69 (v := 65) (by decide) ?_
        refine mg_ialdK (pc := 71) C 3 65 rfl dX9_lubricate_71 (by decide) (by decide) ?_
        refine mg_iadd (pc := 72) C dX9_lubricate_72 ?_
        refine mg_aload_n (pc := 73) C 0 dX9_lubricate_73 rfl rfl ?_
        refine mg_get (pc := 74) C 0 rfl rfl inX9 0 (by decide) wm_874 rfl rfl dX9_lubricate_74 ?_
        refine mg_bipush (pc := 77) C dX9_lubricate_77 (v := 66) (by decide) ?_
        refine mg_ialdK (pc := 79) C 3 66 rfl dX9_lubricate_79 (by decide) (by decide) ?_
        refine mg_iadd (pc := 80) C dX9_lubricate_80 ?_
        refine mg_aload_n (pc := 81) C 0 dX9_lubricate_81 rfl rfl ?_
        refine mg_get (pc := 82) C 0 rfl rfl inX9 0 (by decide) wm_874 rfl rfl dX9_lubricate_82 ?_
        refine mg_bipush (pc := 85) C dX9_lubricate_85 (v := 67) (by decide) ?_
        refine mg_ialdK (pc := 87) C 3 67 rfl dX9_lubricate_87 (by decide) (by decide) ?_
        refine mg_iadd (pc := 88) C dX9_lubricate_88 ?_
        obtain ⟨q9, h10, hf⟩ := mg_b hf
        refine mg_callV (pc := 89) C (w2 := w_X9_lubricate k a_t a_t_s a_t_past a_t_aside a_t_text a_t_told a_t_bottoms a_t_planned q9.2.1 v_t_typed v_t_at v_t_kind v_t_from v_t_value v_t_planLength v_t_planAmount q5 q9.2.2 q7) (c_X9_ends z.2.1 k a_t a_t_s a_t_past a_t_aside a_t_text a_t_told a_t_bottoms a_t_planned v_t_pasts v_t_typed v_t_at v_t_kind v_t_from v_t_value v_t_planLength v_t_planAmount q5 v_t_past fuel ((((q7 64) + (q7 65)) + (q7 66)) + (q7 67)) q9 h10) Y_X9_ends wm_1004 (by decide) rfl 0 rfl rfl rfl [0, 1, 2] rfl (by decide) rfl [some 0, some 1, some 2, none] (by decide) rfl (Nat.le_of_ble_eq_true rfl) rfl dX9_lubricate_89 ?_
        obtain rfl := Option.some.inj hf
        exact E _ _ dX9_lubricate_92
      · refine mg_ldc (pc := 34) C wm_1036 dX9_lubricate_34 ?_
        obtain rfl := Option.some.inj hf
        exact E _ _ dX9_lubricate_36
    · refine mg_ldc (pc := 18) C wm_927 dX9_lubricate_18 ?_
      obtain rfl := Option.some.inj hf
      exact E _ _ dX9_lubricate_20
abbrev w_X9_reachable (k : mg_K) (a_t a_t_s a_t_past a_t_aside a_t_text a_t_told a_t_bottoms a_t_planned : Nat) (v_t_pasts : Int32) (v_t_typed : Int32) (v_t_at : Int32) (v_t_kind : Int32) (v_t_from : Int32) (v_t_value : Int32) (v_t_planLength : Int32) (v_t_planAmount : Int32) (v_t_s : Nat → Int32) : va_W := [(a_t, .inr (9, [.ref a_t_s, .ref a_t_past, .ref a_t_aside, .int v_t_pasts, .ref a_t_text, .int v_t_typed, .int v_t_at, .int v_t_kind, .int v_t_from, .int v_t_value, .ref a_t_told, .ref a_t_bottoms, .ref a_t_planned, .int v_t_planLength, .int v_t_planAmount])), (a_t_s, .inl (k.2.1, 227, .inl v_t_s))]
def f_X9_reachable_L56 (v_t_s : Nat → Int32) (x1 : Int32) (x3 : Int32) (x4 : Int32) : Nat → Int32 → Int32 → Option (Int32 × Int32)
  | 0, _, _ => none
  | n_ + 1, x5, x6 => if x6 < 0 then (some ((x5, x6))) else (if mg_ix (34 + (3 * x6)) 227 = true then (if (v_t_s (Int32.toNatClampNeg (34 + (3 * x6)))) = x1 then (if mg_ix ((34 + (3 * x6)) + 1) 227 = true then ((f_X9_in (v_t_s (Int32.toNatClampNeg ((34 + (3 * x6)) + 1))) x3 x4).bind (fun q3 => if q3 = 0 then (f_X9_reachable_L56 v_t_s x1 x3 x4 n_ x5 (x6 + (-1))) else (f_X9_reachable_L56 v_t_s x1 x3 x4 n_ x6 (x6 + (-1))))) else none) else (f_X9_reachable_L56 v_t_s x1 x3 x4 n_ x5 (x6 + (-1)))) else none)
def f_X9_reachable_J39 (fuel : Nat) (v_t_s : Nat → Int32) (x1 : Int32) (x3 : Int32) (y0 : Int32) : Option (Int32) := (f_X9_reachable_L56 v_t_s x1 x3 y0 fuel (-1000009) ((v_t_s 33) - 1)).bind (fun q5 => some q5.1)
def f_X9_reachable_J23 (fuel : Nat) (v_t_s : Nat → Int32) (x1 : Int32) (x2 : Int32) (y0 : Int32) : Option (Int32) := if x2 = 0 then (f_X9_reachable_J39 fuel v_t_s x1 y0 (y0 + 1)) else ((f_X9_edgeDepth v_t_s x1).bind (fun q7 => f_X9_reachable_J39 fuel v_t_s x1 y0 q7))
def f_X9_reachable (fuel : Nat) (v_t_s : Nat → Int32) (x1 : Int32) : Option (Int32) := (f_X9_isEdge v_t_s x1).bind (fun q1 => if q1 = 0 then (if mg_ix (117 + x1) 227 = true then (f_X9_reachable_J23 fuel v_t_s x1 q1 (v_t_s (Int32.toNatClampNeg (117 + x1)))) else none) else (f_X9_reachable_J23 fuel v_t_s x1 q1 0))
theorem Y_X9_reachable : mg_Y yX9_reachable cX9_reachable 7 (some .int) 1 := ⟨wm_1205, wp_61, wm_11, wm_1206, ⟨by decide +kernel, by decide +kernel, by decide +kernel⟩, by decide⟩
set_option maxRecDepth 100000 in
set_option maxHeartbeats 4000000 in
theorem c_X9_reachable (l : Launch) (k : mg_K) (a_t a_t_s a_t_past a_t_aside a_t_text a_t_told a_t_bottoms a_t_planned : Nat) (v_t_pasts : Int32) (v_t_typed : Int32) (v_t_at : Int32) (v_t_kind : Int32) (v_t_from : Int32) (v_t_value : Int32) (v_t_planLength : Int32) (v_t_planAmount : Int32) (v_t_s : Nat → Int32) (fuel : Nat) (x1 : Int32) (q : Int32) (hf : f_X9_reachable fuel v_t_s x1 = some q) : mg_M l yX9_reachable cX9_reachable 7 (some .int) 3 k [.ref a_t, .int x1] (w_X9_reachable k a_t a_t_s a_t_past a_t_aside a_t_text a_t_told a_t_bottoms a_t_planned v_t_pasts v_t_typed v_t_at v_t_kind v_t_from v_t_value v_t_planLength v_t_planAmount v_t_s) (w_X9_reachable k a_t a_t_s a_t_past a_t_aside a_t_text a_t_told a_t_bottoms a_t_planned v_t_pasts v_t_typed v_t_at v_t_kind v_t_from v_t_value v_t_planLength v_t_planAmount v_t_s) (some (.int q)) := by
  refine mg_Mi RX9 [(0, .ref a_t), (1, .int x1)] (by decide +kernel) rfl rfl (Nat.le_of_ble_eq_true rfl) ?_
  intro z A Q hl C E
  subst hl
  unfold f_X9_reachable at hf
  have L56 : ∀ (x1 : Int32) (x3 : Int32) (x4 : Int32) (n_ : Nat) (x5 : Int32) (x6 : Int32) (q_ : Int32 × Int32), f_X9_reachable_L56 v_t_s x1 x3 x4 n_ x5 x6 = some q_ → (mg z k A 7 0 0 Q (w_X9_reachable k a_t a_t_s a_t_past a_t_aside a_t_text a_t_told a_t_bottoms a_t_planned v_t_pasts v_t_typed v_t_at v_t_kind v_t_from v_t_value v_t_planLength v_t_planAmount v_t_s) [(5, .int q_.1)] 115 []) → mg z k A 7 0 0 Q (w_X9_reachable k a_t a_t_s a_t_past a_t_aside a_t_text a_t_told a_t_bottoms a_t_planned v_t_pasts v_t_typed v_t_at v_t_kind v_t_from v_t_value v_t_planLength v_t_planAmount v_t_s) [(0, .ref a_t), (1, .int x1), (3, .int x3), (4, .int x4), (5, .int x5), (6, .int x6)] 56 [] := by
    intro x1 x3 x4 n_
    induction n_ with
    | zero => intro x5 x6 q_ hf; exact mg_no (show none = some q_ from hf)
    | succ n_ ih =>
      intro x5 x6 q_ hf X0
      rw [f_X9_reachable_L56] at hf
      refine mg_iload (pc := 56) C 5 dX9_reachable_56 rfl ?_
      refine mg_if_lt (pc := 58) (tgt := 115) C dX9_reachable_58 (by decide) hf (fun hf => ?_) (fun hf => ?_)
      · obtain rfl := Option.some.inj hf
        refine mg_lv [4] rfl ?_
        exact X0
      · refine mg_aload_n (pc := 61) C 0 dX9_reachable_61 rfl rfl ?_
        refine mg_get (pc := 62) C 0 rfl rfl inX9 0 (by decide) wm_874 rfl rfl dX9_reachable_62 ?_
        refine mg_bipush (pc := 65) C dX9_reachable_65 (v := 34) (by decide) ?_
        refine mg_iconst (pc := 67) C dX9_reachable_67 (v := 3) (by decide) ?_
        refine mg_iload (pc := 68) C 5 dX9_reachable_68 rfl ?_
        refine mg_imul (pc := 70) C dX9_reachable_70 ?_
        refine mg_iadd (pc := 71) C dX9_reachable_71 ?_
        refine mg_iald (pc := 72) C 1 rfl dX9_reachable_72 hf (fun hf => ?_)
        refine mg_iload_n (pc := 73) C 1 dX9_reachable_73 rfl rfl ?_
        refine mg_icmp_ne (pc := 74) (tgt := 105) C dX9_reachable_74 (by decide) hf (fun hf => ?_) (fun hf => ?_)
        · refine mg_iload (pc := 105) C 4 dX9_reachable_105 rfl ?_
          refine mg_istore (pc := 107) C (lv' := [(5, .int x5), (0, .ref a_t), (1, .int x1), (3, .int x3), (4, .int x4), (6, .int x6)]) dX9_reachable_107 (by decide) rfl ?_
          refine mg_iinc (pc := 109) C (c := (-1)) (lv' := [(6, .int (x6 + (-1))), (5, .int x5), (0, .ref a_t), (1, .int x1), (3, .int x3), (4, .int x4)]) 5 dX9_reachable_109 rfl (by decide) (by decide) rfl ?_
          refine mg_goto (pc := 112) (tgt := 56) C dX9_reachable_112 (by decide) ?_
          refine mg_lv [2, 3, 4, 5, 1, 0] rfl ?_
          exact ih x5 (x6 + (-1)) _ hf X0
        · refine mg_aload_n (pc := 77) C 0 dX9_reachable_77 rfl rfl ?_
          refine mg_get (pc := 78) C 0 rfl rfl inX9 0 (by decide) wm_874 rfl rfl dX9_reachable_78 ?_
          refine mg_bipush (pc := 81) C dX9_reachable_81 (v := 34) (by decide) ?_
          refine mg_iconst (pc := 83) C dX9_reachable_83 (v := 3) (by decide) ?_
          refine mg_iload (pc := 84) C 5 dX9_reachable_84 rfl ?_
          refine mg_imul (pc := 86) C dX9_reachable_86 ?_
          refine mg_iadd (pc := 87) C dX9_reachable_87 ?_
          refine mg_iconst (pc := 88) C dX9_reachable_88 (v := 1) (by decide) ?_
          refine mg_iadd (pc := 89) C dX9_reachable_89 ?_
          refine mg_iald (pc := 90) C 1 rfl dX9_reachable_90 hf (fun hf => ?_)
          refine mg_iload_n (pc := 91) C 2 dX9_reachable_91 rfl rfl ?_
          refine mg_iload (pc := 92) C 3 dX9_reachable_92 rfl ?_
          obtain ⟨q3, h4, hf⟩ := mg_b hf
          refine mg_callS (pc := 94) C (w2 := w_X9_reachable k a_t a_t_s a_t_past a_t_aside a_t_text a_t_told a_t_bottoms a_t_planned v_t_pasts v_t_typed v_t_at v_t_kind v_t_from v_t_value v_t_planLength v_t_planAmount v_t_s) (c_X9_in z.2.1 k (v_t_s (Int32.toNatClampNeg ((34 + (3 * x6)) + 1))) x3 x4 q3 h4) Y_X9_in wm_924 (by decide) rfl [] rfl (by decide) rfl [none, none] (by decide) rfl (Nat.le_of_ble_eq_true rfl) rfl dX9_reachable_94 ?_
          refine mg_if_eq (pc := 97) (tgt := 105) C dX9_reachable_97 (by decide) hf (fun hf => ?_) (fun hf => ?_)
          · refine mg_iload (pc := 105) C 4 dX9_reachable_105 rfl ?_
            refine mg_istore (pc := 107) C (lv' := [(5, .int x5), (0, .ref a_t), (1, .int x1), (3, .int x3), (4, .int x4), (6, .int x6)]) dX9_reachable_107 (by decide) rfl ?_
            refine mg_iinc (pc := 109) C (c := (-1)) (lv' := [(6, .int (x6 + (-1))), (5, .int x5), (0, .ref a_t), (1, .int x1), (3, .int x3), (4, .int x4)]) 5 dX9_reachable_109 rfl (by decide) (by decide) rfl ?_
            refine mg_goto (pc := 112) (tgt := 56) C dX9_reachable_112 (by decide) ?_
            refine mg_lv [2, 3, 4, 5, 1, 0] rfl ?_
            exact ih x5 (x6 + (-1)) _ hf X0
          · refine mg_iload (pc := 100) C 5 dX9_reachable_100 rfl ?_
            refine mg_goto (pc := 102) (tgt := 107) C dX9_reachable_102 (by decide) ?_
            refine mg_istore (pc := 107) C (lv' := [(5, .int x6), (0, .ref a_t), (1, .int x1), (3, .int x3), (4, .int x4), (6, .int x6)]) dX9_reachable_107 (by decide) rfl ?_
            refine mg_iinc (pc := 109) C (c := (-1)) (lv' := [(6, .int (x6 + (-1))), (5, .int x6), (0, .ref a_t), (1, .int x1), (3, .int x3), (4, .int x4)]) 5 dX9_reachable_109 rfl (by decide) (by decide) rfl ?_
            refine mg_goto (pc := 112) (tgt := 56) C dX9_reachable_112 (by decide) ?_
            refine mg_lv [2, 3, 4, 5, 1, 0] rfl ?_
            exact ih x6 (x6 + (-1)) _ hf X0
  have J39 : ∀ (x1 : Int32) (x3 : Int32) (y0 : Int32), f_X9_reachable_J39 fuel v_t_s x1 x3 y0 = some q → mg z k A 7 0 0 Q (w_X9_reachable k a_t a_t_s a_t_past a_t_aside a_t_text a_t_told a_t_bottoms a_t_planned v_t_pasts v_t_typed v_t_at v_t_kind v_t_from v_t_value v_t_planLength v_t_planAmount v_t_s) [(0, .ref a_t), (1, .int x1), (3, .int x3)] 39 [.int y0] := by
    intro x1 x3 y0 hf
    unfold f_X9_reachable_J39 at hf
    refine mg_istore (pc := 39) C (lv' := [(4, .int y0), (0, .ref a_t), (1, .int x1), (3, .int x3)]) dX9_reachable_39 (by decide) rfl ?_
    refine mg_ldc (pc := 41) C wm_964 dX9_reachable_41 ?_
    refine mg_istore (pc := 43) C (lv' := [(5, .int (-1000009)), (4, .int y0), (0, .ref a_t), (1, .int x1), (3, .int x3)]) dX9_reachable_43 (by decide) rfl ?_
    refine mg_aload_n (pc := 45) C 2 dX9_reachable_45 rfl rfl ?_
    refine mg_get (pc := 46) C 0 rfl rfl inX9 0 (by decide) wm_874 rfl rfl dX9_reachable_46 ?_
    refine mg_bipush (pc := 49) C dX9_reachable_49 (v := 33) (by decide) ?_
    refine mg_ialdK (pc := 51) C 1 33 rfl dX9_reachable_51 (by decide) (by decide) ?_
    refine mg_iconst (pc := 52) C dX9_reachable_52 (v := 1) (by decide) ?_
    refine mg_isub (pc := 53) C dX9_reachable_53 ?_
    refine mg_istore (pc := 54) C (lv' := [(6, .int ((v_t_s 33) - 1)), (5, .int (-1000009)), (4, .int y0), (0, .ref a_t), (1, .int x1), (3, .int x3)]) dX9_reachable_54 (by decide) rfl ?_
    obtain ⟨q5, h6, hf⟩ := mg_b hf
    refine mg_lv [3, 4, 5, 2, 1, 0] rfl ?_
    refine L56 x1 x3 y0 fuel (-1000009) ((v_t_s 33) - 1) q5 h6 ?_
    refine mg_iload (pc := 115) C 0 dX9_reachable_115 rfl ?_
    obtain rfl := Option.some.inj hf
    exact E _ _ dX9_reachable_117
  have J23 : ∀ (x1 : Int32) (x2 : Int32) (y0 : Int32), f_X9_reachable_J23 fuel v_t_s x1 x2 y0 = some q → mg z k A 7 0 0 Q (w_X9_reachable k a_t a_t_s a_t_past a_t_aside a_t_text a_t_told a_t_bottoms a_t_planned v_t_pasts v_t_typed v_t_at v_t_kind v_t_from v_t_value v_t_planLength v_t_planAmount v_t_s) [(0, .ref a_t), (1, .int x1), (2, .int x2)] 23 [.int y0] := by
    intro x1 x2 y0 hf
    unfold f_X9_reachable_J23 at hf
    refine mg_istore_n (pc := 23) C (lv' := [(3, .int y0), (0, .ref a_t), (1, .int x1), (2, .int x2)]) dX9_reachable_23 rfl (by decide) rfl ?_
    refine mg_iload_n (pc := 24) C 3 dX9_reachable_24 rfl rfl ?_
    refine mg_if_eq (pc := 25) (tgt := 36) C dX9_reachable_25 (by decide) hf (fun hf => ?_) (fun hf => ?_)
    · refine mg_iload_n (pc := 36) C 0 dX9_reachable_36 rfl rfl ?_
      refine mg_iconst (pc := 37) C dX9_reachable_37 (v := 1) (by decide) ?_
      refine mg_iadd (pc := 38) C dX9_reachable_38 ?_
      refine mg_lv [1, 2, 0] rfl ?_
      exact J39 x1 y0 (y0 + 1) hf
    · refine mg_aload_n (pc := 28) C 1 dX9_reachable_28 rfl rfl ?_
      refine mg_iload_n (pc := 29) C 2 dX9_reachable_29 rfl rfl ?_
      obtain ⟨q7, h8, hf⟩ := mg_b hf
      refine mg_callV (pc := 30) C (w2 := w_X9_reachable k a_t a_t_s a_t_past a_t_aside a_t_text a_t_told a_t_bottoms a_t_planned v_t_pasts v_t_typed v_t_at v_t_kind v_t_from v_t_value v_t_planLength v_t_planAmount v_t_s) (c_X9_edgeDepth z.2.1 k a_t a_t_s a_t_past a_t_aside a_t_text a_t_told a_t_bottoms a_t_planned v_t_pasts v_t_typed v_t_at v_t_kind v_t_from v_t_value v_t_planLength v_t_planAmount v_t_s x1 q7 h8) Y_X9_edgeDepth wm_1085 (by decide) rfl 0 rfl rfl rfl [0, 1] rfl (by decide) rfl [some 0, some 1] (by decide) rfl (Nat.le_of_ble_eq_true rfl) rfl dX9_reachable_30 ?_
      refine mg_goto (pc := 33) (tgt := 39) C dX9_reachable_33 (by decide) ?_
      refine mg_lv [1, 2, 0] rfl ?_
      exact J39 x1 y0 q7 hf
  refine mg_aload_n (pc := 0) C 0 dX9_reachable_0 rfl rfl ?_
  refine mg_iload_n (pc := 1) C 1 dX9_reachable_1 rfl rfl ?_
  obtain ⟨q1, h2, hf⟩ := mg_b hf
  refine mg_callV (pc := 2) C (w2 := w_X9_reachable k a_t a_t_s a_t_past a_t_aside a_t_text a_t_told a_t_bottoms a_t_planned v_t_pasts v_t_typed v_t_at v_t_kind v_t_from v_t_value v_t_planLength v_t_planAmount v_t_s) (c_X9_isEdge z.2.1 k a_t a_t_s a_t_past a_t_aside a_t_text a_t_told a_t_bottoms a_t_planned v_t_pasts v_t_typed v_t_at v_t_kind v_t_from v_t_value v_t_planLength v_t_planAmount v_t_s x1 q1 h2) Y_X9_isEdge wm_1069 (by decide) rfl 0 rfl rfl rfl [0, 1] rfl (by decide) rfl [some 0, some 1] (by decide) rfl (Nat.le_of_ble_eq_true rfl) rfl dX9_reachable_2 ?_
  refine mg_istore_n (pc := 5) C (lv' := [(2, .int q1), (0, .ref a_t), (1, .int x1)]) dX9_reachable_5 rfl (by decide) rfl ?_
  refine mg_iload_n (pc := 6) C 0 dX9_reachable_6 rfl rfl ?_
  refine mg_if_eq (pc := 7) (tgt := 14) C dX9_reachable_7 (by decide) hf (fun hf => ?_) (fun hf => ?_)
  · refine mg_aload_n (pc := 14) C 1 dX9_reachable_14 rfl rfl ?_
    refine mg_get (pc := 15) C 0 rfl rfl inX9 0 (by decide) wm_874 rfl rfl dX9_reachable_15 ?_
    refine mg_bipush (pc := 18) C dX9_reachable_18 (v := 117) (by decide) ?_
    refine mg_iload_n (pc := 20) C 2 dX9_reachable_20 rfl rfl ?_
    refine mg_iadd (pc := 21) C dX9_reachable_21 ?_
    refine mg_iald (pc := 22) C 1 rfl dX9_reachable_22 hf (fun hf => ?_)
    refine mg_lv [1, 2, 0] rfl ?_
    exact J23 x1 q1 (v_t_s (Int32.toNatClampNeg (117 + x1))) hf
  · refine mg_iconst (pc := 10) C dX9_reachable_10 (v := 0) (by decide) ?_
    refine mg_goto (pc := 11) (tgt := 23) C dX9_reachable_11 (by decide) ?_
    refine mg_lv [1, 2, 0] rfl ?_
    exact J23 x1 q1 0 hf
abbrev w_X9_blast (k : mg_K) (a_t a_t_s a_t_past a_t_aside a_t_text a_t_told a_t_bottoms a_t_planned : Nat) (v_t_pasts : Int32) (v_t_typed : Int32) (v_t_at : Int32) (v_t_kind : Int32) (v_t_from : Int32) (v_t_value : Int32) (v_t_planLength : Int32) (v_t_planAmount : Int32) (v_t_aside : Nat → Int32) (v_t_past : Nat → Int32) (v_t_s : Nat → Int32) : va_W := [(a_t, .inr (9, [.ref a_t_s, .ref a_t_past, .ref a_t_aside, .int v_t_pasts, .ref a_t_text, .int v_t_typed, .int v_t_at, .int v_t_kind, .int v_t_from, .int v_t_value, .ref a_t_told, .ref a_t_bottoms, .ref a_t_planned, .int v_t_planLength, .int v_t_planAmount])), (a_t_aside, .inl (k.2.1, 227, .inl v_t_aside)), (a_t_past, .inl (k.2.1, 1362, .inl v_t_past)), (a_t_s, .inl (k.2.1, 227, .inl v_t_s))]
def f_X9_blast_L97 : Nat → Int32 → (Nat → Int32) → Option (Int32 × (Nat → Int32))
  | 0, _, _ => none
  | n_ + 1, x5, v_t_s => if (3 * (v_t_s 33)) ≤ x5 then (some ((x5, v_t_s))) else (if mg_ix ((34 + x5) + 3) 227 = true then (if mg_ix (34 + x5) 227 = true then (f_X9_blast_L97 n_ (x5 + 1) (upd v_t_s (Int32.toNatClampNeg (34 + x5)) (v_t_s (Int32.toNatClampNeg ((34 + x5) + 3))))) else none) else none)
def f_X9_blast (fuel : Nat) (v_t_pasts : Int32) (v_t_aside : Nat → Int32) (v_t_past : Nat → Int32) (v_t_s : Nat → Int32) (x1 : Int32) (x2 : Int32) : Option (Int32 × Int32 × (Nat → Int32) × (Nat → Int32) × (Nat → Int32)) := (f_X9_isCell v_t_s x1).bind (fun q1 => if q1 = 0 then (some ((-1000001), v_t_pasts, v_t_aside, v_t_past, v_t_s)) else ((f_X9_in x2 1 50).bind (fun q3 => if q3 = 0 then (some ((-1000001), v_t_pasts, v_t_aside, v_t_past, v_t_s)) else ((f_X9_reachable fuel v_t_s x1).bind (fun q5 => if 0 ≤ q5 then ((f_X9_hold fuel v_t_aside v_t_s).bind (fun q7 => if mg_ix ((34 + (3 * q5)) + 2) 227 = true then (if ((v_t_s (Int32.toNatClampNeg ((34 + (3 * q5)) + 2))) - x2) ≤ 0 then ((f_X9_blast_L97 fuel (3 * q5) (upd v_t_s 33 ((v_t_s 33) - 1))).bind (fun q9 => (f_X9_records fuel q9.2 4 x1).bind (fun q11 => (f_X9_ends fuel v_t_pasts q7 v_t_past 0).bind (fun q13 => some (q13.1, q13.2.1, q7, q13.2.2, q11))))) else (if mg_ix ((34 + (3 * q5)) + 2) 227 = true then ((f_X9_records fuel (upd v_t_s (Int32.toNatClampNeg ((34 + (3 * q5)) + 2)) ((v_t_s (Int32.toNatClampNeg ((34 + (3 * q5)) + 2))) - x2)) 4 x1).bind (fun q15 => (f_X9_ends fuel v_t_pasts q7 v_t_past ((v_t_s (Int32.toNatClampNeg ((34 + (3 * q5)) + 2))) - x2)).bind (fun q17 => some (q17.1, q17.2.1, q7, q17.2.2, q15)))) else none)) else none)) else (some ((-1000002), v_t_pasts, v_t_aside, v_t_past, v_t_s)))))))
theorem Y_X9_blast : mg_Y yX9_blast cX9_blast 6 (some .int) 2 := ⟨wm_1200, wm_1201, wm_11, wm_1202, ⟨by decide +kernel, by decide +kernel, by decide +kernel⟩, by decide⟩
set_option maxRecDepth 100000 in
set_option maxHeartbeats 4000000 in
theorem c_X9_blast (l : Launch) (k : mg_K) (a_t a_t_s a_t_past a_t_aside a_t_text a_t_told a_t_bottoms a_t_planned : Nat) (v_t_pasts : Int32) (v_t_typed : Int32) (v_t_at : Int32) (v_t_kind : Int32) (v_t_from : Int32) (v_t_value : Int32) (v_t_planLength : Int32) (v_t_planAmount : Int32) (v_t_aside : Nat → Int32) (v_t_past : Nat → Int32) (v_t_s : Nat → Int32) (fuel : Nat) (x1 : Int32) (x2 : Int32) (q : Int32 × Int32 × (Nat → Int32) × (Nat → Int32) × (Nat → Int32)) (hf : f_X9_blast fuel v_t_pasts v_t_aside v_t_past v_t_s x1 x2 = some q) : mg_M l yX9_blast cX9_blast 6 (some .int) 4 k [.ref a_t, .int x1, .int x2] (w_X9_blast k a_t a_t_s a_t_past a_t_aside a_t_text a_t_told a_t_bottoms a_t_planned v_t_pasts v_t_typed v_t_at v_t_kind v_t_from v_t_value v_t_planLength v_t_planAmount v_t_aside v_t_past v_t_s) (w_X9_blast k a_t a_t_s a_t_past a_t_aside a_t_text a_t_told a_t_bottoms a_t_planned q.2.1 v_t_typed v_t_at v_t_kind v_t_from v_t_value v_t_planLength v_t_planAmount q.2.2.1 q.2.2.2.1 q.2.2.2.2) (some (.int q.1)) := by
  refine mg_Mi RX9 [(0, .ref a_t), (1, .int x1), (2, .int x2)] (by decide +kernel) rfl rfl (Nat.le_of_ble_eq_true rfl) ?_
  intro z A Q hl C E
  subst hl
  unfold f_X9_blast at hf
  have L97 : ∀ (x1 : Int32) (x4 : Int32) (v_t_pasts : Int32) (v_t_aside : Nat → Int32) (v_t_past : Nat → Int32) (n_ : Nat) (x5 : Int32) (v_t_s : Nat → Int32) (q_ : Int32 × (Nat → Int32)), f_X9_blast_L97 n_ x5 v_t_s = some q_ → (mg z k A 6 0 0 Q (w_X9_blast k a_t a_t_s a_t_past a_t_aside a_t_text a_t_told a_t_bottoms a_t_planned v_t_pasts v_t_typed v_t_at v_t_kind v_t_from v_t_value v_t_planLength v_t_planAmount v_t_aside v_t_past q_.2) [(0, .ref a_t), (1, .int x1), (4, .int x4)] 139 []) → mg z k A 6 0 0 Q (w_X9_blast k a_t a_t_s a_t_past a_t_aside a_t_text a_t_told a_t_bottoms a_t_planned v_t_pasts v_t_typed v_t_at v_t_kind v_t_from v_t_value v_t_planLength v_t_planAmount v_t_aside v_t_past v_t_s) [(0, .ref a_t), (1, .int x1), (4, .int x4), (5, .int x5)] 97 [] := by
    intro x1 x4 v_t_pasts v_t_aside v_t_past n_
    induction n_ with
    | zero => intro x5 v_t_s q_ hf; exact mg_no (show none = some q_ from hf)
    | succ n_ ih =>
      intro x5 v_t_s q_ hf X0
      rw [f_X9_blast_L97] at hf
      refine mg_iload (pc := 97) C 3 dX9_blast_97 rfl ?_
      refine mg_iconst (pc := 99) C dX9_blast_99 (v := 3) (by decide) ?_
      refine mg_aload_n (pc := 100) C 0 dX9_blast_100 rfl rfl ?_
      refine mg_get (pc := 101) C 0 rfl rfl inX9 0 (by decide) wm_874 rfl rfl dX9_blast_101 ?_
      refine mg_bipush (pc := 104) C dX9_blast_104 (v := 33) (by decide) ?_
      refine mg_ialdK (pc := 106) C 3 33 rfl dX9_blast_106 (by decide) (by decide) ?_
      refine mg_imul (pc := 107) C dX9_blast_107 ?_
      refine mg_icmp_ge (pc := 108) (tgt := 139) C dX9_blast_108 (by decide) hf (fun hf => ?_) (fun hf => ?_)
      · obtain rfl := Option.some.inj hf
        refine mg_lv [0, 1, 2] rfl ?_
        exact X0
      · refine mg_aload_n (pc := 111) C 0 dX9_blast_111 rfl rfl ?_
        refine mg_get (pc := 112) C 0 rfl rfl inX9 0 (by decide) wm_874 rfl rfl dX9_blast_112 ?_
        refine mg_bipush (pc := 115) C dX9_blast_115 (v := 34) (by decide) ?_
        refine mg_iload (pc := 117) C 3 dX9_blast_117 rfl ?_
        refine mg_iadd (pc := 119) C dX9_blast_119 ?_
        refine mg_aload_n (pc := 120) C 0 dX9_blast_120 rfl rfl ?_
        refine mg_get (pc := 121) C 0 rfl rfl inX9 0 (by decide) wm_874 rfl rfl dX9_blast_121 ?_
        refine mg_bipush (pc := 124) C dX9_blast_124 (v := 34) (by decide) ?_
        refine mg_iload (pc := 126) C 3 dX9_blast_126 rfl ?_
        refine mg_iadd (pc := 128) C dX9_blast_128 ?_
        refine mg_iconst (pc := 129) C dX9_blast_129 (v := 3) (by decide) ?_
        refine mg_iadd (pc := 130) C dX9_blast_130 ?_
        refine mg_iald (pc := 131) C 3 rfl dX9_blast_131 hf (fun hf => ?_)
        refine mg_iast (pc := 132) C (w2 := w_X9_blast k a_t a_t_s a_t_past a_t_aside a_t_text a_t_told a_t_bottoms a_t_planned v_t_pasts v_t_typed v_t_at v_t_kind v_t_from v_t_value v_t_planLength v_t_planAmount v_t_aside v_t_past (upd v_t_s (Int32.toNatClampNeg (34 + x5)) (v_t_s (Int32.toNatClampNeg ((34 + x5) + 3))))) 3 rfl dX9_blast_132 hf rfl (fun hf => ?_)
        refine mg_iinc (pc := 133) C (c := 1) (lv' := [(5, .int (x5 + 1)), (0, .ref a_t), (1, .int x1), (4, .int x4)]) 3 dX9_blast_133 rfl (by decide) (by decide) rfl ?_
        refine mg_goto (pc := 136) (tgt := 97) C dX9_blast_136 (by decide) ?_
        refine mg_lv [1, 2, 3, 0] rfl ?_
        exact ih (x5 + 1) (upd v_t_s (Int32.toNatClampNeg (34 + x5)) (v_t_s (Int32.toNatClampNeg ((34 + x5) + 3)))) _ hf X0
  refine mg_aload_n (pc := 0) C 0 dX9_blast_0 rfl rfl ?_
  refine mg_iload_n (pc := 1) C 1 dX9_blast_1 rfl rfl ?_
  obtain ⟨q1, h2, hf⟩ := mg_b hf
  refine mg_callV (pc := 2) C (w2 := w_X9_blast k a_t a_t_s a_t_past a_t_aside a_t_text a_t_told a_t_bottoms a_t_planned v_t_pasts v_t_typed v_t_at v_t_kind v_t_from v_t_value v_t_planLength v_t_planAmount v_t_aside v_t_past v_t_s) (c_X9_isCell z.2.1 k a_t a_t_s a_t_past a_t_aside a_t_text a_t_told a_t_bottoms a_t_planned v_t_pasts v_t_typed v_t_at v_t_kind v_t_from v_t_value v_t_planLength v_t_planAmount v_t_s x1 q1 h2) Y_X9_isCell wm_1032 (by decide) rfl 0 rfl rfl rfl [0, 3] rfl (by decide) rfl [some 0, none, none, some 1] (by decide) rfl (Nat.le_of_ble_eq_true rfl) rfl dX9_blast_2 ?_
  refine mg_if_eq (pc := 5) (tgt := 18) C dX9_blast_5 (by decide) hf (fun hf => ?_) (fun hf => ?_)
  · refine mg_ldc (pc := 18) C wm_927 dX9_blast_18 ?_
    obtain rfl := Option.some.inj hf
    exact E _ _ dX9_blast_20
  · refine mg_iload_n (pc := 8) C 2 dX9_blast_8 rfl rfl ?_
    refine mg_iconst (pc := 9) C dX9_blast_9 (v := 1) (by decide) ?_
    refine mg_bipush (pc := 10) C dX9_blast_10 (v := 50) (by decide) ?_
    obtain ⟨q3, h4, hf⟩ := mg_b hf
    refine mg_callS (pc := 12) C (w2 := w_X9_blast k a_t a_t_s a_t_past a_t_aside a_t_text a_t_told a_t_bottoms a_t_planned v_t_pasts v_t_typed v_t_at v_t_kind v_t_from v_t_value v_t_planLength v_t_planAmount v_t_aside v_t_past v_t_s) (c_X9_in z.2.1 k x2 1 50 q3 h4) Y_X9_in wm_924 (by decide) rfl [] rfl (by decide) rfl [none, none, none, none] (by decide) rfl (Nat.le_of_ble_eq_true rfl) rfl dX9_blast_12 ?_
    refine mg_if_ne (pc := 15) (tgt := 21) C dX9_blast_15 (by decide) hf (fun hf => ?_) (fun hf => ?_)
    · refine mg_aload_n (pc := 21) C 0 dX9_blast_21 rfl rfl ?_
      refine mg_iload_n (pc := 22) C 1 dX9_blast_22 rfl rfl ?_
      obtain ⟨q5, h6, hf⟩ := mg_b hf
      refine mg_callV (pc := 23) C (w2 := w_X9_blast k a_t a_t_s a_t_past a_t_aside a_t_text a_t_told a_t_bottoms a_t_planned v_t_pasts v_t_typed v_t_at v_t_kind v_t_from v_t_value v_t_planLength v_t_planAmount v_t_aside v_t_past v_t_s) (c_X9_reachable z.2.1 k a_t a_t_s a_t_past a_t_aside a_t_text a_t_told a_t_bottoms a_t_planned v_t_pasts v_t_typed v_t_at v_t_kind v_t_from v_t_value v_t_planLength v_t_planAmount v_t_s fuel x1 q5 h6) Y_X9_reachable wm_1203 (by decide) rfl 0 rfl rfl rfl [0, 3] rfl (by decide) rfl [some 0, none, none, some 1] (by decide) rfl (Nat.le_of_ble_eq_true rfl) rfl dX9_blast_23 ?_
      refine mg_istore_n (pc := 26) C (lv' := [(3, .int q5), (0, .ref a_t), (1, .int x1), (2, .int x2)]) dX9_blast_26 rfl (by decide) rfl ?_
      refine mg_iload_n (pc := 27) C 0 dX9_blast_27 rfl rfl ?_
      refine mg_if_ge (pc := 28) (tgt := 34) C dX9_blast_28 (by decide) hf (fun hf => ?_) (fun hf => ?_)
      · refine mg_aload_n (pc := 34) C 1 dX9_blast_34 rfl rfl ?_
        obtain ⟨q7, h8, hf⟩ := mg_b hf
        refine mg_callV (pc := 35) C (w2 := w_X9_blast k a_t a_t_s a_t_past a_t_aside a_t_text a_t_told a_t_bottoms a_t_planned v_t_pasts v_t_typed v_t_at v_t_kind v_t_from v_t_value v_t_planLength v_t_planAmount q7 v_t_past v_t_s) (c_X9_hold z.2.1 k a_t a_t_s a_t_past a_t_aside a_t_text a_t_told a_t_bottoms a_t_planned v_t_pasts v_t_typed v_t_at v_t_kind v_t_from v_t_value v_t_planLength v_t_planAmount v_t_aside v_t_s fuel q7 h8) Y_X9_hold wm_937 (by decide) rfl 0 rfl rfl rfl [0, 1, 3] rfl (by decide) rfl [some 0, some 1, none, some 2] (by decide) rfl (Nat.le_of_ble_eq_true rfl) rfl dX9_blast_35 ?_
        refine mg_aload_n (pc := 38) C 1 dX9_blast_38 rfl rfl ?_
        refine mg_get (pc := 39) C 0 rfl rfl inX9 0 (by decide) wm_874 rfl rfl dX9_blast_39 ?_
        refine mg_bipush (pc := 42) C dX9_blast_42 (v := 34) (by decide) ?_
        refine mg_iconst (pc := 44) C dX9_blast_44 (v := 3) (by decide) ?_
        refine mg_iload_n (pc := 45) C 0 dX9_blast_45 rfl rfl ?_
        refine mg_imul (pc := 46) C dX9_blast_46 ?_
        refine mg_iadd (pc := 47) C dX9_blast_47 ?_
        refine mg_iconst (pc := 48) C dX9_blast_48 (v := 2) (by decide) ?_
        refine mg_iadd (pc := 49) C dX9_blast_49 ?_
        refine mg_iald (pc := 50) C 3 rfl dX9_blast_50 hf (fun hf => ?_)
        refine mg_iload_n (pc := 51) C 3 dX9_blast_51 rfl rfl ?_
        refine mg_isub (pc := 52) C dX9_blast_52 ?_
        refine mg_istore (pc := 53) C (lv' := [(4, .int ((v_t_s (Int32.toNatClampNeg ((34 + (3 * q5)) + 2))) - x2)), (3, .int q5), (0, .ref a_t), (1, .int x1), (2, .int x2)]) dX9_blast_53 (by decide) rfl ?_
        refine mg_iload (pc := 55) C 0 dX9_blast_55 rfl ?_
        refine mg_if_le (pc := 57) (tgt := 78) C dX9_blast_57 (by decide) hf (fun hf => ?_) (fun hf => ?_)
        · refine mg_iconst (pc := 78) C dX9_blast_78 (v := 0) (by decide) ?_
          refine mg_istore (pc := 79) C (lv' := [(4, .int 0), (3, .int q5), (0, .ref a_t), (1, .int x1), (2, .int x2)]) dX9_blast_79 (by decide) rfl ?_
          refine mg_aload_n (pc := 81) C 2 dX9_blast_81 rfl rfl ?_
          refine mg_get (pc := 82) C 0 rfl rfl inX9 0 (by decide) wm_874 rfl rfl dX9_blast_82 ?_
          refine mg_bipush (pc := 85) C dX9_blast_85 (v := 33) (by decide) ?_
          refine mg_dup2 (pc := 87) C dX9_blast_87 rfl rfl ?_
          refine mg_ialdK (pc := 88) C 3 33 rfl dX9_blast_88 (by decide) (by decide) ?_
          refine mg_iconst (pc := 89) C dX9_blast_89 (v := 1) (by decide) ?_
          refine mg_isub (pc := 90) C dX9_blast_90 ?_
          refine mg_iastK (pc := 91) C (w2 := w_X9_blast k a_t a_t_s a_t_past a_t_aside a_t_text a_t_told a_t_bottoms a_t_planned v_t_pasts v_t_typed v_t_at v_t_kind v_t_from v_t_value v_t_planLength v_t_planAmount q7 v_t_past (upd v_t_s 33 ((v_t_s 33) - 1))) 3 33 rfl dX9_blast_91 (by decide) (by decide) rfl ?_
          refine mg_iconst (pc := 92) C dX9_blast_92 (v := 3) (by decide) ?_
          refine mg_iload_n (pc := 93) C 1 dX9_blast_93 rfl rfl ?_
          refine mg_imul (pc := 94) C dX9_blast_94 ?_
          refine mg_istore (pc := 95) C (lv' := [(5, .int (3 * q5)), (4, .int 0), (3, .int q5), (0, .ref a_t), (1, .int x1), (2, .int x2)]) dX9_blast_95 (by decide) rfl ?_
          obtain ⟨q9, h10, hf⟩ := mg_b hf
          refine mg_lv [3, 4, 1, 0] rfl ?_
          refine L97 x1 0 v_t_pasts q7 v_t_past fuel (3 * q5) (upd v_t_s 33 ((v_t_s 33) - 1)) q9 h10 ?_
          refine mg_aload_n (pc := 139) C 0 dX9_blast_139 rfl rfl ?_
          refine mg_iconst (pc := 140) C dX9_blast_140 (v := 4) (by decide) ?_
          refine mg_iload_n (pc := 141) C 1 dX9_blast_141 rfl rfl ?_
          obtain ⟨q11, h12, hf⟩ := mg_b hf
          refine mg_callV (pc := 142) C (w2 := w_X9_blast k a_t a_t_s a_t_past a_t_aside a_t_text a_t_told a_t_bottoms a_t_planned v_t_pasts v_t_typed v_t_at v_t_kind v_t_from v_t_value v_t_planLength v_t_planAmount q7 v_t_past q11) (c_X9_records z.2.1 k a_t a_t_s a_t_past a_t_aside a_t_text a_t_told a_t_bottoms a_t_planned v_t_pasts v_t_typed v_t_at v_t_kind v_t_from v_t_value v_t_planLength v_t_planAmount q9.2 fuel 4 x1 q11 h12) Y_X9_records wm_1179 (by decide) rfl 0 rfl rfl rfl [0, 3] rfl (by decide) rfl [some 0, none, none, some 1] (by decide) rfl (Nat.le_of_ble_eq_true rfl) rfl dX9_blast_142 ?_
          refine mg_aload_n (pc := 145) C 0 dX9_blast_145 rfl rfl ?_
          refine mg_iload (pc := 146) C 2 dX9_blast_146 rfl ?_
          obtain ⟨q13, h14, hf⟩ := mg_b hf
          refine mg_callV (pc := 148) C (w2 := w_X9_blast k a_t a_t_s a_t_past a_t_aside a_t_text a_t_told a_t_bottoms a_t_planned q13.2.1 v_t_typed v_t_at v_t_kind v_t_from v_t_value v_t_planLength v_t_planAmount q7 q13.2.2 q11) (c_X9_ends z.2.1 k a_t a_t_s a_t_past a_t_aside a_t_text a_t_told a_t_bottoms a_t_planned v_t_pasts v_t_typed v_t_at v_t_kind v_t_from v_t_value v_t_planLength v_t_planAmount q7 v_t_past fuel 0 q13 h14) Y_X9_ends wm_1004 (by decide) rfl 0 rfl rfl rfl [0, 1, 2] rfl (by decide) rfl [some 0, some 1, some 2, none] (by decide) rfl (Nat.le_of_ble_eq_true rfl) rfl dX9_blast_148 ?_
          obtain rfl := Option.some.inj hf
          exact E _ _ dX9_blast_151
        · refine mg_aload_n (pc := 60) C 2 dX9_blast_60 rfl rfl ?_
          refine mg_get (pc := 61) C 0 rfl rfl inX9 0 (by decide) wm_874 rfl rfl dX9_blast_61 ?_
          refine mg_bipush (pc := 64) C dX9_blast_64 (v := 34) (by decide) ?_
          refine mg_iconst (pc := 66) C dX9_blast_66 (v := 3) (by decide) ?_
          refine mg_iload_n (pc := 67) C 1 dX9_blast_67 rfl rfl ?_
          refine mg_imul (pc := 68) C dX9_blast_68 ?_
          refine mg_iadd (pc := 69) C dX9_blast_69 ?_
          refine mg_iconst (pc := 70) C dX9_blast_70 (v := 2) (by decide) ?_
          refine mg_iadd (pc := 71) C dX9_blast_71 ?_
          refine mg_iload (pc := 72) C 0 dX9_blast_72 rfl ?_
          refine mg_iast (pc := 74) C (w2 := w_X9_blast k a_t a_t_s a_t_past a_t_aside a_t_text a_t_told a_t_bottoms a_t_planned v_t_pasts v_t_typed v_t_at v_t_kind v_t_from v_t_value v_t_planLength v_t_planAmount q7 v_t_past (upd v_t_s (Int32.toNatClampNeg ((34 + (3 * q5)) + 2)) ((v_t_s (Int32.toNatClampNeg ((34 + (3 * q5)) + 2))) - x2))) 3 rfl dX9_blast_74 hf rfl (fun hf => ?_)
          refine mg_goto (pc := 75) (tgt := 139) C dX9_blast_75 (by decide) ?_
          refine mg_aload_n (pc := 139) C 2 dX9_blast_139 rfl rfl ?_
          refine mg_iconst (pc := 140) C dX9_blast_140 (v := 4) (by decide) ?_
          refine mg_iload_n (pc := 141) C 3 dX9_blast_141 rfl rfl ?_
          obtain ⟨q15, h16, hf⟩ := mg_b hf
          refine mg_callV (pc := 142) C (w2 := w_X9_blast k a_t a_t_s a_t_past a_t_aside a_t_text a_t_told a_t_bottoms a_t_planned v_t_pasts v_t_typed v_t_at v_t_kind v_t_from v_t_value v_t_planLength v_t_planAmount q7 v_t_past q15) (c_X9_records z.2.1 k a_t a_t_s a_t_past a_t_aside a_t_text a_t_told a_t_bottoms a_t_planned v_t_pasts v_t_typed v_t_at v_t_kind v_t_from v_t_value v_t_planLength v_t_planAmount (upd v_t_s (Int32.toNatClampNeg ((34 + (3 * q5)) + 2)) ((v_t_s (Int32.toNatClampNeg ((34 + (3 * q5)) + 2))) - x2)) fuel 4 x1 q15 h16) Y_X9_records wm_1179 (by decide) rfl 0 rfl rfl rfl [0, 3] rfl (by decide) rfl [some 0, none, none, some 1] (by decide) rfl (Nat.le_of_ble_eq_true rfl) rfl dX9_blast_142 ?_
          refine mg_aload_n (pc := 145) C 2 dX9_blast_145 rfl rfl ?_
          refine mg_iload (pc := 146) C 0 dX9_blast_146 rfl ?_
          obtain ⟨q17, h18, hf⟩ := mg_b hf
          refine mg_callV (pc := 148) C (w2 := w_X9_blast k a_t a_t_s a_t_past a_t_aside a_t_text a_t_told a_t_bottoms a_t_planned q17.2.1 v_t_typed v_t_at v_t_kind v_t_from v_t_value v_t_planLength v_t_planAmount q7 q17.2.2 q15) (c_X9_ends z.2.1 k a_t a_t_s a_t_past a_t_aside a_t_text a_t_told a_t_bottoms a_t_planned v_t_pasts v_t_typed v_t_at v_t_kind v_t_from v_t_value v_t_planLength v_t_planAmount q7 v_t_past fuel ((v_t_s (Int32.toNatClampNeg ((34 + (3 * q5)) + 2))) - x2) q17 h18) Y_X9_ends wm_1004 (by decide) rfl 0 rfl rfl rfl [0, 1, 2] rfl (by decide) rfl [some 0, some 1, some 2, none] (by decide) rfl (Nat.le_of_ble_eq_true rfl) rfl dX9_blast_148 ?_
          obtain rfl := Option.some.inj hf
          exact E _ _ dX9_blast_151
      · refine mg_ldc (pc := 31) C wm_1036 dX9_blast_31 ?_
        obtain rfl := Option.some.inj hf
        exact E _ _ dX9_blast_33
    · refine mg_ldc (pc := 18) C wm_927 dX9_blast_18 ?_
      obtain rfl := Option.some.inj hf
      exact E _ _ dX9_blast_20
