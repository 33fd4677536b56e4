abbrev w_X5_replaceCaisson (k : mg_K) (a_t a_t_ballast a_t_lubricated a_t_pose a_t_ground a_t_boulders a_t_records a_t_boulders_list a_t_boulders_list_values a_t_pose_bottoms : Nat) (v_t_columns : Int32) (v_t_rows : Int32) (v_t_weight : Int32) (v_t_stiffness : Int32) (v_t_water : Int32) (v_t_ballast : Nat → Int32) (v_t_boulders_list_count : Int32) (v_t_lubricated : Nat → Int32) (v_t_pose_depth : Int32) (v_t_pose_tiltX : Int32) (v_t_pose_tiltY : Int32) (v_t_pose_bottoms : Nat → Int32) : va_W := [(a_t, .inr (5, [.int v_t_columns, .int v_t_rows, .int v_t_weight, .int v_t_stiffness, .int v_t_water, .ref a_t_ballast, .ref a_t_lubricated, .ref a_t_pose, .ref a_t_ground, .ref a_t_boulders, .ref a_t_records])), (a_t_ballast, .inl (k.2.1, 49, .inl v_t_ballast)), (a_t_boulders, .inr (0, [.ref a_t_boulders_list])), (a_t_boulders_list, .inr (7, [.int 10, .ref a_t_boulders_list_values, .int v_t_boulders_list_count])), (a_t_lubricated, .inl (k.2.1, 4, .inl v_t_lubricated)), (a_t_pose, .inr (4, [.int v_t_pose_depth, .int v_t_pose_tiltX, .int v_t_pose_tiltY, .ref a_t_pose_bottoms])), (a_t_pose_bottoms, .inl (k.2.1, 49, .inl v_t_pose_bottoms))]
def f_X5_replaceCaisson_L29 : Nat → Int32 → (Nat → Int32) → Option (Int32 × (Nat → Int32))
  | 0, _, _ => none
  | n_ + 1, x3, v_t_ballast => if 49 ≤ x3 then (some ((x3, v_t_ballast))) else (if mg_ix x3 49 = true then (f_X5_replaceCaisson_L29 n_ (x3 + 1) (upd v_t_ballast (Int32.toNatClampNeg x3) 0)) else none)
def f_X5_replaceCaisson_L53 : Nat → Int32 → (Nat → Int32) → Option (Int32 × (Nat → Int32))
  | 0, _, _ => none
  | n_ + 1, x3, v_t_lubricated => if 4 ≤ x3 then (some ((x3, v_t_lubricated))) else (if mg_ix x3 4 = true then (f_X5_replaceCaisson_L53 n_ (x3 + 1) (upd v_t_lubricated (Int32.toNatClampNeg x3) 0)) else none)
def f_X5_replaceCaisson (fuel : Nat) (v_t_ballast : Nat → Int32) (v_t_lubricated : Nat → Int32) (v_t_pose_bottoms : Nat → Int32) (x1 : Int32) (x2 : Int32) : Option (Int32 × Int32 × (Nat → Int32) × Int32 × (Nat → Int32) × Int32 × Int32 × Int32 × (Nat → Int32)) := (f_X4_clear fuel v_t_pose_bottoms).bind (fun q1 => (f_X7_clear).bind (fun q3 => (f_X5_replaceCaisson_L29 fuel 0 v_t_ballast).bind (fun q5 => (f_X5_replaceCaisson_L53 fuel 0 v_t_lubricated).bind (fun q7 => some (x1, x2, q5.2, q3, q7.2, q1.1, q1.2.1, q1.2.2.1, q1.2.2.2)))))
theorem Y_X5_replaceCaisson : mg_Y yX5_replaceCaisson cX5_replaceCaisson 4 none 2 := ⟨wm_127, wm_128, wm_3, wm_129, ⟨by decide +kernel, by decide +kernel, by decide +kernel⟩, by decide⟩
set_option maxRecDepth 100000 in
set_option maxHeartbeats 4000000 in
theorem c_X5_replaceCaisson (l : Launch) (k : mg_K) (a_t a_t_ballast a_t_lubricated a_t_pose a_t_ground a_t_boulders a_t_records a_t_boulders_list a_t_boulders_list_values a_t_pose_bottoms : Nat) (v_t_columns : Int32) (v_t_rows : Int32) (v_t_weight : Int32) (v_t_stiffness : Int32) (v_t_water : Int32) (v_t_ballast : Nat → Int32) (v_t_boulders_list_count : Int32) (v_t_lubricated : Nat → Int32) (v_t_pose_depth : Int32) (v_t_pose_tiltX : Int32) (v_t_pose_tiltY : Int32) (v_t_pose_bottoms : Nat → Int32) (fuel : Nat) (x1 : Int32) (x2 : Int32) (q : Int32 × Int32 × (Nat → Int32) × Int32 × (Nat → Int32) × Int32 × Int32 × Int32 × (Nat → Int32)) (hf : f_X5_replaceCaisson fuel v_t_ballast v_t_lubricated v_t_pose_bottoms x1 x2 = some q) : mg_M l yX5_replaceCaisson cX5_replaceCaisson 4 none 1 k [.ref a_t, .int x1, .int x2] (w_X5_replaceCaisson k a_t a_t_ballast a_t_lubricated a_t_pose a_t_ground a_t_boulders a_t_records a_t_boulders_list a_t_boulders_list_values a_t_pose_bottoms v_t_columns v_t_rows v_t_weight v_t_stiffness v_t_water v_t_ballast v_t_boulders_list_count v_t_lubricated v_t_pose_depth v_t_pose_tiltX v_t_pose_tiltY v_t_pose_bottoms) (w_X5_replaceCaisson k a_t a_t_ballast a_t_lubricated a_t_pose a_t_ground a_t_boulders a_t_records a_t_boulders_list a_t_boulders_list_values a_t_pose_bottoms q.1 q.2.1 v_t_weight v_t_stiffness v_t_water q.2.2.1 q.2.2.2.1 q.2.2.2.2.1 q.2.2.2.2.2.1 q.2.2.2.2.2.2.1 q.2.2.2.2.2.2.2.1 q.2.2.2.2.2.2.2.2) none := by
  refine mg_Mv RX5 [(0, .ref a_t), (1, .int x1), (2, .int x2)] (by decide +kernel) rfl rfl (Nat.le_of_ble_eq_true rfl) ?_
  intro z A Q hl C E
  subst hl
  unfold f_X5_replaceCaisson at hf
  have L29 : ∀ (v_t_columns : Int32) (v_t_rows : Int32) (v_t_boulders_list_count : Int32) (v_t_lubricated : Nat → Int32) (v_t_pose_depth : Int32) (v_t_pose_tiltX : Int32) (v_t_pose_tiltY : Int32) (v_t_pose_bottoms : Nat → Int32) (n_ : Nat) (x3 : Int32) (v_t_ballast : Nat → Int32) (q_ : Int32 × (Nat → Int32)), f_X5_replaceCaisson_L29 n_ x3 v_t_ballast = some q_ → (mg z k A 4 0 0 Q (w_X5_replaceCaisson k a_t a_t_ballast a_t_lubricated a_t_pose a_t_ground a_t_boulders a_t_records a_t_boulders_list a_t_boulders_list_values a_t_pose_bottoms v_t_columns v_t_rows v_t_weight v_t_stiffness v_t_water q_.2 v_t_boulders_list_count v_t_lubricated v_t_pose_depth v_t_pose_tiltX v_t_pose_tiltY v_t_pose_bottoms) [(0, .ref a_t)] 51 []) → mg z k A 4 0 0 Q (w_X5_replaceCaisson k a_t a_t_ballast a_t_lubricated a_t_pose a_t_ground a_t_boulders a_t_records a_t_boulders_list a_t_boulders_list_values a_t_pose_bottoms v_t_columns v_t_rows v_t_weight v_t_stiffness v_t_water v_t_ballast v_t_boulders_list_count v_t_lubricated v_t_pose_depth v_t_pose_tiltX v_t_pose_tiltY v_t_pose_bottoms) [(0, .ref a_t), (3, .int x3)] 29 [] := by
    intro v_t_columns v_t_rows v_t_boulders_list_count v_t_lubricated v_t_pose_depth v_t_pose_tiltX v_t_pose_tiltY v_t_pose_bottoms n_
    induction n_ with
    | zero => intro x3 v_t_ballast q_ hf; exact mg_no (show none = some q_ from hf)
    | succ n_ ih =>
      intro x3 v_t_ballast q_ hf X0
      rw [f_X5_replaceCaisson_L29] at hf
      refine mg_iload_n (pc := 29) C 1 dX5_replaceCaisson_29 rfl rfl ?_
      refine mg_aload_n (pc := 30) C 0 dX5_replaceCaisson_30 rfl rfl ?_
      refine mg_get (pc := 31) C 0 rfl rfl inX5 5 (by decide) wm_154 rfl rfl dX5_replaceCaisson_31 ?_
      refine mg_alen (pc := 34) C (v := 49) 1 0 rfl rfl rfl dX5_replaceCaisson_34 ?_
      refine mg_icmp_ge (pc := 35) (tgt := 51) C dX5_replaceCaisson_35 (by decide) hf (fun hf => ?_) (fun hf => ?_)
      · obtain rfl := Option.some.inj hf
        refine mg_lv [0] rfl ?_
        exact X0
      · refine mg_aload_n (pc := 38) C 0 dX5_replaceCaisson_38 rfl rfl ?_
        refine mg_get (pc := 39) C 0 rfl rfl inX5 5 (by decide) wm_154 rfl rfl dX5_replaceCaisson_39 ?_
        refine mg_iload_n (pc := 42) C 1 dX5_replaceCaisson_42 rfl rfl ?_
        refine mg_iconst (pc := 43) C dX5_replaceCaisson_43 (v := 0) (by decide) ?_
        refine mg_iast (pc := 44) C (w2 := w_X5_replaceCaisson k a_t a_t_ballast a_t_lubricated a_t_pose a_t_ground a_t_boulders a_t_records a_t_boulders_list a_t_boulders_list_values a_t_pose_bottoms v_t_columns v_t_rows v_t_weight v_t_stiffness v_t_water (upd v_t_ballast (Int32.toNatClampNeg x3) 0) v_t_boulders_list_count v_t_lubricated v_t_pose_depth v_t_pose_tiltX v_t_pose_tiltY v_t_pose_bottoms) 1 rfl dX5_replaceCaisson_44 hf rfl (fun hf => ?_)
        refine mg_iinc (pc := 45) C (c := 1) (lv' := [(3, .int (x3 + 1)), (0, .ref a_t)]) 1 dX5_replaceCaisson_45 rfl (by decide) (by decide) rfl ?_
        refine mg_goto (pc := 48) (tgt := 29) C dX5_replaceCaisson_48 (by decide) ?_
        refine mg_lv [1, 0] rfl ?_
        exact ih (x3 + 1) (upd v_t_ballast (Int32.toNatClampNeg x3) 0) _ hf X0
  have L53 : ∀ (v_t_columns : Int32) (v_t_rows : Int32) (v_t_ballast : Nat → Int32) (v_t_boulders_list_count : Int32) (v_t_pose_depth : Int32) (v_t_pose_tiltX : Int32) (v_t_pose_tiltY : Int32) (v_t_pose_bottoms : Nat → Int32) (n_ : Nat) (x3 : Int32) (v_t_lubricated : Nat → Int32) (q_ : Int32 × (Nat → Int32)), f_X5_replaceCaisson_L53 n_ x3 v_t_lubricated = some q_ → (mg z k A 4 0 0 Q (w_X5_replaceCaisson k a_t a_t_ballast a_t_lubricated a_t_pose a_t_ground a_t_boulders a_t_records a_t_boulders_list a_t_boulders_list_values a_t_pose_bottoms v_t_columns v_t_rows v_t_weight v_t_stiffness v_t_water v_t_ballast v_t_boulders_list_count q_.2 v_t_pose_depth v_t_pose_tiltX v_t_pose_tiltY v_t_pose_bottoms) [] 75 []) → mg z k A 4 0 0 Q (w_X5_replaceCaisson k a_t a_t_ballast a_t_lubricated a_t_pose a_t_ground a_t_boulders a_t_records a_t_boulders_list a_t_boulders_list_values a_t_pose_bottoms v_t_columns v_t_rows v_t_weight v_t_stiffness v_t_water v_t_ballast v_t_boulders_list_count v_t_lubricated v_t_pose_depth v_t_pose_tiltX v_t_pose_tiltY v_t_pose_bottoms) [(0, .ref a_t), (3, .int x3)] 53 [] := by
    intro v_t_columns v_t_rows v_t_ballast v_t_boulders_list_count v_t_pose_depth v_t_pose_tiltX v_t_pose_tiltY v_t_pose_bottoms n_
    induction n_ with
    | zero => intro x3 v_t_lubricated q_ hf; exact mg_no (show none = some q_ from hf)
    | succ n_ ih =>
      intro x3 v_t_lubricated q_ hf X0
      rw [f_X5_replaceCaisson_L53] at hf
      refine mg_iload_n (pc := 53) C 1 dX5_replaceCaisson_53 rfl rfl ?_
      refine mg_aload_n (pc := 54) C 0 dX5_replaceCaisson_54 rfl rfl ?_
      refine mg_get (pc := 55) C 0 rfl rfl inX5 6 (by decide) wm_155 rfl rfl dX5_replaceCaisson_55 ?_
      refine mg_alen (pc := 58) C (v := 4) 4 0 rfl rfl rfl dX5_replaceCaisson_58 ?_
      refine mg_icmp_ge (pc := 59) (tgt := 75) C dX5_replaceCaisson_59 (by decide) hf (fun hf => ?_) (fun hf => ?_)
      · obtain rfl := Option.some.inj hf
        refine mg_lv [] rfl ?_
        exact X0
      · refine mg_aload_n (pc := 62) C 0 dX5_replaceCaisson_62 rfl rfl ?_
        refine mg_get (pc := 63) C 0 rfl rfl inX5 6 (by decide) wm_155 rfl rfl dX5_replaceCaisson_63 ?_
        refine mg_iload_n (pc := 66) C 1 dX5_replaceCaisson_66 rfl rfl ?_
        refine mg_iconst (pc := 67) C dX5_replaceCaisson_67 (v := 0) (by decide) ?_
        refine mg_iast (pc := 68) C (w2 := w_X5_replaceCaisson k a_t a_t_ballast a_t_lubricated a_t_pose a_t_ground a_t_boulders a_t_records a_t_boulders_list a_t_boulders_list_values a_t_pose_bottoms v_t_columns v_t_rows v_t_weight v_t_stiffness v_t_water v_t_ballast v_t_boulders_list_count (upd v_t_lubricated (Int32.toNatClampNeg x3) 0) v_t_pose_depth v_t_pose_tiltX v_t_pose_tiltY v_t_pose_bottoms) 4 rfl dX5_replaceCaisson_68 hf rfl (fun hf => ?_)
        refine mg_iinc (pc := 69) C (c := 1) (lv' := [(3, .int (x3 + 1)), (0, .ref a_t)]) 1 dX5_replaceCaisson_69 rfl (by decide) (by decide) rfl ?_
        refine mg_goto (pc := 72) (tgt := 53) C dX5_replaceCaisson_72 (by decide) ?_
        refine mg_lv [1, 0] rfl ?_
        exact ih (x3 + 1) (upd v_t_lubricated (Int32.toNatClampNeg x3) 0) _ hf X0
  refine mg_aload_n (pc := 0) C 0 dX5_replaceCaisson_0 rfl rfl ?_
  refine mg_iload_n (pc := 1) C 1 dX5_replaceCaisson_1 rfl rfl ?_
  refine mg_puti (pc := 2) C (w2 := w_X5_replaceCaisson k a_t a_t_ballast a_t_lubricated a_t_pose a_t_ground a_t_boulders a_t_records a_t_boulders_list a_t_boulders_list_values a_t_pose_bottoms x1 v_t_rows v_t_weight v_t_stiffness v_t_water v_t_ballast v_t_boulders_list_count v_t_lubricated v_t_pose_depth v_t_pose_tiltX v_t_pose_tiltY v_t_pose_bottoms) 0 rfl rfl inX5 0 (by decide) wm_135 rfl tyX5 tyX5_ok nmX5 rfl (by decide +kernel) (Nat.le_of_ble_eq_true rfl) rfl dX5_replaceCaisson_2 ?_
  refine mg_aload_n (pc := 5) C 0 dX5_replaceCaisson_5 rfl rfl ?_
  refine mg_iload_n (pc := 6) C 2 dX5_replaceCaisson_6 rfl rfl ?_
  refine mg_puti (pc := 7) C (w2 := w_X5_replaceCaisson k a_t a_t_ballast a_t_lubricated a_t_pose a_t_ground a_t_boulders a_t_records a_t_boulders_list a_t_boulders_list_values a_t_pose_bottoms x1 x2 v_t_weight v_t_stiffness v_t_water v_t_ballast v_t_boulders_list_count v_t_lubricated v_t_pose_depth v_t_pose_tiltX v_t_pose_tiltY v_t_pose_bottoms) 0 rfl rfl inX5 1 (by decide) wm_139 rfl tyX5 tyX5_ok nmX5 rfl (by decide +kernel) (Nat.le_of_ble_eq_true rfl) rfl dX5_replaceCaisson_7 ?_
  refine mg_aload_n (pc := 10) C 0 dX5_replaceCaisson_10 rfl rfl ?_
  refine mg_get (pc := 11) C 0 rfl rfl inX5 7 (by decide) wm_157 rfl rfl dX5_replaceCaisson_11 ?_
  obtain ⟨q1, h2, hf⟩ := mg_b hf
  refine mg_callV (pc := 14) C (w2 := w_X5_replaceCaisson k a_t a_t_ballast a_t_lubricated a_t_pose a_t_ground a_t_boulders a_t_records a_t_boulders_list a_t_boulders_list_values a_t_pose_bottoms x1 x2 v_t_weight v_t_stiffness v_t_water v_t_ballast v_t_boulders_list_count v_t_lubricated q1.1 q1.2.1 q1.2.2.1 q1.2.2.2) (c_X4_clear z.2.1 k a_t_pose a_t_pose_bottoms v_t_pose_depth v_t_pose_tiltX v_t_pose_tiltY v_t_pose_bottoms fuel q1 h2) Y_X4_clear wm_130 (by decide) rfl 5 rfl rfl rfl [5, 6] rfl (by decide) rfl [none, none, none, none, none, some 0, some 1] (by decide) rfl (Nat.le_of_ble_eq_true rfl) rfl dX5_replaceCaisson_14 ?_
  refine mg_aload_n (pc := 17) C 0 dX5_replaceCaisson_17 rfl rfl ?_
  refine mg_get (pc := 18) C 0 rfl rfl inX5 9 (by decide) wm_164 rfl rfl dX5_replaceCaisson_18 ?_
  refine mg_get (pc := 21) C 2 rfl rfl inX0 0 (by decide) wm_110 rfl rfl dX5_replaceCaisson_21 ?_
  obtain ⟨q3, h4, hf⟩ := mg_b hf
  refine mg_callV (pc := 24) C (w2 := w_X5_replaceCaisson k a_t a_t_ballast a_t_lubricated a_t_pose a_t_ground a_t_boulders a_t_records a_t_boulders_list a_t_boulders_list_values a_t_pose_bottoms x1 x2 v_t_weight v_t_stiffness v_t_water v_t_ballast q3 v_t_lubricated q1.1 q1.2.1 q1.2.2.1 q1.2.2.2) (c_X7_clear z.2.1 k a_t_boulders_list a_t_boulders_list_values 10 v_t_boulders_list_count q3 h4) Y_X7_clear wm_122 (by decide) rfl 3 rfl rfl rfl [3] rfl (by decide) rfl [none, none, none, some 0, none, none, none] (by decide) rfl (Nat.le_of_ble_eq_true rfl) rfl dX5_replaceCaisson_24 ?_
  refine mg_iconst (pc := 27) C dX5_replaceCaisson_27 (v := 0) (by decide) ?_
  refine mg_istore_n (pc := 28) C (lv' := [(3, .int 0), (0, .ref a_t), (1, .int x1), (2, .int x2)]) dX5_replaceCaisson_28 rfl (by decide) rfl ?_
  obtain ⟨q5, h6, hf⟩ := mg_b hf
  refine mg_lv [1, 0] rfl ?_
  refine L29 x1 x2 q3 v_t_lubricated q1.1 q1.2.1 q1.2.2.1 q1.2.2.2 fuel 0 v_t_ballast q5 h6 ?_
  refine mg_iconst (pc := 51) C dX5_replaceCaisson_51 (v := 0) (by decide) ?_
  refine mg_istore_n (pc := 52) C (lv' := [(3, .int 0), (0, .ref a_t)]) dX5_replaceCaisson_52 rfl (by decide) rfl ?_
  obtain ⟨q7, h8, hf⟩ := mg_b hf
  refine mg_lv [1, 0] rfl ?_
  refine L53 x1 x2 q5.2 q3 q1.1 q1.2.1 q1.2.2.1 q1.2.2.2 fuel 0 v_t_lubricated q7 h8 ?_
  obtain rfl := Option.some.inj hf
  exact E _ _ dX5_replaceCaisson_75
abbrev w_X5_beginAnew (k : mg_K) (a_t a_t_ballast a_t_lubricated a_t_pose a_t_ground a_t_boulders a_t_records a_t_boulders_list a_t_boulders_list_values a_t_ground_layers a_t_ground_layers_values a_t_pose_bottoms a_t_records_values : Nat) (v_t_columns : Int32) (v_t_rows : Int32) (v_t_weight : Int32) (v_t_stiffness : Int32) (v_t_water : Int32) (v_t_ballast : Nat → Int32) (v_t_boulders_list_count : Int32) (v_t_ground_layers_count : Int32) (v_t_lubricated : Nat → Int32) (v_t_pose_depth : Int32) (v_t_pose_tiltX : Int32) (v_t_pose_tiltY : Int32) (v_t_pose_bottoms : Nat → Int32) (v_t_records_count : Int32) : va_W := [(a_t, .inr (5, [.int v_t_columns, .int v_t_rows, .int v_t_weight, .int v_t_stiffness, .int v_t_water, .ref a_t_ballast, .ref a_t_lubricated, .ref a_t_pose, .ref a_t_ground, .ref a_t_boulders, .ref a_t_records])), (a_t_ballast, .inl (k.2.1, 49, .inl v_t_ballast)), (a_t_boulders, .inr (0, [.ref a_t_boulders_list])), (a_t_boulders_list, .inr (7, [.int 10, .ref a_t_boulders_list_values, .int v_t_boulders_list_count])), (a_t_ground, .inr (2, [.ref a_t_ground_layers])), (a_t_ground_layers, .inr (7, [.int 8, .ref a_t_ground_layers_values, .int v_t_ground_layers_count])), (a_t_lubricated, .inl (k.2.1, 4, .inl v_t_lubricated)), (a_t_pose, .inr (4, [.int v_t_pose_depth, .int v_t_pose_tiltX, .int v_t_pose_tiltY, .ref a_t_pose_bottoms])), (a_t_pose_bottoms, .inl (k.2.1, 49, .inl v_t_pose_bottoms)), (a_t_records, .inr (7, [.int 20, .ref a_t_records_values, .int v_t_records_count]))]
def f_X5_beginAnew (fuel : Nat) (v_t_ballast : Nat → Int32) (v_t_lubricated : Nat → Int32) (v_t_pose_bottoms : Nat → Int32) : Option (Int32 × Int32 × Int32 × Int32 × Int32 × (Nat → Int32) × Int32 × Int32 × (Nat → Int32) × Int32 × Int32 × Int32 × (Nat → Int32) × Int32) := (f_X7_clear).bind (fun q1 => (f_X7_clear).bind (fun q3 => (f_X5_replaceCaisson fuel v_t_ballast v_t_lubricated v_t_pose_bottoms 5 4).bind (fun q5 => some (q5.1, q5.2.1, 600, 400, 400, q5.2.2.1, q5.2.2.2.1, q1, q5.2.2.2.2.1, q5.2.2.2.2.2.1, q5.2.2.2.2.2.2.1, q5.2.2.2.2.2.2.2.1, q5.2.2.2.2.2.2.2.2, q3))))
theorem Y_X5_beginAnew : mg_Y yX5_beginAnew cX5_beginAnew 1 none 0 := ⟨wm_119, wm_120, wm_3, wm_121, ⟨by decide +kernel, by decide +kernel, by decide +kernel⟩, by decide⟩
set_option maxRecDepth 100000 in
set_option maxHeartbeats 4000000 in
theorem c_X5_beginAnew (l : Launch) (k : mg_K) (a_t a_t_ballast a_t_lubricated a_t_pose a_t_ground a_t_boulders a_t_records a_t_boulders_list a_t_boulders_list_values a_t_ground_layers a_t_ground_layers_values a_t_pose_bottoms a_t_records_values : Nat) (v_t_columns : Int32) (v_t_rows : Int32) (v_t_weight : Int32) (v_t_stiffness : Int32) (v_t_water : Int32) (v_t_ballast : Nat → Int32) (v_t_boulders_list_count : Int32) (v_t_ground_layers_count : Int32) (v_t_lubricated : Nat → Int32) (v_t_pose_depth : Int32) (v_t_pose_tiltX : Int32) (v_t_pose_tiltY : Int32) (v_t_pose_bottoms : Nat → Int32) (v_t_records_count : Int32) (fuel : Nat) (q : Int32 × Int32 × Int32 × Int32 × Int32 × (Nat → Int32) × Int32 × Int32 × (Nat → Int32) × Int32 × Int32 × Int32 × (Nat → Int32) × Int32) (hf : f_X5_beginAnew fuel v_t_ballast v_t_lubricated v_t_pose_bottoms = some q) : mg_M l yX5_beginAnew cX5_beginAnew 1 none 2 k [.ref a_t] (w_X5_beginAnew k a_t a_t_ballast a_t_lubricated a_t_pose a_t_ground a_t_boulders a_t_records a_t_boulders_list a_t_boulders_list_values a_t_ground_layers a_t_ground_layers_values a_t_pose_bottoms a_t_records_values v_t_columns v_t_rows v_t_weight v_t_stiffness v_t_water v_t_ballast v_t_boulders_list_count v_t_ground_layers_count v_t_lubricated v_t_pose_depth v_t_pose_tiltX v_t_pose_tiltY v_t_pose_bottoms v_t_records_count) (w_X5_beginAnew k a_t a_t_ballast a_t_lubricated a_t_pose a_t_ground a_t_boulders a_t_records a_t_boulders_list a_t_boulders_list_values a_t_ground_layers a_t_ground_layers_values a_t_pose_bottoms a_t_records_values q.1 q.2.1 q.2.2.1 q.2.2.2.1 q.2.2.2.2.1 q.2.2.2.2.2.1 q.2.2.2.2.2.2.1 q.2.2.2.2.2.2.2.1 q.2.2.2.2.2.2.2.2.1 q.2.2.2.2.2.2.2.2.2.1 q.2.2.2.2.2.2.2.2.2.2.1 q.2.2.2.2.2.2.2.2.2.2.2.1 q.2.2.2.2.2.2.2.2.2.2.2.2.1 q.2.2.2.2.2.2.2.2.2.2.2.2.2) none := by
  refine mg_Mv RX5 [(0, .ref a_t)] (by decide +kernel) rfl rfl (Nat.le_of_ble_eq_true rfl) ?_
  intro z A Q hl C E
  subst hl
  unfold f_X5_beginAnew at hf
  refine mg_aload_n (pc := 0) C 0 dX5_beginAnew_0 rfl rfl ?_
  refine mg_sipush (pc := 1) C dX5_beginAnew_1 (v := 600) (by decide) ?_
  refine mg_puti (pc := 4) C (w2 := w_X5_beginAnew k a_t a_t_ballast a_t_lubricated a_t_pose a_t_ground a_t_boulders a_t_records a_t_boulders_list a_t_boulders_list_values a_t_ground_layers a_t_ground_layers_values a_t_pose_bottoms a_t_records_values v_t_columns v_t_rows 600 v_t_stiffness v_t_water v_t_ballast v_t_boulders_list_count v_t_ground_layers_count v_t_lubricated v_t_pose_depth v_t_pose_tiltX v_t_pose_tiltY v_t_pose_bottoms v_t_records_count) 0 rfl rfl inX5 2 (by decide) wm_142 rfl tyX5 tyX5_ok nmX5 rfl (by decide +kernel) (Nat.le_of_ble_eq_true rfl) rfl dX5_beginAnew_4 ?_
  refine mg_aload_n (pc := 7) C 0 dX5_beginAnew_7 rfl rfl ?_
  refine mg_sipush (pc := 8) C dX5_beginAnew_8 (v := 400) (by decide) ?_
  refine mg_puti (pc := 11) C (w2 := w_X5_beginAnew k a_t a_t_ballast a_t_lubricated a_t_pose a_t_ground a_t_boulders a_t_records a_t_boulders_list a_t_boulders_list_values a_t_ground_layers a_t_ground_layers_values a_t_pose_bottoms a_t_records_values v_t_columns v_t_rows 600 400 v_t_water v_t_ballast v_t_boulders_list_count v_t_ground_layers_count v_t_lubricated v_t_pose_depth v_t_pose_tiltX v_t_pose_tiltY v_t_pose_bottoms v_t_records_count) 0 rfl rfl inX5 3 (by decide) wm_146 rfl tyX5 tyX5_ok nmX5 rfl (by decide +kernel) (Nat.le_of_ble_eq_true rfl) rfl dX5_beginAnew_11 ?_
  refine mg_aload_n (pc := 14) C 0 dX5_beginAnew_14 rfl rfl ?_
  refine mg_sipush (pc := 15) C dX5_beginAnew_15 (v := 400) (by decide) ?_
  refine mg_puti (pc := 18) C (w2 := w_X5_beginAnew k a_t a_t_ballast a_t_lubricated a_t_pose a_t_ground a_t_boulders a_t_records a_t_boulders_list a_t_boulders_list_values a_t_ground_layers a_t_ground_layers_values a_t_pose_bottoms a_t_records_values v_t_columns v_t_rows 600 400 400 v_t_ballast v_t_boulders_list_count v_t_ground_layers_count v_t_lubricated v_t_pose_depth v_t_pose_tiltX v_t_pose_tiltY v_t_pose_bottoms v_t_records_count) 0 rfl rfl inX5 4 (by decide) wm_150 rfl tyX5 tyX5_ok nmX5 rfl (by decide +kernel) (Nat.le_of_ble_eq_true rfl) rfl dX5_beginAnew_18 ?_
  refine mg_aload_n (pc := 21) C 0 dX5_beginAnew_21 rfl rfl ?_
  refine mg_get (pc := 22) C 0 rfl rfl inX5 8 (by decide) wm_160 rfl rfl dX5_beginAnew_22 ?_
  refine mg_get (pc := 25) C 4 rfl rfl inX2 0 (by decide) wm_95 rfl rfl dX5_beginAnew_25 ?_
  obtain ⟨q1, h2, hf⟩ := mg_b hf
  refine mg_callV (pc := 28) C (w2 := w_X5_beginAnew k a_t a_t_ballast a_t_lubricated a_t_pose a_t_ground a_t_boulders a_t_records a_t_boulders_list a_t_boulders_list_values a_t_ground_layers a_t_ground_layers_values a_t_pose_bottoms a_t_records_values v_t_columns v_t_rows 600 400 400 v_t_ballast v_t_boulders_list_count q1 v_t_lubricated v_t_pose_depth v_t_pose_tiltX v_t_pose_tiltY v_t_pose_bottoms v_t_records_count) (c_X7_clear z.2.1 k a_t_ground_layers a_t_ground_layers_values 8 v_t_ground_layers_count q1 h2) Y_X7_clear wm_122 (by decide) rfl 5 rfl rfl rfl [5] rfl (by decide) rfl [none, none, none, none, none, some 0, none, none, none, none] (by decide) rfl (Nat.le_of_ble_eq_true rfl) rfl dX5_beginAnew_28 ?_
  refine mg_aload_n (pc := 31) C 0 dX5_beginAnew_31 rfl rfl ?_
  refine mg_get (pc := 32) C 0 rfl rfl inX5 10 (by decide) wm_168 rfl rfl dX5_beginAnew_32 ?_
  obtain ⟨q3, h4, hf⟩ := mg_b hf
  refine mg_callV (pc := 35) C (w2 := w_X5_beginAnew k a_t a_t_ballast a_t_lubricated a_t_pose a_t_ground a_t_boulders a_t_records a_t_boulders_list a_t_boulders_list_values a_t_ground_layers a_t_ground_layers_values a_t_pose_bottoms a_t_records_values v_t_columns v_t_rows 600 400 400 v_t_ballast v_t_boulders_list_count q1 v_t_lubricated v_t_pose_depth v_t_pose_tiltX v_t_pose_tiltY v_t_pose_bottoms q3) (c_X7_clear z.2.1 k a_t_records a_t_records_values 20 v_t_records_count q3 h4) Y_X7_clear wm_122 (by decide) rfl 9 rfl rfl rfl [9] rfl (by decide) rfl [none, none, none, none, none, none, none, none, none, some 0] (by decide) rfl (Nat.le_of_ble_eq_true rfl) rfl dX5_beginAnew_35 ?_
  refine mg_aload_n (pc := 38) C 0 dX5_beginAnew_38 rfl rfl ?_
  refine mg_iconst (pc := 39) C dX5_beginAnew_39 (v := 5) (by decide) ?_
  refine mg_iconst (pc := 40) C dX5_beginAnew_40 (v := 4) (by decide) ?_
  obtain ⟨q5, h6, hf⟩ := mg_b hf
  refine mg_callV (pc := 41) C (w2 := w_X5_beginAnew k a_t a_t_ballast a_t_lubricated a_t_pose a_t_ground a_t_boulders a_t_records a_t_boulders_list a_t_boulders_list_values a_t_ground_layers a_t_ground_layers_values a_t_pose_bottoms a_t_records_values q5.1 q5.2.1 600 400 400 q5.2.2.1 q5.2.2.2.1 q1 q5.2.2.2.2.1 q5.2.2.2.2.2.1 q5.2.2.2.2.2.2.1 q5.2.2.2.2.2.2.2.1 q5.2.2.2.2.2.2.2.2 q3) (c_X5_replaceCaisson z.2.1 k a_t a_t_ballast a_t_lubricated a_t_pose a_t_ground a_t_boulders a_t_records a_t_boulders_list a_t_boulders_list_values a_t_pose_bottoms v_t_columns v_t_rows 600 400 400 v_t_ballast v_t_boulders_list_count v_t_lubricated v_t_pose_depth v_t_pose_tiltX v_t_pose_tiltY v_t_pose_bottoms fuel 5 4 q5 h6) Y_X5_replaceCaisson wm_126 (by decide) rfl 0 rfl rfl rfl [0, 1, 2, 3, 6, 7, 8] rfl (by decide) rfl [some 0, some 1, some 2, some 3, none, none, some 4, some 5, some 6, none] (by decide) rfl (Nat.le_of_ble_eq_true rfl) rfl dX5_beginAnew_41 ?_
  obtain rfl := Option.some.inj hf
  exact E _ _ dX5_beginAnew_44
abbrev w_X5_copyFrom (k : mg_K) (a_t a_p1 a_p1_ballast a_p1_lubricated a_p1_pose a_p1_ground a_p1_boulders a_p1_records a_p1_boulders_list a_p1_boulders_list_values a_p1_ground_layers a_p1_ground_layers_values a_p1_pose_bottoms a_p1_records_values a_t_ballast a_t_lubricated a_t_pose a_t_ground a_t_boulders a_t_records a_t_boulders_list a_t_boulders_list_values a_t_ground_layers a_t_ground_layers_values a_t_pose_bottoms a_t_records_values : Nat) (v_p1_columns : Int32) (v_p1_rows : Int32) (v_p1_weight : Int32) (v_p1_stiffness : Int32) (v_p1_water : Int32) (v_p1_ballast : Nat → Int32) (v_p1_boulders_list_count : Int32) (v_p1_boulders_list_values : Nat → Int32) (v_p1_ground_layers_count : Int32) (v_p1_ground_layers_values : Nat → Int32) (v_p1_lubricated : Nat → Int32) (v_p1_pose_depth : Int32) (v_p1_pose_tiltX : Int32) (v_p1_pose_tiltY : Int32) (v_p1_pose_bottoms : Nat → Int32) (v_p1_records_count : Int32) (v_p1_records_values : Nat → Int32) (v_t_columns : Int32) (v_t_rows : Int32) (v_t_weight : Int32) (v_t_stiffness : Int32) (v_t_water : Int32) (v_t_ballast : Nat → Int32) (v_t_boulders_list_count : Int32) (v_t_boulders_list_values : Nat → Int32) (v_t_ground_layers_count : Int32) (v_t_ground_layers_values : Nat → Int32) (v_t_lubricated : Nat → Int32) (v_t_pose_depth : Int32) (v_t_pose_tiltX : Int32) (v_t_pose_tiltY : Int32) (v_t_pose_bottoms : Nat → Int32) (v_t_records_count : Int32) (v_t_records_values : Nat → Int32) : va_W := [(a_p1, .inr (5, [.int v_p1_columns, .int v_p1_rows, .int v_p1_weight, .int v_p1_stiffness, .int v_p1_water, .ref a_p1_ballast, .ref a_p1_lubricated, .ref a_p1_pose, .ref a_p1_ground, .ref a_p1_boulders, .ref a_p1_records])), (a_p1_ballast, .inl (k.2.1, 49, .inl v_p1_ballast)), (a_p1_boulders, .inr (0, [.ref a_p1_boulders_list])), (a_p1_boulders_list, .inr (7, [.int 10, .ref a_p1_boulders_list_values, .int v_p1_boulders_list_count])), (a_p1_boulders_list_values, .inl (k.2.1, 30, .inl v_p1_boulders_list_values)), (a_p1_ground, .inr (2, [.ref a_p1_ground_layers])), (a_p1_ground_layers, .inr (7, [.int 8, .ref a_p1_ground_layers_values, .int v_p1_ground_layers_count])), (a_p1_ground_layers_values, .inl (k.2.1, 24, .inl v_p1_ground_layers_values)), (a_p1_lubricated, .inl (k.2.1, 4, .inl v_p1_lubricated)), (a_p1_pose, .inr (4, [.int v_p1_pose_depth, .int v_p1_pose_tiltX, .int v_p1_pose_tiltY, .ref a_p1_pose_bottoms])), (a_p1_pose_bottoms, .inl (k.2.1, 49, .inl v_p1_pose_bottoms)), (a_p1_records, .inr (7, [.int 20, .ref a_p1_records_values, .int v_p1_records_count])), (a_p1_records_values, .inl (k.2.1, 60, .inl v_p1_records_values)), (a_t, .inr (5, [.int v_t_columns, .int v_t_rows, .int v_t_weight, .int v_t_stiffness, .int v_t_water, .ref a_t_ballast, .ref a_t_lubricated, .ref a_t_pose, .ref a_t_ground, .ref a_t_boulders, .ref a_t_records])), (a_t_ballast, .inl (k.2.1, 49, .inl v_t_ballast)), (a_t_boulders, .inr (0, [.ref a_t_boulders_list])), (a_t_boulders_list, .inr (7, [.int 10, .ref a_t_boulders_list_values, .int v_t_boulders_list_count])), (a_t_boulders_list_values, .inl (k.2.1, 30, .inl v_t_boulders_list_values)), (a_t_ground, .inr (2, [.ref a_t_ground_layers])), (a_t_ground_layers, .inr (7, [.int 8, .ref a_t_ground_layers_values, .int v_t_ground_layers_count])), (a_t_ground_layers_values, .inl (k.2.1, 24, .inl v_t_ground_layers_values)), (a_t_lubricated, .inl (k.2.1, 4, .inl v_t_lubricated)), (a_t_pose, .inr (4, [.int v_t_pose_depth, .int v_t_pose_tiltX, .int v_t_pose_tiltY, .ref a_t_pose_bottoms])), (a_t_pose_bottoms, .inl (k.2.1, 49, .inl v_t_pose_bottoms)), (a_t_records, .inr (7, [.int 20, .ref a_t_records_values, .int v_t_records_count])), (a_t_records_values, .inl (k.2.1, 60, .inl v_t_records_values))]
def f_X5_copyFrom (v_p1_columns : Int32) (v_p1_rows : Int32) (v_p1_weight : Int32) (v_p1_stiffness : Int32) (v_p1_water : Int32) (v_p1_ballast : Nat → Int32) (v_p1_boulders_list_count : Int32) (v_p1_boulders_list_values : Nat → Int32) (v_p1_ground_layers_count : Int32) (v_p1_ground_layers_values : Nat → Int32) (v_p1_lubricated : Nat → Int32) (v_p1_pose_depth : Int32) (v_p1_pose_tiltX : Int32) (v_p1_pose_tiltY : Int32) (v_p1_pose_bottoms : Nat → Int32) (v_p1_records_count : Int32) (v_p1_records_values : Nat → Int32) (v_t_ballast : Nat → Int32) (v_t_boulders_list_values : Nat → Int32) (v_t_ground_layers_values : Nat → Int32) (v_t_lubricated : Nat → Int32) (v_t_pose_bottoms : Nat → Int32) (v_t_records_values : Nat → Int32) : Option (Int32 × Int32 × Int32 × Int32 × Int32 × (Nat → Int32) × Int32 × (Nat → Int32) × Int32 × (Nat → Int32) × (Nat → Int32) × Int32 × Int32 × Int32 × (Nat → Int32) × Int32 × (Nat → Int32)) := if mg_cp 0 0 49 49 49 = true then (if mg_cp 0 0 4 4 4 = true then ((f_X4_copyFrom v_p1_pose_depth v_p1_pose_tiltX v_p1_pose_tiltY v_p1_pose_bottoms v_t_pose_bottoms).bind (fun q1 => (f_X7_copyFrom 24 24 v_p1_ground_layers_count v_p1_ground_layers_values 8 v_t_ground_layers_values).bind (fun q3 => (f_X7_copyFrom 30 30 v_p1_boulders_list_count v_p1_boulders_list_values 10 v_t_boulders_list_values).bind (fun q5 => (f_X7_copyFrom 60 60 v_p1_records_count v_p1_records_values 20 v_t_records_values).bind (fun q7 => some (v_p1_columns, v_p1_rows, v_p1_weight, v_p1_stiffness, v_p1_water, va_cpy v_p1_ballast v_t_ballast (Int32.toNatClampNeg 0) (Int32.toNatClampNeg 0) (Int32.toNatClampNeg 49), q5.1, q5.2, q3.1, q3.2, va_cpy v_p1_lubricated v_t_lubricated (Int32.toNatClampNeg 0) (Int32.toNatClampNeg 0) (Int32.toNatClampNeg 4), q1.1, q1.2.1, q1.2.2.1, q1.2.2.2, q7.1, q7.2)))))) else none) else none
theorem Y_X5_copyFrom : mg_Y yX5_copyFrom cX5_copyFrom 2 none 1 := ⟨wm_487, wm_488, wm_3, wm_489, ⟨by decide +kernel, by decide +kernel, by decide +kernel⟩, by decide⟩
set_option maxRecDepth 100000 in
set_option maxHeartbeats 4000000 in
theorem c_X5_copyFrom (l : Launch) (k : mg_K) (a_t a_p1 a_p1_ballast a_p1_lubricated a_p1_pose a_p1_ground a_p1_boulders a_p1_records a_p1_boulders_list a_p1_boulders_list_values a_p1_ground_layers a_p1_ground_layers_values a_p1_pose_bottoms a_p1_records_values a_t_ballast a_t_lubricated a_t_pose a_t_ground a_t_boulders a_t_records a_t_boulders_list a_t_boulders_list_values a_t_ground_layers a_t_ground_layers_values a_t_pose_bottoms a_t_records_values : Nat) (v_p1_columns : Int32) (v_p1_rows : Int32) (v_p1_weight : Int32) (v_p1_stiffness : Int32) (v_p1_water : Int32) (v_p1_ballast : Nat → Int32) (v_p1_boulders_list_count : Int32) (v_p1_boulders_list_values : Nat → Int32) (v_p1_ground_layers_count : Int32) (v_p1_ground_layers_values : Nat → Int32) (v_p1_lubricated : Nat → Int32) (v_p1_pose_depth : Int32) (v_p1_pose_tiltX : Int32) (v_p1_pose_tiltY : Int32) (v_p1_pose_bottoms : Nat → Int32) (v_p1_records_count : Int32) (v_p1_records_values : Nat → Int32) (v_t_columns : Int32) (v_t_rows : Int32) (v_t_weight : Int32) (v_t_stiffness : Int32) (v_t_water : Int32) (v_t_ballast : Nat → Int32) (v_t_boulders_list_count : Int32) (v_t_boulders_list_values : Nat → Int32) (v_t_ground_layers_count : Int32) (v_t_ground_layers_values : Nat → Int32) (v_t_lubricated : Nat → Int32) (v_t_pose_depth : Int32) (v_t_pose_tiltX : Int32) (v_t_pose_tiltY : Int32) (v_t_pose_bottoms : Nat → Int32) (v_t_records_count : Int32) (v_t_records_values : Nat → Int32) (q : Int32 × Int32 × Int32 × Int32 × Int32 × (Nat → Int32) × Int32 × (Nat → Int32) × Int32 × (Nat → Int32) × (Nat → Int32) × Int32 × Int32 × Int32 × (Nat → Int32) × Int32 × (Nat → Int32)) (hf : f_X5_copyFrom v_p1_columns v_p1_rows v_p1_weight v_p1_stiffness v_p1_water v_p1_ballast v_p1_boulders_list_count v_p1_boulders_list_values v_p1_ground_layers_count v_p1_ground_layers_values v_p1_lubricated v_p1_pose_depth v_p1_pose_tiltX v_p1_pose_tiltY v_p1_pose_bottoms v_p1_records_count v_p1_records_values v_t_ballast v_t_boulders_list_values v_t_ground_layers_values v_t_lubricated v_t_pose_bottoms v_t_records_values = some q) : mg_M l yX5_copyFrom cX5_copyFrom 2 none 2 k [.ref a_t, .ref a_p1] (w_X5_copyFrom k a_t a_p1 a_p1_ballast a_p1_lubricated a_p1_pose a_p1_ground a_p1_boulders a_p1_records a_p1_boulders_list a_p1_boulders_list_values a_p1_ground_layers a_p1_ground_layers_values a_p1_pose_bottoms a_p1_records_values a_t_ballast a_t_lubricated a_t_pose a_t_ground a_t_boulders a_t_records a_t_boulders_list a_t_boulders_list_values a_t_ground_layers a_t_ground_layers_values a_t_pose_bottoms a_t_records_values v_p1_columns v_p1_rows v_p1_weight v_p1_stiffness v_p1_water v_p1_ballast v_p1_boulders_list_count v_p1_boulders_list_values v_p1_ground_layers_count v_p1_ground_layers_values v_p1_lubricated v_p1_pose_depth v_p1_pose_tiltX v_p1_pose_tiltY v_p1_pose_bottoms v_p1_records_count v_p1_records_values v_t_columns v_t_rows v_t_weight v_t_stiffness v_t_water v_t_ballast v_t_boulders_list_count v_t_boulders_list_values v_t_ground_layers_count v_t_ground_layers_values v_t_lubricated v_t_pose_depth v_t_pose_tiltX v_t_pose_tiltY v_t_pose_bottoms v_t_records_count v_t_records_values) (w_X5_copyFrom k a_t a_p1 a_p1_ballast a_p1_lubricated a_p1_pose a_p1_ground a_p1_boulders a_p1_records a_p1_boulders_list a_p1_boulders_list_values a_p1_ground_layers a_p1_ground_layers_values a_p1_pose_bottoms a_p1_records_values a_t_ballast a_t_lubricated a_t_pose a_t_ground a_t_boulders a_t_records a_t_boulders_list a_t_boulders_list_values a_t_ground_layers a_t_ground_layers_values a_t_pose_bottoms a_t_records_values v_p1_columns v_p1_rows v_p1_weight v_p1_stiffness v_p1_water v_p1_ballast v_p1_boulders_list_count v_p1_boulders_list_values v_p1_ground_layers_count v_p1_ground_layers_values v_p1_lubricated v_p1_pose_depth v_p1_pose_tiltX v_p1_pose_tiltY v_p1_pose_bottoms v_p1_records_count v_p1_records_values q.1 q.2.1 q.2.2.1 q.2.2.2.1 q.2.2.2.2.1 q.2.2.2.2.2.1 q.2.2.2.2.2.2.1 q.2.2.2.2.2.2.2.1 q.2.2.2.2.2.2.2.2.1 q.2.2.2.2.2.2.2.2.2.1 q.2.2.2.2.2.2.2.2.2.2.1 q.2.2.2.2.2.2.2.2.2.2.2.1 q.2.2.2.2.2.2.2.2.2.2.2.2.1 q.2.2.2.2.2.2.2.2.2.2.2.2.2.1 q.2.2.2.2.2.2.2.2.2.2.2.2.2.2.1 q.2.2.2.2.2.2.2.2.2.2.2.2.2.2.2.1 q.2.2.2.2.2.2.2.2.2.2.2.2.2.2.2.2) none := by
  refine mg_Mv RX5 [(0, .ref a_t), (1, .ref a_p1)] (by decide +kernel) rfl rfl (Nat.le_of_ble_eq_true rfl) ?_
  intro z A Q hl C E
  subst hl
  unfold f_X5_copyFrom at hf
  refine mg_aload_n (pc := 0) C 0 dX5_copyFrom_0 rfl rfl ?_
  refine mg_aload_n (pc := 1) C 1 dX5_copyFrom_1 rfl rfl ?_
  refine mg_get (pc := 2) C 0 rfl rfl inX5 0 (by decide) wm_135 rfl rfl dX5_copyFrom_2 ?_
  refine mg_puti (pc := 5) C (w2 := w_X5_copyFrom k a_t a_p1 a_p1_ballast a_p1_lubricated a_p1_pose a_p1_ground a_p1_boulders a_p1_records a_p1_boulders_list a_p1_boulders_list_values a_p1_ground_layers a_p1_ground_layers_values a_p1_pose_bottoms a_p1_records_values a_t_ballast a_t_lubricated a_t_pose a_t_ground a_t_boulders a_t_records a_t_boulders_list a_t_boulders_list_values a_t_ground_layers a_t_ground_layers_values a_t_pose_bottoms a_t_records_values v_p1_columns v_p1_rows v_p1_weight v_p1_stiffness v_p1_water v_p1_ballast v_p1_boulders_list_count v_p1_boulders_list_values v_p1_ground_layers_count v_p1_ground_layers_values v_p1_lubricated v_p1_pose_depth v_p1_pose_tiltX v_p1_pose_tiltY v_p1_pose_bottoms v_p1_records_count v_p1_records_values v_p1_columns v_t_rows v_t_weight v_t_stiffness v_t_water v_t_ballast v_t_boulders_list_count v_t_boulders_list_values v_t_ground_layers_count v_t_ground_layers_values v_t_lubricated v_t_pose_depth v_t_pose_tiltX v_t_pose_tiltY v_t_pose_bottoms v_t_records_count v_t_records_values) 13 rfl rfl inX5 0 (by decide) wm_135 rfl tyX5 tyX5_ok nmX5 rfl (by decide +kernel) (Nat.le_of_ble_eq_true rfl) rfl dX5_copyFrom_5 ?_
  refine mg_aload_n (pc := 8) C 0 dX5_copyFrom_8 rfl rfl ?_
  refine mg_aload_n (pc := 9) C 1 dX5_copyFrom_9 rfl rfl ?_
  refine mg_get (pc := 10) C 0 rfl rfl inX5 1 (by decide) wm_139 rfl rfl dX5_copyFrom_10 ?_
  refine mg_puti (pc := 13) C (w2 := w_X5_copyFrom k a_t a_p1 a_p1_ballast a_p1_lubricated a_p1_pose a_p1_ground a_p1_boulders a_p1_records a_p1_boulders_list a_p1_boulders_list_values a_p1_ground_layers a_p1_ground_layers_values a_p1_pose_bottoms a_p1_records_values a_t_ballast a_t_lubricated a_t_pose a_t_ground a_t_boulders a_t_records a_t_boulders_list a_t_boulders_list_values a_t_ground_layers a_t_ground_layers_values a_t_pose_bottoms a_t_records_values v_p1_columns v_p1_rows v_p1_weight v_p1_stiffness v_p1_water v_p1_ballast v_p1_boulders_list_count v_p1_boulders_list_values v_p1_ground_layers_count v_p1_ground_layers_values v_p1_lubricated v_p1_pose_depth v_p1_pose_tiltX v_p1_pose_tiltY v_p1_pose_bottoms v_p1_records_count v_p1_records_values v_p1_columns v_p1_rows v_t_weight v_t_stiffness v_t_water v_t_ballast v_t_boulders_list_count v_t_boulders_list_values v_t_ground_layers_count v_t_ground_layers_values v_t_lubricated v_t_pose_depth v_t_pose_tiltX v_t_pose_tiltY v_t_pose_bottoms v_t_records_count v_t_records_values) 13 rfl rfl inX5 1 (by decide) wm_139 rfl tyX5 tyX5_ok nmX5 rfl (by decide +kernel) (Nat.le_of_ble_eq_true rfl) rfl dX5_copyFrom_13 ?_
  refine mg_aload_n (pc := 16) C 0 dX5_copyFrom_16 rfl rfl ?_
  refine mg_aload_n (pc := 17) C 1 dX5_copyFrom_17 rfl rfl ?_
  refine mg_get (pc := 18) C 0 rfl rfl inX5 2 (by decide) wm_142 rfl rfl dX5_copyFrom_18 ?_
  refine mg_puti (pc := 21) C (w2 := w_X5_copyFrom k a_t a_p1 a_p1_ballast a_p1_lubricated a_p1_pose a_p1_ground a_p1_boulders a_p1_records a_p1_boulders_list a_p1_boulders_list_values a_p1_ground_layers a_p1_ground_layers_values a_p1_pose_bottoms a_p1_records_values a_t_ballast a_t_lubricated a_t_pose a_t_ground a_t_boulders a_t_records a_t_boulders_list a_t_boulders_list_values a_t_ground_layers a_t_ground_layers_values a_t_pose_bottoms a_t_records_values v_p1_columns v_p1_rows v_p1_weight v_p1_stiffness v_p1_water v_p1_ballast v_p1_boulders_list_count v_p1_boulders_list_values v_p1_ground_layers_count v_p1_ground_layers_values v_p1_lubricated v_p1_pose_depth v_p1_pose_tiltX v_p1_pose_tiltY v_p1_pose_bottoms v_p1_records_count v_p1_records_values v_p1_columns v_p1_rows v_p1_weight v_t_stiffness v_t_water v_t_ballast v_t_boulders_list_count v_t_boulders_list_values v_t_ground_layers_count v_t_ground_layers_values v_t_lubricated v_t_pose_depth v_t_pose_tiltX v_t_pose_tiltY v_t_pose_bottoms v_t_records_count v_t_records_values) 13 rfl rfl inX5 2 (by decide) wm_142 rfl tyX5 tyX5_ok nmX5 rfl (by decide +kernel) (Nat.le_of_ble_eq_true rfl) rfl dX5_copyFrom_21 ?_
  refine mg_aload_n (pc := 24) C 0 dX5_copyFrom_24 rfl rfl ?_
  refine mg_aload_n (pc := 25) C 1 dX5_copyFrom_25 rfl rfl ?_
  refine mg_get (pc := 26) C 0 rfl rfl inX5 3 (by decide) wm_146 rfl rfl dX5_copyFrom_26 ?_
  refine mg_puti (pc := 29) C (w2 := w_X5_copyFrom k a_t a_p1 a_p1_ballast a_p1_lubricated a_p1_pose a_p1_ground a_p1_boulders a_p1_records a_p1_boulders_list a_p1_boulders_list_values a_p1_ground_layers a_p1_ground_layers_values a_p1_pose_bottoms a_p1_records_values a_t_ballast a_t_lubricated a_t_pose a_t_ground a_t_boulders a_t_records a_t_boulders_list a_t_boulders_list_values a_t_ground_layers a_t_ground_layers_values a_t_pose_bottoms a_t_records_values v_p1_columns v_p1_rows v_p1_weight v_p1_stiffness v_p1_water v_p1_ballast v_p1_boulders_list_count v_p1_boulders_list_values v_p1_ground_layers_count v_p1_ground_layers_values v_p1_lubricated v_p1_pose_depth v_p1_pose_tiltX v_p1_pose_tiltY v_p1_pose_bottoms v_p1_records_count v_p1_records_values v_p1_columns v_p1_rows v_p1_weight v_p1_stiffness v_t_water v_t_ballast v_t_boulders_list_count v_t_boulders_list_values v_t_ground_layers_count v_t_ground_layers_values v_t_lubricated v_t_pose_depth v_t_pose_tiltX v_t_pose_tiltY v_t_pose_bottoms v_t_records_count v_t_records_values) 13 rfl rfl inX5 3 (by decide) wm_146 rfl tyX5 tyX5_ok nmX5 rfl (by decide +kernel) (Nat.le_of_ble_eq_true rfl) rfl dX5_copyFrom_29 ?_
  refine mg_aload_n (pc := 32) C 0 dX5_copyFrom_32 rfl rfl ?_
  refine mg_aload_n (pc := 33) C 1 dX5_copyFrom_33 rfl rfl ?_
  refine mg_get (pc := 34) C 0 rfl rfl inX5 4 (by decide) wm_150 rfl rfl dX5_copyFrom_34 ?_
  refine mg_puti (pc := 37) C (w2 := w_X5_copyFrom k a_t a_p1 a_p1_ballast a_p1_lubricated a_p1_pose a_p1_ground a_p1_boulders a_p1_records a_p1_boulders_list a_p1_boulders_list_values a_p1_ground_layers a_p1_ground_layers_values a_p1_pose_bottoms a_p1_records_values a_t_ballast a_t_lubricated a_t_pose a_t_ground a_t_boulders a_t_records a_t_boulders_list a_t_boulders_list_values a_t_ground_layers a_t_ground_layers_values a_t_pose_bottoms a_t_records_values v_p1_columns v_p1_rows v_p1_weight v_p1_stiffness v_p1_water v_p1_ballast v_p1_boulders_list_count v_p1_boulders_list_values v_p1_ground_layers_count v_p1_ground_layers_values v_p1_lubricated v_p1_pose_depth v_p1_pose_tiltX v_p1_pose_tiltY v_p1_pose_bottoms v_p1_records_count v_p1_records_values v_p1_columns v_p1_rows v_p1_weight v_p1_stiffness v_p1_water v_t_ballast v_t_boulders_list_count v_t_boulders_list_values v_t_ground_layers_count v_t_ground_layers_values v_t_lubricated v_t_pose_depth v_t_pose_tiltX v_t_pose_tiltY v_t_pose_bottoms v_t_records_count v_t_records_values) 13 rfl rfl inX5 4 (by decide) wm_150 rfl tyX5 tyX5_ok nmX5 rfl (by decide +kernel) (Nat.le_of_ble_eq_true rfl) rfl dX5_copyFrom_37 ?_
  refine mg_aload_n (pc := 40) C 1 dX5_copyFrom_40 rfl rfl ?_
  refine mg_get (pc := 41) C 0 rfl rfl inX5 5 (by decide) wm_154 rfl rfl dX5_copyFrom_41 ?_
  refine mg_iconst (pc := 44) C dX5_copyFrom_44 (v := 0) (by decide) ?_
  refine mg_aload_n (pc := 45) C 0 dX5_copyFrom_45 rfl rfl ?_
  refine mg_get (pc := 46) C 13 rfl rfl inX5 5 (by decide) wm_154 rfl rfl dX5_copyFrom_46 ?_
  refine mg_iconst (pc := 49) C dX5_copyFrom_49 (v := 0) (by decide) ?_
  refine mg_aload_n (pc := 50) C 0 dX5_copyFrom_50 rfl rfl ?_
  refine mg_get (pc := 51) C 13 rfl rfl inX5 5 (by decide) wm_154 rfl rfl dX5_copyFrom_51 ?_
  refine mg_alen (pc := 54) C (v := 49) 14 0 rfl rfl rfl dX5_copyFrom_54 ?_
  refine mg_copy (pc := 55) C (w2 := w_X5_copyFrom k a_t a_p1 a_p1_ballast a_p1_lubricated a_p1_pose a_p1_ground a_p1_boulders a_p1_records a_p1_boulders_list a_p1_boulders_list_values a_p1_ground_layers a_p1_ground_layers_values a_p1_pose_bottoms a_p1_records_values a_t_ballast a_t_lubricated a_t_pose a_t_ground a_t_boulders a_t_records a_t_boulders_list a_t_boulders_list_values a_t_ground_layers a_t_ground_layers_values a_t_pose_bottoms a_t_records_values v_p1_columns v_p1_rows v_p1_weight v_p1_stiffness v_p1_water v_p1_ballast v_p1_boulders_list_count v_p1_boulders_list_values v_p1_ground_layers_count v_p1_ground_layers_values v_p1_lubricated v_p1_pose_depth v_p1_pose_tiltX v_p1_pose_tiltY v_p1_pose_bottoms v_p1_records_count v_p1_records_values v_p1_columns v_p1_rows v_p1_weight v_p1_stiffness v_p1_water (va_cpy v_p1_ballast v_t_ballast (Int32.toNatClampNeg 0) (Int32.toNatClampNeg 0) (Int32.toNatClampNeg 49)) v_t_boulders_list_count v_t_boulders_list_values v_t_ground_layers_count v_t_ground_layers_values v_t_lubricated v_t_pose_depth v_t_pose_tiltX v_t_pose_tiltY v_t_pose_bottoms v_t_records_count v_t_records_values) wm_490 wm_469 wm_468 wm_16 (by decide) (Nat.le_of_ble_eq_true rfl) 1 14 rfl rfl dX5_copyFrom_55 hf rfl (fun hf => ?_)
  refine mg_aload_n (pc := 58) C 1 dX5_copyFrom_58 rfl rfl ?_
  refine mg_get (pc := 59) C 0 rfl rfl inX5 6 (by decide) wm_155 rfl rfl dX5_copyFrom_59 ?_
  refine mg_iconst (pc := 62) C dX5_copyFrom_62 (v := 0) (by decide) ?_
  refine mg_aload_n (pc := 63) C 0 dX5_copyFrom_63 rfl rfl ?_
  refine mg_get (pc := 64) C 13 rfl rfl inX5 6 (by decide) wm_155 rfl rfl dX5_copyFrom_64 ?_
  refine mg_iconst (pc := 67) C dX5_copyFrom_67 (v := 0) (by decide) ?_
  refine mg_aload_n (pc := 68) C 0 dX5_copyFrom_68 rfl rfl ?_
  refine mg_get (pc := 69) C 13 rfl rfl inX5 6 (by decide) wm_155 rfl rfl dX5_copyFrom_69 ?_
  refine mg_alen (pc := 72) C (v := 4) 21 0 rfl rfl rfl dX5_copyFrom_72 ?_
  refine mg_copy (pc := 73) C (w2 := w_X5_copyFrom k a_t a_p1 a_p1_ballast a_p1_lubricated a_p1_pose a_p1_ground a_p1_boulders a_p1_records a_p1_boulders_list a_p1_boulders_list_values a_p1_ground_layers a_p1_ground_layers_values a_p1_pose_bottoms a_p1_records_values a_t_ballast a_t_lubricated a_t_pose a_t_ground a_t_boulders a_t_records a_t_boulders_list a_t_boulders_list_values a_t_ground_layers a_t_ground_layers_values a_t_pose_bottoms a_t_records_values v_p1_columns v_p1_rows v_p1_weight v_p1_stiffness v_p1_water v_p1_ballast v_p1_boulders_list_count v_p1_boulders_list_values v_p1_ground_layers_count v_p1_ground_layers_values v_p1_lubricated v_p1_pose_depth v_p1_pose_tiltX v_p1_pose_tiltY v_p1_pose_bottoms v_p1_records_count v_p1_records_values v_p1_columns v_p1_rows v_p1_weight v_p1_stiffness v_p1_water (va_cpy v_p1_ballast v_t_ballast (Int32.toNatClampNeg 0) (Int32.toNatClampNeg 0) (Int32.toNatClampNeg 49)) v_t_boulders_list_count v_t_boulders_list_values v_t_ground_layers_count v_t_ground_layers_values (va_cpy v_p1_lubricated v_t_lubricated (Int32.toNatClampNeg 0) (Int32.toNatClampNeg 0) (Int32.toNatClampNeg 4)) v_t_pose_depth v_t_pose_tiltX v_t_pose_tiltY v_t_pose_bottoms v_t_records_count v_t_records_values) wm_490 wm_469 wm_468 wm_16 (by decide) (Nat.le_of_ble_eq_true rfl) 8 21 rfl rfl dX5_copyFrom_73 hf rfl (fun hf => ?_)
  refine mg_aload_n (pc := 76) C 0 dX5_copyFrom_76 rfl rfl ?_
  refine mg_get (pc := 77) C 13 rfl rfl inX5 7 (by decide) wm_157 rfl rfl dX5_copyFrom_77 ?_
  refine mg_aload_n (pc := 80) C 1 dX5_copyFrom_80 rfl rfl ?_
  refine mg_get (pc := 81) C 0 rfl rfl inX5 7 (by decide) wm_157 rfl rfl dX5_copyFrom_81 ?_
  obtain ⟨q1, h2, hf⟩ := mg_b hf
  refine mg_callV (pc := 84) C (w2 := w_X5_copyFrom k a_t a_p1 a_p1_ballast a_p1_lubricated a_p1_pose a_p1_ground a_p1_boulders a_p1_records a_p1_boulders_list a_p1_boulders_list_values a_p1_ground_layers a_p1_ground_layers_values a_p1_pose_bottoms a_p1_records_values a_t_ballast a_t_lubricated a_t_pose a_t_ground a_t_boulders a_t_records a_t_boulders_list a_t_boulders_list_values a_t_ground_layers a_t_ground_layers_values a_t_pose_bottoms a_t_records_values v_p1_columns v_p1_rows v_p1_weight v_p1_stiffness v_p1_water v_p1_ballast v_p1_boulders_list_count v_p1_boulders_list_values v_p1_ground_layers_count v_p1_ground_layers_values v_p1_lubricated v_p1_pose_depth v_p1_pose_tiltX v_p1_pose_tiltY v_p1_pose_bottoms v_p1_records_count v_p1_records_values v_p1_columns v_p1_rows v_p1_weight v_p1_stiffness v_p1_water (va_cpy v_p1_ballast v_t_ballast (Int32.toNatClampNeg 0) (Int32.toNatClampNeg 0) (Int32.toNatClampNeg 49)) v_t_boulders_list_count v_t_boulders_list_values v_t_ground_layers_count v_t_ground_layers_values (va_cpy v_p1_lubricated v_t_lubricated (Int32.toNatClampNeg 0) (Int32.toNatClampNeg 0) (Int32.toNatClampNeg 4)) q1.1 q1.2.1 q1.2.2.1 q1.2.2.2 v_t_records_count v_t_records_values) (c_X4_copyFrom z.2.1 k a_t_pose a_p1_pose a_p1_pose_bottoms a_t_pose_bottoms v_p1_pose_depth v_p1_pose_tiltX v_p1_pose_tiltY v_p1_pose_bottoms v_t_pose_depth v_t_pose_tiltX v_t_pose_tiltY v_t_pose_bottoms q1 h2) Y_X4_copyFrom wm_491 (by decide) rfl 22 rfl rfl rfl [9, 10, 22, 23] rfl (by decide) rfl [none, none, none, none, none, none, none, none, none, some 0, some 1, none, none, none, none, none, none, none, none, none, none, none, some 2, some 3, none, none] (by decide) rfl (Nat.le_of_ble_eq_true rfl) rfl dX5_copyFrom_84 ?_
  refine mg_aload_n (pc := 87) C 0 dX5_copyFrom_87 rfl rfl ?_
  refine mg_get (pc := 88) C 13 rfl rfl inX5 8 (by decide) wm_160 rfl rfl dX5_copyFrom_88 ?_
  refine mg_get (pc := 91) C 18 rfl rfl inX2 0 (by decide) wm_95 rfl rfl dX5_copyFrom_91 ?_
  refine mg_aload_n (pc := 94) C 1 dX5_copyFrom_94 rfl rfl ?_
  refine mg_get (pc := 95) C 0 rfl rfl inX5 8 (by decide) wm_160 rfl rfl dX5_copyFrom_95 ?_
  refine mg_get (pc := 98) C 5 rfl rfl inX2 0 (by decide) wm_95 rfl rfl dX5_copyFrom_98 ?_
  obtain ⟨q3, h4, hf⟩ := mg_b hf
  refine mg_callV (pc := 101) C (w2 := w_X5_copyFrom k a_t a_p1 a_p1_ballast a_p1_lubricated a_p1_pose a_p1_ground a_p1_boulders a_p1_records a_p1_boulders_list a_p1_boulders_list_values a_p1_ground_layers a_p1_ground_layers_values a_p1_pose_bottoms a_p1_records_values a_t_ballast a_t_lubricated a_t_pose a_t_ground a_t_boulders a_t_records a_t_boulders_list a_t_boulders_list_values a_t_ground_layers a_t_ground_layers_values a_t_pose_bottoms a_t_records_values v_p1_columns v_p1_rows v_p1_weight v_p1_stiffness v_p1_water v_p1_ballast v_p1_boulders_list_count v_p1_boulders_list_values v_p1_ground_layers_count v_p1_ground_layers_values v_p1_lubricated v_p1_pose_depth v_p1_pose_tiltX v_p1_pose_tiltY v_p1_pose_bottoms v_p1_records_count v_p1_records_values v_p1_columns v_p1_rows v_p1_weight v_p1_stiffness v_p1_water (va_cpy v_p1_ballast v_t_ballast (Int32.toNatClampNeg 0) (Int32.toNatClampNeg 0) (Int32.toNatClampNeg 49)) v_t_boulders_list_count v_t_boulders_list_values q3.1 q3.2 (va_cpy v_p1_lubricated v_t_lubricated (Int32.toNatClampNeg 0) (Int32.toNatClampNeg 0) (Int32.toNatClampNeg 4)) q1.1 q1.2.1 q1.2.2.1 q1.2.2.2 v_t_records_count v_t_records_values) (c_X7_copyFrom z.2.1 k a_t_ground_layers a_p1_ground_layers a_p1_ground_layers_values a_t_ground_layers_values 24 24 8 v_p1_ground_layers_count v_p1_ground_layers_values 8 v_t_ground_layers_count v_t_ground_layers_values q3 h4) Y_X7_copyFrom wm_496 (by decide) rfl 19 rfl rfl rfl [6, 7, 19, 20] rfl (by decide) rfl [none, none, none, none, none, none, some 0, some 1, none, none, none, none, none, none, none, none, none, none, none, some 2, some 3, none, none, none, none, none] (by decide) rfl (Nat.le_of_ble_eq_true rfl) rfl dX5_copyFrom_101 ?_
  refine mg_aload_n (pc := 104) C 0 dX5_copyFrom_104 rfl rfl ?_
  refine mg_get (pc := 105) C 13 rfl rfl inX5 9 (by decide) wm_164 rfl rfl dX5_copyFrom_105 ?_
  refine mg_get (pc := 108) C 15 rfl rfl inX0 0 (by decide) wm_110 rfl rfl dX5_copyFrom_108 ?_
  refine mg_aload_n (pc := 111) C 1 dX5_copyFrom_111 rfl rfl ?_
  refine mg_get (pc := 112) C 0 rfl rfl inX5 9 (by decide) wm_164 rfl rfl dX5_copyFrom_112 ?_
  refine mg_get (pc := 115) C 2 rfl rfl inX0 0 (by decide) wm_110 rfl rfl dX5_copyFrom_115 ?_
  obtain ⟨q5, h6, hf⟩ := mg_b hf
  refine mg_callV (pc := 118) C (w2 := w_X5_copyFrom k a_t a_p1 a_p1_ballast a_p1_lubricated a_p1_pose a_p1_ground a_p1_boulders a_p1_records a_p1_boulders_list a_p1_boulders_list_values a_p1_ground_layers a_p1_ground_layers_values a_p1_pose_bottoms a_p1_records_values a_t_ballast a_t_lubricated a_t_pose a_t_ground a_t_boulders a_t_records a_t_boulders_list a_t_boulders_list_values a_t_ground_layers a_t_ground_layers_values a_t_pose_bottoms a_t_records_values v_p1_columns v_p1_rows v_p1_weight v_p1_stiffness v_p1_water v_p1_ballast v_p1_boulders_list_count v_p1_boulders_list_values v_p1_ground_layers_count v_p1_ground_layers_values v_p1_lubricated v_p1_pose_depth v_p1_pose_tiltX v_p1_pose_tiltY v_p1_pose_bottoms v_p1_records_count v_p1_records_values v_p1_columns v_p1_rows v_p1_weight v_p1_stiffness v_p1_water (va_cpy v_p1_ballast v_t_ballast (Int32.toNatClampNeg 0) (Int32.toNatClampNeg 0) (Int32.toNatClampNeg 49)) q5.1 q5.2 q3.1 q3.2 (va_cpy v_p1_lubricated v_t_lubricated (Int32.toNatClampNeg 0) (Int32.toNatClampNeg 0) (Int32.toNatClampNeg 4)) q1.1 q1.2.1 q1.2.2.1 q1.2.2.2 v_t_records_count v_t_records_values) (c_X7_copyFrom z.2.1 k a_t_boulders_list a_p1_boulders_list a_p1_boulders_list_values a_t_boulders_list_values 30 30 10 v_p1_boulders_list_count v_p1_boulders_list_values 10 v_t_boulders_list_count v_t_boulders_list_values q5 h6) Y_X7_copyFrom wm_496 (by decide) rfl 16 rfl rfl rfl [3, 4, 16, 17] rfl (by decide) rfl [none, none, none, some 0, some 1, none, none, none, none, none, none, none, none, none, none, none, some 2, some 3, none, none, none, none, none, none, none, none] (by decide) rfl (Nat.le_of_ble_eq_true rfl) rfl dX5_copyFrom_118 ?_
  refine mg_aload_n (pc := 121) C 0 dX5_copyFrom_121 rfl rfl ?_
  refine mg_get (pc := 122) C 13 rfl rfl inX5 10 (by decide) wm_168 rfl rfl dX5_copyFrom_122 ?_
  refine mg_aload_n (pc := 125) C 1 dX5_copyFrom_125 rfl rfl ?_
  refine mg_get (pc := 126) C 0 rfl rfl inX5 10 (by decide) wm_168 rfl rfl dX5_copyFrom_126 ?_
  obtain ⟨q7, h8, hf⟩ := mg_b hf
  refine mg_callV (pc := 129) C (w2 := w_X5_copyFrom k a_t a_p1 a_p1_ballast a_p1_lubricated a_p1_pose a_p1_ground a_p1_boulders a_p1_records a_p1_boulders_list a_p1_boulders_list_values a_p1_ground_layers a_p1_ground_layers_values a_p1_pose_bottoms a_p1_records_values a_t_ballast a_t_lubricated a_t_pose a_t_ground a_t_boulders a_t_records a_t_boulders_list a_t_boulders_list_values a_t_ground_layers a_t_ground_layers_values a_t_pose_bottoms a_t_records_values v_p1_columns v_p1_rows v_p1_weight v_p1_stiffness v_p1_water v_p1_ballast v_p1_boulders_list_count v_p1_boulders_list_values v_p1_ground_layers_count v_p1_ground_layers_values v_p1_lubricated v_p1_pose_depth v_p1_pose_tiltX v_p1_pose_tiltY v_p1_pose_bottoms v_p1_records_count v_p1_records_values v_p1_columns v_p1_rows v_p1_weight v_p1_stiffness v_p1_water (va_cpy v_p1_ballast v_t_ballast (Int32.toNatClampNeg 0) (Int32.toNatClampNeg 0) (Int32.toNatClampNeg 49)) q5.1 q5.2 q3.1 q3.2 (va_cpy v_p1_lubricated v_t_lubricated (Int32.toNatClampNeg 0) (Int32.toNatClampNeg 0) (Int32.toNatClampNeg 4)) q1.1 q1.2.1 q1.2.2.1 q1.2.2.2 q7.1 q7.2) (c_X7_copyFrom z.2.1 k a_t_records a_p1_records a_p1_records_values a_t_records_values 60 60 20 v_p1_records_count v_p1_records_values 20 v_t_records_count v_t_records_values q7 h8) Y_X7_copyFrom wm_496 (by decide) rfl 24 rfl rfl rfl [11, 12, 24, 25] rfl (by decide) rfl [none, none, none, none, none, none, none, none, none, none, none, some 0, some 1, none, none, none, none, none, none, none, none, none, none, none, some 2, some 3] (by decide) rfl (Nat.le_of_ble_eq_true rfl) rfl dX5_copyFrom_129 ?_
  obtain rfl := Option.some.inj hf
  exact E _ _ dX5_copyFrom_132
abbrev w_X5_isCell (k : mg_K) (a_t a_t_ballast a_t_lubricated a_t_pose a_t_ground a_t_boulders a_t_records : Nat) (v_t_columns : Int32) (v_t_rows : Int32) (v_t_weight : Int32) (v_t_stiffness : Int32) (v_t_water : Int32) : va_W := [(a_t, .inr (5, [.int v_t_columns, .int v_t_rows, .int v_t_weight, .int v_t_stiffness, .int v_t_water, .ref a_t_ballast, .ref a_t_lubricated, .ref a_t_pose, .ref a_t_ground, .ref a_t_boulders, .ref a_t_records]))]
def f_X5_isCell (v_t_columns : Int32) (v_t_rows : Int32) (x1 : Int32) : Option (Int32) := if x1 < 0 then (some 0) else (if (v_t_columns * v_t_rows) ≤ x1 then (some 0) else (some 1))
theorem Y_X5_isCell : mg_Y yX5_isCell cX5_isCell 2 (some .boolean) 1 := ⟨wm_527, wm_528, wm_3, wm_529, ⟨by decide +kernel, by decide +kernel, by decide +kernel⟩, by decide⟩
set_option maxRecDepth 100000 in
set_option maxHeartbeats 4000000 in
theorem c_X5_isCell (l : Launch) (k : mg_K) (a_t a_t_ballast a_t_lubricated a_t_pose a_t_ground a_t_boulders a_t_records : Nat) (v_t_columns : Int32) (v_t_rows : Int32) (v_t_weight : Int32) (v_t_stiffness : Int32) (v_t_water : Int32) (x1 : Int32) (q : Int32) (hf : f_X5_isCell v_t_columns v_t_rows x1 = some q) : mg_M l yX5_isCell cX5_isCell 2 (some .boolean) 0 k [.ref a_t, .int x1] (w_X5_isCell k a_t a_t_ballast a_t_lubricated a_t_pose a_t_ground a_t_boulders a_t_records v_t_columns v_t_rows v_t_weight v_t_stiffness v_t_water) (w_X5_isCell k a_t a_t_ballast a_t_lubricated a_t_pose a_t_ground a_t_boulders a_t_records v_t_columns v_t_rows v_t_weight v_t_stiffness v_t_water) (some (.int q)) := by
  refine mg_Mz RX5 [(0, .ref a_t), (1, .int x1)] (by decide +kernel) rfl rfl (Nat.le_of_ble_eq_true rfl) ?_
  intro z A Q hl C E
  subst hl
  unfold f_X5_isCell at hf
  refine mg_iload_n (pc := 0) C 1 dX5_isCell_0 rfl rfl ?_
  refine mg_if_lt (pc := 1) (tgt := 21) C dX5_isCell_1 (by decide) hf (fun hf => ?_) (fun hf => ?_)
  · refine mg_iconst (pc := 21) C dX5_isCell_21 (v := 0) (by decide) ?_
    obtain rfl := Option.some.inj hf
    exact E mg_n0 _ _ dX5_isCell_22
  · refine mg_iload_n (pc := 4) C 1 dX5_isCell_4 rfl rfl ?_
    refine mg_aload_n (pc := 5) C 0 dX5_isCell_5 rfl rfl ?_
    refine mg_get (pc := 6) C 0 rfl rfl inX5 0 (by decide) wm_135 rfl rfl dX5_isCell_6 ?_
    refine mg_aload_n (pc := 9) C 0 dX5_isCell_9 rfl rfl ?_
    refine mg_get (pc := 10) C 0 rfl rfl inX5 1 (by decide) wm_139 rfl rfl dX5_isCell_10 ?_
    refine mg_imul (pc := 13) C dX5_isCell_13 ?_
    refine mg_icmp_ge (pc := 14) (tgt := 21) C dX5_isCell_14 (by decide) hf (fun hf => ?_) (fun hf => ?_)
    · refine mg_iconst (pc := 21) C dX5_isCell_21 (v := 0) (by decide) ?_
      obtain rfl := Option.some.inj hf
      exact E mg_n0 _ _ dX5_isCell_22
    · refine mg_iconst (pc := 17) C dX5_isCell_17 (v := 1) (by decide) ?_
      refine mg_goto (pc := 18) (tgt := 22) C dX5_isCell_18 (by decide) ?_
      obtain rfl := Option.some.inj hf
      exact E mg_n1 _ _ dX5_isCell_22
abbrev w_X5_columnOf (k : mg_K) (a_t a_t_ballast a_t_lubricated a_t_pose a_t_ground a_t_boulders a_t_records : Nat) (v_t_columns : Int32) (v_t_rows : Int32) (v_t_weight : Int32) (v_t_stiffness : Int32) (v_t_water : Int32) : va_W := [(a_t, .inr (5, [.int v_t_columns, .int v_t_rows, .int v_t_weight, .int v_t_stiffness, .int v_t_water, .ref a_t_ballast, .ref a_t_lubricated, .ref a_t_pose, .ref a_t_ground, .ref a_t_boulders, .ref a_t_records]))]
def f_X5_columnOf (v_t_columns : Int32) (x1 : Int32) : Option (Int32) := if v_t_columns ≤ 0 then (some 0) else (if v_t_columns = 0 then none else (some (x1 - x1 / v_t_columns * v_t_columns)))
theorem Y_X5_columnOf : mg_Y yX5_columnOf cX5_columnOf 2 (some .int) 1 := ⟨wm_577, wm_578, wm_3, wm_579, ⟨by decide +kernel, by decide +kernel, by decide +kernel⟩, by decide⟩
set_option maxRecDepth 100000 in
set_option maxHeartbeats 4000000 in
theorem c_X5_columnOf (l : Launch) (k : mg_K) (a_t a_t_ballast a_t_lubricated a_t_pose a_t_ground a_t_boulders a_t_records : Nat) (v_t_columns : Int32) (v_t_rows : Int32) (v_t_weight : Int32) (v_t_stiffness : Int32) (v_t_water : Int32) (x1 : Int32) (q : Int32) (hf : f_X5_columnOf v_t_columns x1 = some q) : mg_M l yX5_columnOf cX5_columnOf 2 (some .int) 0 k [.ref a_t, .int x1] (w_X5_columnOf k a_t a_t_ballast a_t_lubricated a_t_pose a_t_ground a_t_boulders a_t_records v_t_columns v_t_rows v_t_weight v_t_stiffness v_t_water) (w_X5_columnOf k a_t a_t_ballast a_t_lubricated a_t_pose a_t_ground a_t_boulders a_t_records v_t_columns v_t_rows v_t_weight v_t_stiffness v_t_water) (some (.int q)) := by
  refine mg_Mi RX5 [(0, .ref a_t), (1, .int x1)] (by decide +kernel) rfl rfl (Nat.le_of_ble_eq_true rfl) ?_
  intro z A Q hl C E
  subst hl
  unfold f_X5_columnOf at hf
  refine mg_aload_n (pc := 0) C 0 dX5_columnOf_0 rfl rfl ?_
  refine mg_get (pc := 1) C 0 rfl rfl inX5 0 (by decide) wm_135 rfl rfl dX5_columnOf_1 ?_
  refine mg_if_le (pc := 4) (tgt := 16) C dX5_columnOf_4 (by decide) hf (fun hf => ?_) (fun hf => ?_)
  · refine mg_iconst (pc := 16) C dX5_columnOf_16 (v := 0) (by decide) ?_
    obtain rfl := Option.some.inj hf
    exact E _ _ dX5_columnOf_17
  · refine mg_iload_n (pc := 7) C 1 dX5_columnOf_7 rfl rfl ?_
    refine mg_aload_n (pc := 8) C 0 dX5_columnOf_8 rfl rfl ?_
    refine mg_get (pc := 9) C 0 rfl rfl inX5 0 (by decide) wm_135 rfl rfl dX5_columnOf_9 ?_
    obtain ⟨d1, hf⟩ := mg_ck' hf
    refine mg_irem (pc := 12) C dX5_columnOf_12 d1 ?_
    refine mg_goto (pc := 13) (tgt := 17) C dX5_columnOf_13 (by decide) ?_
    obtain rfl := Option.some.inj hf
    exact E _ _ dX5_columnOf_17
abbrev w_X5_isEdgeAt (k : mg_K) (a_t a_t_ballast a_t_lubricated a_t_pose a_t_ground a_t_boulders a_t_records : Nat) (v_t_columns : Int32) (v_t_rows : Int32) (v_t_weight : Int32) (v_t_stiffness : Int32) (v_t_water : Int32) : va_W := [(a_t, .inr (5, [.int v_t_columns, .int v_t_rows, .int v_t_weight, .int v_t_stiffness, .int v_t_water, .ref a_t_ballast, .ref a_t_lubricated, .ref a_t_pose, .ref a_t_ground, .ref a_t_boulders, .ref a_t_records]))]
def f_X5_isEdgeAt (v_t_columns : Int32) (v_t_rows : Int32) (x1 : Int32) (x2 : Int32) : Option (Int32) := if x1 = 0 then (some 1) else (if x1 = (v_t_columns - 1) then (some 1) else (if x2 = 0 then (some 1) else (if x2 = (v_t_rows - 1) then (some 1) else (some 0))))
theorem Y_X5_isEdgeAt : mg_Y yX5_isEdgeAt cX5_isEdgeAt 3 (some .boolean) 2 := ⟨wm_585, wm_586, wm_3, wm_587, ⟨by decide +kernel, by decide +kernel, by decide +kernel⟩, by decide⟩
set_option maxRecDepth 100000 in
set_option maxHeartbeats 4000000 in
theorem c_X5_isEdgeAt (l : Launch) (k : mg_K) (a_t a_t_ballast a_t_lubricated a_t_pose a_t_ground a_t_boulders a_t_records : Nat) (v_t_columns : Int32) (v_t_rows : Int32) (v_t_weight : Int32) (v_t_stiffness : Int32) (v_t_water : Int32) (x1 : Int32) (x2 : Int32) (q : Int32) (hf : f_X5_isEdgeAt v_t_columns v_t_rows x1 x2 = some q) : mg_M l yX5_isEdgeAt cX5_isEdgeAt 3 (some .boolean) 0 k [.ref a_t, .int x1, .int x2] (w_X5_isEdgeAt k a_t a_t_ballast a_t_lubricated a_t_pose a_t_ground a_t_boulders a_t_records v_t_columns v_t_rows v_t_weight v_t_stiffness v_t_water) (w_X5_isEdgeAt k a_t a_t_ballast a_t_lubricated a_t_pose a_t_ground a_t_boulders a_t_records v_t_columns v_t_rows v_t_weight v_t_stiffness v_t_water) (some (.int q)) := by
  refine mg_Mz RX5 [(0, .ref a_t), (1, .int x1), (2, .int x2)] (by decide +kernel) rfl rfl (Nat.le_of_ble_eq_true rfl) ?_
  intro z A Q hl C E
  subst hl
  unfold f_X5_isEdgeAt at hf
  refine mg_iload_n (pc := 0) C 1 dX5_isEdgeAt_0 rfl rfl ?_
  refine mg_if_eq (pc := 1) (tgt := 28) C dX5_isEdgeAt_1 (by decide) hf (fun hf => ?_) (fun hf => ?_)
  · refine mg_iconst (pc := 28) C dX5_isEdgeAt_28 (v := 1) (by decide) ?_
    refine mg_goto (pc := 29) (tgt := 33) C dX5_isEdgeAt_29 (by decide) ?_
    obtain rfl := Option.some.inj hf
    exact E mg_n1 _ _ dX5_isEdgeAt_33
  · refine mg_iload_n (pc := 4) C 1 dX5_isEdgeAt_4 rfl rfl ?_
    refine mg_aload_n (pc := 5) C 0 dX5_isEdgeAt_5 rfl rfl ?_
    refine mg_get (pc := 6) C 0 rfl rfl inX5 0 (by decide) wm_135 rfl rfl dX5_isEdgeAt_6 ?_
    refine mg_iconst (pc := 9) C dX5_isEdgeAt_9 (v := 1) (by decide) ?_
    refine mg_isub (pc := 10) C dX5_isEdgeAt_10 ?_
    refine mg_icmp_eq (pc := 11) (tgt := 28) C dX5_isEdgeAt_11 (by decide) hf (fun hf => ?_) (fun hf => ?_)
    · refine mg_iconst (pc := 28) C dX5_isEdgeAt_28 (v := 1) (by decide) ?_
      refine mg_goto (pc := 29) (tgt := 33) C dX5_isEdgeAt_29 (by decide) ?_
      obtain rfl := Option.some.inj hf
      exact E mg_n1 _ _ dX5_isEdgeAt_33
    · refine mg_iload_n (pc := 14) C 2 dX5_isEdgeAt_14 rfl rfl ?_
      refine mg_if_eq (pc := 15) (tgt := 28) C dX5_isEdgeAt_15 (by decide) hf (fun hf => ?_) (fun hf => ?_)
      · refine mg_iconst (pc := 28) C dX5_isEdgeAt_28 (v := 1) (by decide) ?_
        refine mg_goto (pc := 29) (tgt := 33) C dX5_isEdgeAt_29 (by decide) ?_
        obtain rfl := Option.some.inj hf
        exact E mg_n1 _ _ dX5_isEdgeAt_33
      · refine mg_iload_n (pc := 18) C 2 dX5_isEdgeAt_18 rfl rfl ?_
        refine mg_aload_n (pc := 19) C 0 dX5_isEdgeAt_19 rfl rfl ?_
        refine mg_get (pc := 20) C 0 rfl rfl inX5 1 (by decide) wm_139 rfl rfl dX5_isEdgeAt_20 ?_
        refine mg_iconst (pc := 23) C dX5_isEdgeAt_23 (v := 1) (by decide) ?_
        refine mg_isub (pc := 24) C dX5_isEdgeAt_24 ?_
        refine mg_icmp_ne (pc := 25) (tgt := 32) C dX5_isEdgeAt_25 (by decide) hf (fun hf => ?_) (fun hf => ?_)
        · refine mg_iconst (pc := 32) C dX5_isEdgeAt_32 (v := 0) (by decide) ?_
          obtain rfl := Option.some.inj hf
          exact E mg_n0 _ _ dX5_isEdgeAt_33
        · refine mg_iconst (pc := 28) C dX5_isEdgeAt_28 (v := 1) (by decide) ?_
          refine mg_goto (pc := 29) (tgt := 33) C dX5_isEdgeAt_29 (by decide) ?_
          obtain rfl := Option.some.inj hf
          exact E mg_n1 _ _ dX5_isEdgeAt_33
abbrev w_X5_rowOf (k : mg_K) (a_t a_t_ballast a_t_lubricated a_t_pose a_t_ground a_t_boulders a_t_records : Nat) (v_t_columns : Int32) (v_t_rows : Int32) (v_t_weight : Int32) (v_t_stiffness : Int32) (v_t_water : Int32) : va_W := [(a_t, .inr (5, [.int v_t_columns, .int v_t_rows, .int v_t_weight, .int v_t_stiffness, .int v_t_water, .ref a_t_ballast, .ref a_t_lubricated, .ref a_t_pose, .ref a_t_ground, .ref a_t_boulders, .ref a_t_records]))]
def f_X5_rowOf (v_t_columns : Int32) (x1 : Int32) : Option (Int32) := if v_t_columns ≤ 0 then (some 0) else (if v_t_columns = 0 then none else (some (x1 / v_t_columns)))
theorem Y_X5_rowOf : mg_Y yX5_rowOf cX5_rowOf 2 (some .int) 1 := ⟨wm_581, wm_582, wm_3, wm_583, ⟨by decide +kernel, by decide +kernel, by decide +kernel⟩, by decide⟩
set_option maxRecDepth 100000 in
set_option maxHeartbeats 4000000 in
theorem c_X5_rowOf (l : Launch) (k : mg_K) (a_t a_t_ballast a_t_lubricated a_t_pose a_t_ground a_t_boulders a_t_records : Nat) (v_t_columns : Int32) (v_t_rows : Int32) (v_t_weight : Int32) (v_t_stiffness : Int32) (v_t_water : Int32) (x1 : Int32) (q : Int32) (hf : f_X5_rowOf v_t_columns x1 = some q) : mg_M l yX5_rowOf cX5_rowOf 2 (some .int) 0 k [.ref a_t, .int x1] (w_X5_rowOf k a_t a_t_ballast a_t_lubricated a_t_pose a_t_ground a_t_boulders a_t_records v_t_columns v_t_rows v_t_weight v_t_stiffness v_t_water) (w_X5_rowOf k a_t a_t_ballast a_t_lubricated a_t_pose a_t_ground a_t_boulders a_t_records v_t_columns v_t_rows v_t_weight v_t_stiffness v_t_water) (some (.int q)) := by
  refine mg_Mi RX5 [(0, .ref a_t), (1, .int x1)] (by decide +kernel) rfl rfl (Nat.le_of_ble_eq_true rfl) ?_
  intro z A Q hl C E
  subst hl
  unfold f_X5_rowOf at hf
  refine mg_aload_n (pc := 0) C 0 dX5_rowOf_0 rfl rfl ?_
  refine mg_get (pc := 1) C 0 rfl rfl inX5 0 (by decide) wm_135 rfl rfl dX5_rowOf_1 ?_
  refine mg_if_le (pc := 4) (tgt := 16) C dX5_rowOf_4 (by decide) hf (fun hf => ?_) (fun hf => ?_)
  · refine mg_iconst (pc := 16) C dX5_rowOf_16 (v := 0) (by decide) ?_
    obtain rfl := Option.some.inj hf
    exact E _ _ dX5_rowOf_17
  · refine mg_iload_n (pc := 7) C 1 dX5_rowOf_7 rfl rfl ?_
    refine mg_aload_n (pc := 8) C 0 dX5_rowOf_8 rfl rfl ?_
    refine mg_get (pc := 9) C 0 rfl rfl inX5 0 (by decide) wm_135 rfl rfl dX5_rowOf_9 ?_
    obtain ⟨d1, hf⟩ := mg_ck' hf
    refine mg_idiv (pc := 12) C dX5_rowOf_12 d1 ?_
    refine mg_goto (pc := 13) (tgt := 17) C dX5_rowOf_13 (by decide) ?_
    obtain rfl := Option.some.inj hf
    exact E _ _ dX5_rowOf_17
abbrev w_X5_isEdge (k : mg_K) (a_t a_t_ballast a_t_lubricated a_t_pose a_t_ground a_t_boulders a_t_records : Nat) (v_t_columns : Int32) (v_t_rows : Int32) (v_t_weight : Int32) (v_t_stiffness : Int32) (v_t_water : Int32) : va_W := [(a_t, .inr (5, [.int v_t_columns, .int v_t_rows, .int v_t_weight, .int v_t_stiffness, .int v_t_water, .ref a_t_ballast, .ref a_t_lubricated, .ref a_t_pose, .ref a_t_ground, .ref a_t_boulders, .ref a_t_records]))]
def f_X5_isEdge (v_t_columns : Int32) (v_t_rows : Int32) (x1 : Int32) : Option (Int32) := (f_X5_isCell v_t_columns v_t_rows x1).bind (fun q1 => if q1 = 0 then (some 0) else ((f_X5_columnOf v_t_columns x1).bind (fun q3 => (f_X5_rowOf v_t_columns x1).bind (fun q5 => (f_X5_isEdgeAt v_t_columns v_t_rows q3 q5).bind (fun q7 => if q7 = 0 then (some 0) else (some 1))))))
theorem Y_X5_isEdge : mg_Y yX5_isEdge cX5_isEdge 2 (some .boolean) 1 := ⟨wm_572, wm_573, wm_3, wm_574, ⟨by decide +kernel, by decide +kernel, by decide +kernel⟩, by decide⟩
set_option maxRecDepth 100000 in
set_option maxHeartbeats 4000000 in
theorem c_X5_isEdge (l : Launch) (k : mg_K) (a_t a_t_ballast a_t_lubricated a_t_pose a_t_ground a_t_boulders a_t_records : Nat) (v_t_columns : Int32) (v_t_rows : Int32) (v_t_weight : Int32) (v_t_stiffness : Int32) (v_t_water : Int32) (x1 : Int32) (q : Int32) (hf : f_X5_isEdge v_t_columns v_t_rows x1 = some q) : mg_M l yX5_isEdge cX5_isEdge 2 (some .boolean) 1 k [.ref a_t, .int x1] (w_X5_isEdge k a_t a_t_ballast a_t_lubricated a_t_pose a_t_ground a_t_boulders a_t_records v_t_columns v_t_rows v_t_weight v_t_stiffness v_t_water) (w_X5_isEdge k a_t a_t_ballast a_t_lubricated a_t_pose a_t_ground a_t_boulders a_t_records v_t_columns v_t_rows v_t_weight v_t_stiffness v_t_water) (some (.int q)) := by
  refine mg_Mz RX5 [(0, .ref a_t), (1, .int x1)] (by decide +kernel) rfl rfl (Nat.le_of_ble_eq_true rfl) ?_
  intro z A Q hl C E
  subst hl
  unfold f_X5_isEdge at hf
  refine mg_aload_n (pc := 0) C 0 dX5_isEdge_0 rfl rfl ?_
  refine mg_iload_n (pc := 1) C 1 dX5_isEdge_1 rfl rfl ?_
  obtain ⟨q1, h2, hf⟩ := mg_b hf
  refine mg_callV (pc := 2) C (w2 := w_X5_isEdge k a_t a_t_ballast a_t_lubricated a_t_pose a_t_ground a_t_boulders a_t_records v_t_columns v_t_rows v_t_weight v_t_stiffness v_t_water) (c_X5_isCell z.2.1 k a_t a_t_ballast a_t_lubricated a_t_pose a_t_ground a_t_boulders a_t_records v_t_columns v_t_rows v_t_weight v_t_stiffness v_t_water x1 q1 h2) Y_X5_isCell wm_575 (by decide) rfl 0 rfl rfl rfl [0] rfl (by decide) rfl [some 0] (by decide) rfl (Nat.le_of_ble_eq_true rfl) rfl dX5_isEdge_2 ?_
  refine mg_if_eq (pc := 5) (tgt := 29) C dX5_isEdge_5 (by decide) hf (fun hf => ?_) (fun hf => ?_)
  · refine mg_iconst (pc := 29) C dX5_isEdge_29 (v := 0) (by decide) ?_
    obtain rfl := Option.some.inj hf
    exact E mg_n0 _ _ dX5_isEdge_30
  · refine mg_aload_n (pc := 8) C 0 dX5_isEdge_8 rfl rfl ?_
    refine mg_aload_n (pc := 9) C 0 dX5_isEdge_9 rfl rfl ?_
    refine mg_iload_n (pc := 10) C 1 dX5_isEdge_10 rfl rfl ?_
    obtain ⟨q3, h4, hf⟩ := mg_b hf
    refine mg_callV (pc := 11) C (w2 := w_X5_isEdge k a_t a_t_ballast a_t_lubricated a_t_pose a_t_ground a_t_boulders a_t_records v_t_columns v_t_rows v_t_weight v_t_stiffness v_t_water) (c_X5_columnOf z.2.1 k a_t a_t_ballast a_t_lubricated a_t_pose a_t_ground a_t_boulders a_t_records v_t_columns v_t_rows v_t_weight v_t_stiffness v_t_water x1 q3 h4) Y_X5_columnOf wm_576 (by decide) rfl 0 rfl rfl rfl [0] rfl (by decide) rfl [some 0] (by decide) rfl (Nat.le_of_ble_eq_true rfl) rfl dX5_isEdge_11 ?_
    refine mg_aload_n (pc := 14) C 0 dX5_isEdge_14 rfl rfl ?_
    refine mg_iload_n (pc := 15) C 1 dX5_isEdge_15 rfl rfl ?_
    obtain ⟨q5, h6, hf⟩ := mg_b hf
    refine mg_callV (pc := 16) C (w2 := w_X5_isEdge k a_t a_t_ballast a_t_lubricated a_t_pose a_t_ground a_t_boulders a_t_records v_t_columns v_t_rows v_t_weight v_t_stiffness v_t_water) (c_X5_rowOf z.2.1 k a_t a_t_ballast a_t_lubricated a_t_pose a_t_ground a_t_boulders a_t_records v_t_columns v_t_rows v_t_weight v_t_stiffness v_t_water x1 q5 h6) Y_X5_rowOf wm_580 (by decide) rfl 0 rfl rfl rfl [0] rfl (by decide) rfl [some 0] (by decide) rfl (Nat.le_of_ble_eq_true rfl) rfl dX5_isEdge_16 ?_
    obtain ⟨q7, h8, hf⟩ := mg_b hf
    refine mg_callV (pc := 19) C (w2 := w_X5_isEdge k a_t a_t_ballast a_t_lubricated a_t_pose a_t_ground a_t_boulders a_t_records v_t_columns v_t_rows v_t_weight v_t_stiffness v_t_water) (c_X5_isEdgeAt z.2.1 k a_t a_t_ballast a_t_lubricated a_t_pose a_t_ground a_t_boulders a_t_records v_t_columns v_t_rows v_t_weight v_t_stiffness v_t_water q3 q5 q7 h8) Y_X5_isEdgeAt wm_584 (by decide) rfl 0 rfl rfl rfl [0] rfl (by decide) rfl [some 0] (by decide) rfl (Nat.le_of_ble_eq_true rfl) rfl dX5_isEdge_19 ?_
    refine mg_if_eq (pc := 22) (tgt := 29) C dX5_isEdge_22 (by decide) hf (fun hf => ?_) (fun hf => ?_)
    · refine mg_iconst (pc := 29) C dX5_isEdge_29 (v := 0) (by decide) ?_
      obtain rfl := Option.some.inj hf
      exact E mg_n0 _ _ dX5_isEdge_30
    · refine mg_iconst (pc := 25) C dX5_isEdge_25 (v := 1) (by decide) ?_
      refine mg_goto (pc := 26) (tgt := 30) C dX5_isEdge_26 (by decide) ?_
      obtain rfl := Option.some.inj hf
      exact E mg_n1 _ _ dX5_isEdge_30
abbrev w_X5_isWell (k : mg_K) (a_t a_t_ballast a_t_lubricated a_t_pose a_t_ground a_t_boulders a_t_records : Nat) (v_t_columns : Int32) (v_t_rows : Int32) (v_t_weight : Int32) (v_t_stiffness : Int32) (v_t_water : Int32) : va_W := [(a_t, .inr (5, [.int v_t_columns, .int v_t_rows, .int v_t_weight, .int v_t_stiffness, .int v_t_water, .ref a_t_ballast, .ref a_t_lubricated, .ref a_t_pose, .ref a_t_ground, .ref a_t_boulders, .ref a_t_records]))]
def f_X5_isWell (v_t_columns : Int32) (v_t_rows : Int32) (x1 : Int32) : Option (Int32) := (f_X5_isCell v_t_columns v_t_rows x1).bind (fun q1 => if q1 = 0 then (some 0) else ((f_X5_columnOf v_t_columns x1).bind (fun q3 => (f_X5_rowOf v_t_columns x1).bind (fun q5 => (f_X5_isEdgeAt v_t_columns v_t_rows q3 q5).bind (fun q7 => if q7 = 0 then (some 1) else (some 0))))))
theorem Y_X5_isWell : mg_Y yX5_isWell cX5_isWell 2 (some .boolean) 1 := ⟨wm_638, wm_639, wm_3, wm_640, ⟨by decide +kernel, by decide +kernel, by decide +kernel⟩, by decide⟩
set_option maxRecDepth 100000 in
set_option maxHeartbeats 4000000 in
theorem c_X5_isWell (l : Launch) (k : mg_K) (a_t a_t_ballast a_t_lubricated a_t_pose a_t_ground a_t_boulders a_t_records : Nat) (v_t_columns : Int32) (v_t_rows : Int32) (v_t_weight : Int32) (v_t_stiffness : Int32) (v_t_water : Int32) (x1 : Int32) (q : Int32) (hf : f_X5_isWell v_t_columns v_t_rows x1 = some q) : mg_M l yX5_isWell cX5_isWell 2 (some .boolean) 1 k [.ref a_t, .int x1] (w_X5_isWell k a_t a_t_ballast a_t_lubricated a_t_pose a_t_ground a_t_boulders a_t_records v_t_columns v_t_rows v_t_weight v_t_stiffness v_t_water) (w_X5_isWell k a_t a_t_ballast a_t_lubricated a_t_pose a_t_ground a_t_boulders a_t_records v_t_columns v_t_rows v_t_weight v_t_stiffness v_t_water) (some (.int q)) := by
  refine mg_Mz RX5 [(0, .ref a_t), (1, .int x1)] (by decide +kernel) rfl rfl (Nat.le_of_ble_eq_true rfl) ?_
  intro z A Q hl C E
  subst hl
  unfold f_X5_isWell at hf
  refine mg_aload_n (pc := 0) C 0 dX5_isWell_0 rfl rfl ?_
  refine mg_iload_n (pc := 1) C 1 dX5_isWell_1 rfl rfl ?_
  obtain ⟨q1, h2, hf⟩ := mg_b hf
  refine mg_callV (pc := 2) C (w2 := w_X5_isWell k a_t a_t_ballast a_t_lubricated a_t_pose a_t_ground a_t_boulders a_t_records v_t_columns v_t_rows v_t_weight v_t_stiffness v_t_water) (c_X5_isCell z.2.1 k a_t a_t_ballast a_t_lubricated a_t_pose a_t_ground a_t_boulders a_t_records v_t_columns v_t_rows v_t_weight v_t_stiffness v_t_water x1 q1 h2) Y_X5_isCell wm_575 (by decide) rfl 0 rfl rfl rfl [0] rfl (by decide) rfl [some 0] (by decide) rfl (Nat.le_of_ble_eq_true rfl) rfl dX5_isWell_2 ?_
  refine mg_if_eq (pc := 5) (tgt := 29) C dX5_isWell_5 (by decide) hf (fun hf => ?_) (fun hf => ?_)
  · refine mg_iconst (pc := 29) C dX5_isWell_29 (v := 0) (by decide) ?_
    obtain rfl := Option.some.inj hf
    exact E mg_n0 _ _ dX5_isWell_30
  · refine mg_aload_n (pc := 8) C 0 dX5_isWell_8 rfl rfl ?_
    refine mg_aload_n (pc := 9) C 0 dX5_isWell_9 rfl rfl ?_
    refine mg_iload_n (pc := 10) C 1 dX5_isWell_10 rfl rfl ?_
    obtain ⟨q3, h4, hf⟩ := mg_b hf
    refine mg_callV (pc := 11) C (w2 := w_X5_isWell k a_t a_t_ballast a_t_lubricated a_t_pose a_t_ground a_t_boulders a_t_records v_t_columns v_t_rows v_t_weight v_t_stiffness v_t_water) (c_X5_columnOf z.2.1 k a_t a_t_ballast a_t_lubricated a_t_pose a_t_ground a_t_boulders a_t_records v_t_columns v_t_rows v_t_weight v_t_stiffness v_t_water x1 q3 h4) Y_X5_columnOf wm_576 (by decide) rfl 0 rfl rfl rfl [0] rfl (by decide) rfl [some 0] (by decide) rfl (Nat.le_of_ble_eq_true rfl) rfl dX5_isWell_11 ?_
    refine mg_aload_n (pc := 14) C 0 dX5_isWell_14 rfl rfl ?_
    refine mg_iload_n (pc := 15) C 1 dX5_isWell_15 rfl rfl ?_
    obtain ⟨q5, h6, hf⟩ := mg_b hf
    refine mg_callV (pc := 16) C (w2 := w_X5_isWell k a_t a_t_ballast a_t_lubricated a_t_pose a_t_ground a_t_boulders a_t_records v_t_columns v_t_rows v_t_weight v_t_stiffness v_t_water) (c_X5_rowOf z.2.1 k a_t a_t_ballast a_t_lubricated a_t_pose a_t_ground a_t_boulders a_t_records v_t_columns v_t_rows v_t_weight v_t_stiffness v_t_water x1 q5 h6) Y_X5_rowOf wm_580 (by decide) rfl 0 rfl rfl rfl [0] rfl (by decide) rfl [some 0] (by decide) rfl (Nat.le_of_ble_eq_true rfl) rfl dX5_isWell_16 ?_
    obtain ⟨q7, h8, hf⟩ := mg_b hf
    refine mg_callV (pc := 19) C (w2 := w_X5_isWell k a_t a_t_ballast a_t_lubricated a_t_pose a_t_ground a_t_boulders a_t_records v_t_columns v_t_rows v_t_weight v_t_stiffness v_t_water) (c_X5_isEdgeAt z.2.1 k a_t a_t_ballast a_t_lubricated a_t_pose a_t_ground a_t_boulders a_t_records v_t_columns v_t_rows v_t_weight v_t_stiffness v_t_water q3 q5 q7 h8) Y_X5_isEdgeAt wm_584 (by decide) rfl 0 rfl rfl rfl [0] rfl (by decide) rfl [some 0] (by decide) rfl (Nat.le_of_ble_eq_true rfl) rfl dX5_isWell_19 ?_
    refine mg_if_ne (pc := 22) (tgt := 29) C dX5_isWell_22 (by decide) hf (fun hf => ?_) (fun hf => ?_)
    · refine mg_iconst (pc := 29) C dX5_isWell_29 (v := 0) (by decide) ?_
      obtain rfl := Option.some.inj hf
      exact E mg_n0 _ _ dX5_isWell_30
    · refine mg_iconst (pc := 25) C dX5_isWell_25 (v := 1) (by decide) ?_
      refine mg_goto (pc := 26) (tgt := 30) C dX5_isWell_26 (by decide) ?_
      obtain rfl := Option.some.inj hf
      exact E mg_n1 _ _ dX5_isWell_30
abbrev w_X5_isOnSide (k : mg_K) (a_t a_t_ballast a_t_lubricated a_t_pose a_t_ground a_t_boulders a_t_records : Nat) (v_t_columns : Int32) (v_t_rows : Int32) (v_t_weight : Int32) (v_t_stiffness : Int32) (v_t_water : Int32) : va_W := [(a_t, .inr (5, [.int v_t_columns, .int v_t_rows, .int v_t_weight, .int v_t_stiffness, .int v_t_water, .ref a_t_ballast, .ref a_t_lubricated, .ref a_t_pose, .ref a_t_ground, .ref a_t_boulders, .ref a_t_records]))]
def f_X5_isOnSide (v_t_columns : Int32) (v_t_rows : Int32) (x1 : Int32) (x2 : Int32) (x3 : Int32) : Option (Int32) := if x1 = 0 then (if x2 = 0 then (some 1) else (some 0)) else if x1 = 1 then (if x2 = (v_t_columns - 1) then (some 1) else (some 0)) else if x1 = 2 then (if x3 = 0 then (some 1) else (some 0)) else if x1 = 3 then (if x3 = (v_t_rows - 1) then (some 1) else (some 0)) else (some 0)
theorem Y_X5_isOnSide : mg_Y yX5_isOnSide cX5_isOnSide 4 (some .boolean) 3 := ⟨wm_687, wm_688, wm_3, wm_689, ⟨by decide +kernel, by decide +kernel, by decide +kernel⟩, by decide⟩
set_option maxRecDepth 100000 in
set_option maxHeartbeats 4000000 in
theorem c_X5_isOnSide (l : Launch) (k : mg_K) (a_t a_t_ballast a_t_lubricated a_t_pose a_t_ground a_t_boulders a_t_records : Nat) (v_t_columns : Int32) (v_t_rows : Int32) (v_t_weight : Int32) (v_t_stiffness : Int32) (v_t_water : Int32) (x1 : Int32) (x2 : Int32) (x3 : Int32) (q : Int32) (hf : f_X5_isOnSide v_t_columns v_t_rows x1 x2 x3 = some q) : mg_M l yX5_isOnSide cX5_isOnSide 4 (some .boolean) 0 k [.ref a_t, .int x1, .int x2, .int x3] (w_X5_isOnSide k a_t a_t_ballast a_t_lubricated a_t_pose a_t_ground a_t_boulders a_t_records v_t_columns v_t_rows v_t_weight v_t_stiffness v_t_water) (w_X5_isOnSide k a_t a_t_ballast a_t_lubricated a_t_pose a_t_ground a_t_boulders a_t_records v_t_columns v_t_rows v_t_weight v_t_stiffness v_t_water) (some (.int q)) := by
  refine mg_Mz RX5 [(0, .ref a_t), (1, .int x1), (2, .int x2), (3, .int x3)] (by decide +kernel) rfl rfl (Nat.le_of_ble_eq_true rfl) ?_
  intro z A Q hl C E
  subst hl
  unfold f_X5_isOnSide at hf
  refine mg_iload_n (pc := 0) C 1 dX5_isOnSide_0 rfl rfl ?_
  refine mg_cs hf (fun e1 hf => ?_) (fun e1 hf => ?_)
  · refine mg_tableIn (pc := 1) (off := 31) (tgt := 32) C 0 e1 dX5_isOnSide_1 (by decide) (by decide) (by decide) (by decide) ?_
    refine mg_iload_n (pc := 32) C 2 dX5_isOnSide_32 rfl rfl ?_
    refine mg_if_ne (pc := 33) (tgt := 40) C dX5_isOnSide_33 (by decide) hf (fun hf => ?_) (fun hf => ?_)
    · refine mg_iconst (pc := 40) C dX5_isOnSide_40 (v := 0) (by decide) ?_
      obtain rfl := Option.some.inj hf
      exact E mg_n0 _ _ dX5_isOnSide_41
    · refine mg_iconst (pc := 36) C dX5_isOnSide_36 (v := 1) (by decide) ?_
      refine mg_goto (pc := 37) (tgt := 41) C dX5_isOnSide_37 (by decide) ?_
      obtain rfl := Option.some.inj hf
      exact E mg_n1 _ _ dX5_isOnSide_41
  refine mg_cs hf (fun e2 hf => ?_) (fun e2 hf => ?_)
  · refine mg_tableIn (pc := 1) (off := 41) (tgt := 42) C 1 e2 dX5_isOnSide_1 (by decide) (by decide) (by decide) (by decide) ?_
    refine mg_iload_n (pc := 42) C 2 dX5_isOnSide_42 rfl rfl ?_
    refine mg_aload_n (pc := 43) C 0 dX5_isOnSide_43 rfl rfl ?_
    refine mg_get (pc := 44) C 0 rfl rfl inX5 0 (by decide) wm_135 rfl rfl dX5_isOnSide_44 ?_
    refine mg_iconst (pc := 47) C dX5_isOnSide_47 (v := 1) (by decide) ?_
    refine mg_isub (pc := 48) C dX5_isOnSide_48 ?_
    refine mg_icmp_ne (pc := 49) (tgt := 56) C dX5_isOnSide_49 (by decide) hf (fun hf => ?_) (fun hf => ?_)
    · refine mg_iconst (pc := 56) C dX5_isOnSide_56 (v := 0) (by decide) ?_
      obtain rfl := Option.some.inj hf
      exact E mg_n0 _ _ dX5_isOnSide_57
    · refine mg_iconst (pc := 52) C dX5_isOnSide_52 (v := 1) (by decide) ?_
      refine mg_goto (pc := 53) (tgt := 57) C dX5_isOnSide_53 (by decide) ?_
      obtain rfl := Option.some.inj hf
      exact E mg_n1 _ _ dX5_isOnSide_57
  refine mg_cs hf (fun e3 hf => ?_) (fun e3 hf => ?_)
  · refine mg_tableIn (pc := 1) (off := 57) (tgt := 58) C 2 e3 dX5_isOnSide_1 (by decide) (by decide) (by decide) (by decide) ?_
    refine mg_iload_n (pc := 58) C 3 dX5_isOnSide_58 rfl rfl ?_
    refine mg_if_ne (pc := 59) (tgt := 66) C dX5_isOnSide_59 (by decide) hf (fun hf => ?_) (fun hf => ?_)
    · refine mg_iconst (pc := 66) C dX5_isOnSide_66 (v := 0) (by decide) ?_
      obtain rfl := Option.some.inj hf
      exact E mg_n0 _ _ dX5_isOnSide_67
    · refine mg_iconst (pc := 62) C dX5_isOnSide_62 (v := 1) (by decide) ?_
      refine mg_goto (pc := 63) (tgt := 67) C dX5_isOnSide_63 (by decide) ?_
      obtain rfl := Option.some.inj hf
      exact E mg_n1 _ _ dX5_isOnSide_67
  refine mg_cs hf (fun e4 hf => ?_) (fun e4 hf => ?_)
  · refine mg_tableIn (pc := 1) (off := 67) (tgt := 68) C 3 e4 dX5_isOnSide_1 (by decide) (by decide) (by decide) (by decide) ?_
    refine mg_iload_n (pc := 68) C 3 dX5_isOnSide_68 rfl rfl ?_
    refine mg_aload_n (pc := 69) C 0 dX5_isOnSide_69 rfl rfl ?_
    refine mg_get (pc := 70) C 0 rfl rfl inX5 1 (by decide) wm_139 rfl rfl dX5_isOnSide_70 ?_
    refine mg_iconst (pc := 73) C dX5_isOnSide_73 (v := 1) (by decide) ?_
    refine mg_isub (pc := 74) C dX5_isOnSide_74 ?_
    refine mg_icmp_ne (pc := 75) (tgt := 82) C dX5_isOnSide_75 (by decide) hf (fun hf => ?_) (fun hf => ?_)
    · refine mg_iconst (pc := 82) C dX5_isOnSide_82 (v := 0) (by decide) ?_
      obtain rfl := Option.some.inj hf
      exact E mg_n0 _ _ dX5_isOnSide_83
    · refine mg_iconst (pc := 78) C dX5_isOnSide_78 (v := 1) (by decide) ?_
      refine mg_goto (pc := 79) (tgt := 83) C dX5_isOnSide_79 (by decide) ?_
      obtain rfl := Option.some.inj hf
      exact E mg_n1 _ _ dX5_isOnSide_83
  refine mg_tableOut (pc := 1) (tgt := 84) C dX5_isOnSide_1 (by have e1_ := mg_ne e1 (i := 0) (by decide); have e2_ := mg_ne e2 (i := 1) (by decide); have e3_ := mg_ne e3 (i := 2) (by decide); have e4_ := mg_ne e4 (i := 3) (by decide); omega) (by decide) ?_
  refine mg_iconst (pc := 84) C dX5_isOnSide_84 (v := 0) (by decide) ?_
  obtain rfl := Option.some.inj hf
  exact E mg_n0 _ _ dX5_isOnSide_85
abbrev w_X5_lengthOfSide (k : mg_K) (a_t a_t_ballast a_t_lubricated a_t_pose a_t_ground a_t_boulders a_t_records : Nat) (v_t_columns : Int32) (v_t_rows : Int32) (v_t_weight : Int32) (v_t_stiffness : Int32) (v_t_water : Int32) : va_W := [(a_t, .inr (5, [.int v_t_columns, .int v_t_rows, .int v_t_weight, .int v_t_stiffness, .int v_t_water, .ref a_t_ballast, .ref a_t_lubricated, .ref a_t_pose, .ref a_t_ground, .ref a_t_boulders, .ref a_t_records]))]
def f_X5_lengthOfSide (v_t_columns : Int32) (v_t_rows : Int32) (x1 : Int32) : Option (Int32) := if x1 = 0 then (some v_t_rows) else (if x1 = 1 then (some v_t_rows) else (some v_t_columns))
theorem Y_X5_lengthOfSide : mg_Y yX5_lengthOfSide cX5_lengthOfSide 2 (some .int) 1 := ⟨wm_853, wm_854, wm_3, wm_855, ⟨by decide +kernel, by decide +kernel, by decide +kernel⟩, by decide⟩
set_option maxRecDepth 100000 in
set_option maxHeartbeats 4000000 in
theorem c_X5_lengthOfSide (l : Launch) (k : mg_K) (a_t a_t_ballast a_t_lubricated a_t_pose a_t_ground a_t_boulders a_t_records : Nat) (v_t_columns : Int32) (v_t_rows : Int32) (v_t_weight : Int32) (v_t_stiffness : Int32) (v_t_water : Int32) (x1 : Int32) (q : Int32) (hf : f_X5_lengthOfSide v_t_columns v_t_rows x1 = some q) : mg_M l yX5_lengthOfSide cX5_lengthOfSide 2 (some .int) 0 k [.ref a_t, .int x1] (w_X5_lengthOfSide k a_t a_t_ballast a_t_lubricated a_t_pose a_t_ground a_t_boulders a_t_records v_t_columns v_t_rows v_t_weight v_t_stiffness v_t_water) (w_X5_lengthOfSide k a_t a_t_ballast a_t_lubricated a_t_pose a_t_ground a_t_boulders a_t_records v_t_columns v_t_rows v_t_weight v_t_stiffness v_t_water) (some (.int q)) := by
  refine mg_Mi RX5 [(0, .ref a_t), (1, .int x1)] (by decide +kernel) rfl rfl (Nat.le_of_ble_eq_true rfl) ?_
  intro z A Q hl C E
  subst hl
  unfold f_X5_lengthOfSide at hf
  refine mg_iload_n (pc := 0) C 1 dX5_lengthOfSide_0 rfl rfl ?_
  refine mg_if_eq (pc := 1) (tgt := 9) C dX5_lengthOfSide_1 (by decide) hf (fun hf => ?_) (fun hf => ?_)
  · refine mg_aload_n (pc := 9) C 0 dX5_lengthOfSide_9 rfl rfl ?_
    refine mg_get (pc := 10) C 0 rfl rfl inX5 1 (by decide) wm_139 rfl rfl dX5_lengthOfSide_10 ?_
    refine mg_goto (pc := 13) (tgt := 20) C dX5_lengthOfSide_13 (by decide) ?_
    obtain rfl := Option.some.inj hf
    exact E _ _ dX5_lengthOfSide_20
  · refine mg_iload_n (pc := 4) C 1 dX5_lengthOfSide_4 rfl rfl ?_
    refine mg_iconst (pc := 5) C dX5_lengthOfSide_5 (v := 1) (by decide) ?_
    refine mg_icmp_ne (pc := 6) (tgt := 16) C dX5_lengthOfSide_6 (by decide) hf (fun hf => ?_) (fun hf => ?_)
    · refine mg_aload_n (pc := 16) C 0 dX5_lengthOfSide_16 rfl rfl ?_
      refine mg_get (pc := 17) C 0 rfl rfl inX5 0 (by decide) wm_135 rfl rfl dX5_lengthOfSide_17 ?_
      obtain rfl := Option.some.inj hf
      exact E _ _ dX5_lengthOfSide_20
    · refine mg_aload_n (pc := 9) C 0 dX5_lengthOfSide_9 rfl rfl ?_
      refine mg_get (pc := 10) C 0 rfl rfl inX5 1 (by decide) wm_139 rfl rfl dX5_lengthOfSide_10 ?_
      refine mg_goto (pc := 13) (tgt := 20) C dX5_lengthOfSide_13 (by decide) ?_
      obtain rfl := Option.some.inj hf
      exact E _ _ dX5_lengthOfSide_20
abbrev w_X5_edgeCount (k : mg_K) (a_t a_t_ballast a_t_lubricated a_t_pose a_t_ground a_t_boulders a_t_records : Nat) (v_t_columns : Int32) (v_t_rows : Int32) (v_t_weight : Int32) (v_t_stiffness : Int32) (v_t_water : Int32) : va_W := [(a_t, .inr (5, [.int v_t_columns, .int v_t_rows, .int v_t_weight, .int v_t_stiffness, .int v_t_water, .ref a_t_ballast, .ref a_t_lubricated, .ref a_t_pose, .ref a_t_ground, .ref a_t_boulders, .ref a_t_records]))]
def f_X5_edgeCount (v_t_columns : Int32) (v_t_rows : Int32) : Option (Int32) := some ((2 * (v_t_columns + v_t_rows)) - 4)
theorem Y_X5_edgeCount : mg_Y yX5_edgeCount cX5_edgeCount 1 (some .int) 0 := ⟨wm_699, wm_700, wm_3, wm_701, ⟨by decide +kernel, by decide +kernel, by decide +kernel⟩, by decide⟩
set_option maxRecDepth 100000 in
set_option maxHeartbeats 4000000 in
theorem c_X5_edgeCount (l : Launch) (k : mg_K) (a_t a_t_ballast a_t_lubricated a_t_pose a_t_ground a_t_boulders a_t_records : Nat) (v_t_columns : Int32) (v_t_rows : Int32) (v_t_weight : Int32) (v_t_stiffness : Int32) (v_t_water : Int32) (q : Int32) (hf : f_X5_edgeCount v_t_columns v_t_rows = some q) : mg_M l yX5_edgeCount cX5_edgeCount 1 (some .int) 0 k [.ref a_t] (w_X5_edgeCount k a_t a_t_ballast a_t_lubricated a_t_pose a_t_ground a_t_boulders a_t_records v_t_columns v_t_rows v_t_weight v_t_stiffness v_t_water) (w_X5_edgeCount k a_t a_t_ballast a_t_lubricated a_t_pose a_t_ground a_t_boulders a_t_records v_t_columns v_t_rows v_t_weight v_t_stiffness v_t_water) (some (.int q)) := by
  refine mg_Mi RX5 [(0, .ref a_t)] (by decide +kernel) rfl rfl (Nat.le_of_ble_eq_true rfl) ?_
  intro z A Q hl C E
  subst hl
  unfold f_X5_edgeCount at hf
  refine mg_iconst (pc := 0) C dX5_edgeCount_0 (v := 2) (by decide) ?_
  refine mg_aload_n (pc := 1) C 0 dX5_edgeCount_1 rfl rfl ?_
  refine mg_get (pc := 2) C 0 rfl rfl inX5 0 (by decide) wm_135 rfl rfl dX5_edgeCount_2 ?_
  refine mg_aload_n (pc := 5) C 0 dX5_edgeCount_5 rfl rfl ?_
  refine mg_get (pc := 6) C 0 rfl rfl inX5 1 (by decide) wm_139 rfl rfl dX5_edgeCount_6 ?_
  refine mg_iadd (pc := 9) C dX5_edgeCount_9 ?_
  refine mg_imul (pc := 10) C dX5_edgeCount_10 ?_
  refine mg_iconst (pc := 11) C dX5_edgeCount_11 (v := 4) (by decide) ?_
  refine mg_isub (pc := 12) C dX5_edgeCount_12 ?_
  obtain rfl := Option.some.inj hf
  exact E _ _ dX5_edgeCount_13
abbrev w_X5_wellBeside (k : mg_K) (a_t a_t_ballast a_t_lubricated a_t_pose a_t_ground a_t_boulders a_t_records : Nat) (v_t_columns : Int32) (v_t_rows : Int32) (v_t_weight : Int32) (v_t_stiffness : Int32) (v_t_water : Int32) : va_W := [(a_t, .inr (5, [.int v_t_columns, .int v_t_rows, .int v_t_weight, .int v_t_stiffness, .int v_t_water, .ref a_t_ballast, .ref a_t_lubricated, .ref a_t_pose, .ref a_t_ground, .ref a_t_boulders, .ref a_t_records]))]
def f_X5_wellBeside_J28 (v_t_columns : Int32) (v_t_rows : Int32) (x2 : Int32) (y0 : Int32) : Option (Int32) := if x2 = 0 then (some ((1 * v_t_columns) + y0)) else (if x2 = (v_t_rows - 1) then (some (((v_t_rows - 2) * v_t_columns) + y0)) else (some ((x2 * v_t_columns) + y0)))
def f_X5_wellBeside (v_t_columns : Int32) (v_t_rows : Int32) (x1 : Int32) (x2 : Int32) : Option (Int32) := if x1 = 0 then (f_X5_wellBeside_J28 v_t_columns v_t_rows x2 1) else (if x1 = (v_t_columns - 1) then (f_X5_wellBeside_J28 v_t_columns v_t_rows x2 (v_t_columns - 2)) else (f_X5_wellBeside_J28 v_t_columns v_t_rows x2 x1))
theorem Y_X5_wellBeside : mg_Y yX5_wellBeside cX5_wellBeside 5 (some .int) 2 := ⟨wm_603, wm_604, wm_3, wm_605, ⟨by decide +kernel, by decide +kernel, by decide +kernel⟩, by decide⟩
set_option maxRecDepth 100000 in
set_option maxHeartbeats 4000000 in
theorem c_X5_wellBeside (l : Launch) (k : mg_K) (a_t a_t_ballast a_t_lubricated a_t_pose a_t_ground a_t_boulders a_t_records : Nat) (v_t_columns : Int32) (v_t_rows : Int32) (v_t_weight : Int32) (v_t_stiffness : Int32) (v_t_water : Int32) (x1 : Int32) (x2 : Int32) (q : Int32) (hf : f_X5_wellBeside v_t_columns v_t_rows x1 x2 = some q) : mg_M l yX5_wellBeside cX5_wellBeside 5 (some .int) 0 k [.ref a_t, .int x1, .int x2] (w_X5_wellBeside k a_t a_t_ballast a_t_lubricated a_t_pose a_t_ground a_t_boulders a_t_records v_t_columns v_t_rows v_t_weight v_t_stiffness v_t_water) (w_X5_wellBeside k a_t a_t_ballast a_t_lubricated a_t_pose a_t_ground a_t_boulders a_t_records v_t_columns v_t_rows v_t_weight v_t_stiffness v_t_water) (some (.int q)) := by
  refine mg_Mi RX5 [(0, .ref a_t), (1, .int x1), (2, .int x2)] (by decide +kernel) rfl rfl (Nat.le_of_ble_eq_true rfl) ?_
  intro z A Q hl C E
  subst hl
  unfold f_X5_wellBeside at hf
  have J28 : ∀ (x2 : Int32) (y0 : Int32), f_X5_wellBeside_J28 v_t_columns v_t_rows x2 y0 = some q → mg z k A 5 0 0 Q (w_X5_wellBeside k a_t a_t_ballast a_t_lubricated a_t_pose a_t_ground a_t_boulders a_t_records v_t_columns v_t_rows v_t_weight v_t_stiffness v_t_water) [(0, .ref a_t), (2, .int x2)] 28 [.int y0] := by
    intro x2 y0 hf
    unfold f_X5_wellBeside_J28 at hf
    refine mg_istore_n (pc := 28) C (lv' := [(3, .int y0), (0, .ref a_t), (2, .int x2)]) dX5_wellBeside_28 rfl (by decide) rfl ?_
    refine mg_iload_n (pc := 29) C 2 dX5_wellBeside_29 rfl rfl ?_
    refine mg_if_ne (pc := 30) (tgt := 37) C dX5_wellBeside_30 (by decide) hf (fun hf => ?_) (fun hf => ?_)
    · refine mg_iload_n (pc := 37) C 2 dX5_wellBeside_37 rfl rfl ?_
      refine mg_aload_n (pc := 38) C 1 dX5_wellBeside_38 rfl rfl ?_
      refine mg_get (pc := 39) C 0 rfl rfl inX5 1 (by decide) wm_139 rfl rfl dX5_wellBeside_39 ?_
      refine mg_iconst (pc := 42) C dX5_wellBeside_42 (v := 1) (by decide) ?_
      refine mg_isub (pc := 43) C dX5_wellBeside_43 ?_
      refine mg_icmp_ne (pc := 44) (tgt := 56) C dX5_wellBeside_44 (by decide) hf (fun hf => ?_) (fun hf => ?_)
      · refine mg_iload_n (pc := 56) C 2 dX5_wellBeside_56 rfl rfl ?_
        refine mg_istore (pc := 57) C (lv' := [(4, .int x2), (3, .int y0), (0, .ref a_t), (2, .int x2)]) dX5_wellBeside_57 (by decide) rfl ?_
        refine mg_iload (pc := 59) C 0 dX5_wellBeside_59 rfl ?_
        refine mg_aload_n (pc := 61) C 2 dX5_wellBeside_61 rfl rfl ?_
        refine mg_get (pc := 62) C 0 rfl rfl inX5 0 (by decide) wm_135 rfl rfl dX5_wellBeside_62 ?_
        refine mg_imul (pc := 65) C dX5_wellBeside_65 ?_
        refine mg_iload_n (pc := 66) C 1 dX5_wellBeside_66 rfl rfl ?_
        refine mg_iadd (pc := 67) C dX5_wellBeside_67 ?_
        obtain rfl := Option.some.inj hf
        exact E _ _ dX5_wellBeside_68
      · refine mg_aload_n (pc := 47) C 1 dX5_wellBeside_47 rfl rfl ?_
        refine mg_get (pc := 48) C 0 rfl rfl inX5 1 (by decide) wm_139 rfl rfl dX5_wellBeside_48 ?_
        refine mg_iconst (pc := 51) C dX5_wellBeside_51 (v := 2) (by decide) ?_
        refine mg_isub (pc := 52) C dX5_wellBeside_52 ?_
        refine mg_goto (pc := 53) (tgt := 57) C dX5_wellBeside_53 (by decide) ?_
        refine mg_istore (pc := 57) C (lv' := [(4, .int (v_t_rows - 2)), (3, .int y0), (0, .ref a_t), (2, .int x2)]) dX5_wellBeside_57 (by decide) rfl ?_
        refine mg_iload (pc := 59) C 0 dX5_wellBeside_59 rfl ?_
        refine mg_aload_n (pc := 61) C 2 dX5_wellBeside_61 rfl rfl ?_
        refine mg_get (pc := 62) C 0 rfl rfl inX5 0 (by decide) wm_135 rfl rfl dX5_wellBeside_62 ?_
        refine mg_imul (pc := 65) C dX5_wellBeside_65 ?_
        refine mg_iload_n (pc := 66) C 1 dX5_wellBeside_66 rfl rfl ?_
        refine mg_iadd (pc := 67) C dX5_wellBeside_67 ?_
        obtain rfl := Option.some.inj hf
        exact E _ _ dX5_wellBeside_68
    · refine mg_iconst (pc := 33) C dX5_wellBeside_33 (v := 1) (by decide) ?_
      refine mg_goto (pc := 34) (tgt := 57) C dX5_wellBeside_34 (by decide) ?_
      refine mg_istore (pc := 57) C (lv' := [(4, .int 1), (3, .int y0), (0, .ref a_t), (2, .int x2)]) dX5_wellBeside_57 (by decide) rfl ?_
      refine mg_iload (pc := 59) C 0 dX5_wellBeside_59 rfl ?_
      refine mg_aload_n (pc := 61) C 2 dX5_wellBeside_61 rfl rfl ?_
      refine mg_get (pc := 62) C 0 rfl rfl inX5 0 (by decide) wm_135 rfl rfl dX5_wellBeside_62 ?_
      refine mg_imul (pc := 65) C dX5_wellBeside_65 ?_
      refine mg_iload_n (pc := 66) C 1 dX5_wellBeside_66 rfl rfl ?_
      refine mg_iadd (pc := 67) C dX5_wellBeside_67 ?_
      obtain rfl := Option.some.inj hf
      exact E _ _ dX5_wellBeside_68
  refine mg_iload_n (pc := 0) C 1 dX5_wellBeside_0 rfl rfl ?_
  refine mg_if_ne (pc := 1) (tgt := 8) C dX5_wellBeside_1 (by decide) hf (fun hf => ?_) (fun hf => ?_)
  · refine mg_iload_n (pc := 8) C 1 dX5_wellBeside_8 rfl rfl ?_
    refine mg_aload_n (pc := 9) C 0 dX5_wellBeside_9 rfl rfl ?_
    refine mg_get (pc := 10) C 0 rfl rfl inX5 0 (by decide) wm_135 rfl rfl dX5_wellBeside_10 ?_
    refine mg_iconst (pc := 13) C dX5_wellBeside_13 (v := 1) (by decide) ?_
    refine mg_isub (pc := 14) C dX5_wellBeside_14 ?_
    refine mg_icmp_ne (pc := 15) (tgt := 27) C dX5_wellBeside_15 (by decide) hf (fun hf => ?_) (fun hf => ?_)
    · refine mg_iload_n (pc := 27) C 1 dX5_wellBeside_27 rfl rfl ?_
      refine mg_lv [0, 2] rfl ?_
      exact J28 x2 x1 hf
    · refine mg_aload_n (pc := 18) C 0 dX5_wellBeside_18 rfl rfl ?_
      refine mg_get (pc := 19) C 0 rfl rfl inX5 0 (by decide) wm_135 rfl rfl dX5_wellBeside_19 ?_
      refine mg_iconst (pc := 22) C dX5_wellBeside_22 (v := 2) (by decide) ?_
      refine mg_isub (pc := 23) C dX5_wellBeside_23 ?_
      refine mg_goto (pc := 24) (tgt := 28) C dX5_wellBeside_24 (by decide) ?_
      refine mg_lv [0, 2] rfl ?_
      exact J28 x2 (v_t_columns - 2) hf
  · refine mg_iconst (pc := 4) C dX5_wellBeside_4 (v := 1) (by decide) ?_
    refine mg_goto (pc := 5) (tgt := 28) C dX5_wellBeside_5 (by decide) ?_
    refine mg_lv [0, 2] rfl ?_
    exact J28 x2 1 hf
abbrev w_X5_ballastOf (k : mg_K) (a_t a_t_ballast a_t_lubricated a_t_pose a_t_ground a_t_boulders a_t_records : Nat) (v_t_columns : Int32) (v_t_rows : Int32) (v_t_weight : Int32) (v_t_stiffness : Int32) (v_t_water : Int32) (v_t_ballast : Nat → Int32) : va_W := [(a_t, .inr (5, [.int v_t_columns, .int v_t_rows, .int v_t_weight, .int v_t_stiffness, .int v_t_water, .ref a_t_ballast, .ref a_t_lubricated, .ref a_t_pose, .ref a_t_ground, .ref a_t_boulders, .ref a_t_records])), (a_t_ballast, .inl (k.2.1, 49, .inl v_t_ballast))]
def f_X5_ballastOf (v_t_ballast : Nat → Int32) (x1 : Int32) : Option (Int32) := if x1 < 0 then (some 0) else (if 49 ≤ x1 then (some 0) else (if mg_ix x1 49 = true then (some (v_t_ballast (Int32.toNatClampNeg x1))) else none))
theorem Y_X5_ballastOf : mg_Y yX5_ballastOf cX5_ballastOf 2 (some .int) 1 := ⟨wm_651, wm_652, wm_3, wm_653, ⟨by decide +kernel, by decide +kernel, by decide +kernel⟩, by decide⟩
set_option maxRecDepth 100000 in
set_option maxHeartbeats 4000000 in
theorem c_X5_ballastOf (l : Launch) (k : mg_K) (a_t a_t_ballast a_t_lubricated a_t_pose a_t_ground a_t_boulders a_t_records : Nat) (v_t_columns : Int32) (v_t_rows : Int32) (v_t_weight : Int32) (v_t_stiffness : Int32) (v_t_water : Int32) (v_t_ballast : Nat → Int32) (x1 : Int32) (q : Int32) (hf : f_X5_ballastOf v_t_ballast x1 = some q) : mg_M l yX5_ballastOf cX5_ballastOf 2 (some .int) 0 k [.ref a_t, .int x1] (w_X5_ballastOf k a_t a_t_ballast a_t_lubricated a_t_pose a_t_ground a_t_boulders a_t_records v_t_columns v_t_rows v_t_weight v_t_stiffness v_t_water v_t_ballast) (w_X5_ballastOf k a_t a_t_ballast a_t_lubricated a_t_pose a_t_ground a_t_boulders a_t_records v_t_columns v_t_rows v_t_weight v_t_stiffness v_t_water v_t_ballast) (some (.int q)) := by
  refine mg_Mi RX5 [(0, .ref a_t), (1, .int x1)] (by decide +kernel) rfl rfl (Nat.le_of_ble_eq_true rfl) ?_
  intro z A Q hl C E
  subst hl
  unfold f_X5_ballastOf at hf
  refine mg_iload_n (pc := 0) C 1 dX5_ballastOf_0 rfl rfl ?_
  refine mg_if_lt (pc := 1) (tgt := 22) C dX5_ballastOf_1 (by decide) hf (fun hf => ?_) (fun hf => ?_)
  · refine mg_iconst (pc := 22) C dX5_ballastOf_22 (v := 0) (by decide) ?_
    obtain rfl := Option.some.inj hf
    exact E _ _ dX5_ballastOf_23
  · refine mg_iload_n (pc := 4) C 1 dX5_ballastOf_4 rfl rfl ?_
    refine mg_aload_n (pc := 5) C 0 dX5_ballastOf_5 rfl rfl ?_
    refine mg_get (pc := 6) C 0 rfl rfl inX5 5 (by decide) wm_154 rfl rfl dX5_ballastOf_6 ?_
    refine mg_alen (pc := 9) C (v := 49) 1 0 rfl rfl rfl dX5_ballastOf_9 ?_
    refine mg_icmp_ge (pc := 10) (tgt := 22) C dX5_ballastOf_10 (by decide) hf (fun hf => ?_) (fun hf => ?_)
    · refine mg_iconst (pc := 22) C dX5_ballastOf_22 (v := 0) (by decide) ?_
      obtain rfl := Option.some.inj hf
      exact E _ _ dX5_ballastOf_23
    · refine mg_aload_n (pc := 13) C 0 dX5_ballastOf_13 rfl rfl ?_
      refine mg_get (pc := 14) C 0 rfl rfl inX5 5 (by decide) wm_154 rfl rfl dX5_ballastOf_14 ?_
      refine mg_iload_n (pc := 17) C 1 dX5_ballastOf_17 rfl rfl ?_
      refine mg_iald (pc := 18) C 1 rfl dX5_ballastOf_18 hf (fun hf => ?_)
      refine mg_goto (pc := 19) (tgt := 23) C dX5_ballastOf_19 (by decide) ?_
      obtain rfl := Option.some.inj hf
      exact E _ _ dX5_ballastOf_23
abbrev w_X5_putBallast (k : mg_K) (a_t a_t_ballast a_t_lubricated a_t_pose a_t_ground a_t_boulders a_t_records : Nat) (v_t_columns : Int32) (v_t_rows : Int32) (v_t_weight : Int32) (v_t_stiffness : Int32) (v_t_water : Int32) (v_t_ballast : Nat → Int32) : va_W := [(a_t, .inr (5, [.int v_t_columns, .int v_t_rows, .int v_t_weight, .int v_t_stiffness, .int v_t_water, .ref a_t_ballast, .ref a_t_lubricated, .ref a_t_pose, .ref a_t_ground, .ref a_t_boulders, .ref a_t_records])), (a_t_ballast, .inl (k.2.1, 49, .inl v_t_ballast))]
def f_X5_putBallast (v_t_ballast : Nat → Int32) (x1 : Int32) (x2 : Int32) : Option ((Nat → Int32)) := if x1 < 0 then (some v_t_ballast) else (if 49 ≤ x1 then (some v_t_ballast) else (if mg_ix x1 49 = true then (some (upd v_t_ballast (Int32.toNatClampNeg x1) x2)) else none))
theorem Y_X5_putBallast : mg_Y yX5_putBallast cX5_putBallast 3 none 2 := ⟨wm_758, wm_759, wm_3, wm_760, ⟨by decide +kernel, by decide +kernel, by decide +kernel⟩, by decide⟩
set_option maxRecDepth 100000 in
set_option maxHeartbeats 4000000 in
theorem c_X5_putBallast (l : Launch) (k : mg_K) (a_t a_t_ballast a_t_lubricated a_t_pose a_t_ground a_t_boulders a_t_records : Nat) (v_t_columns : Int32) (v_t_rows : Int32) (v_t_weight : Int32) (v_t_stiffness : Int32) (v_t_water : Int32) (v_t_ballast : Nat → Int32) (x1 : Int32) (x2 : Int32) (q : (Nat → Int32)) (hf : f_X5_putBallast v_t_ballast x1 x2 = some q) : mg_M l yX5_putBallast cX5_putBallast 3 none 0 k [.ref a_t, .int x1, .int x2] (w_X5_putBallast k a_t a_t_ballast a_t_lubricated a_t_pose a_t_ground a_t_boulders a_t_records v_t_columns v_t_rows v_t_weight v_t_stiffness v_t_water v_t_ballast) (w_X5_putBallast k a_t a_t_ballast a_t_lubricated a_t_pose a_t_ground a_t_boulders a_t_records v_t_columns v_t_rows v_t_weight v_t_stiffness v_t_water q) none := by
  refine mg_Mv RX5 [(0, .ref a_t), (1, .int x1), (2, .int x2)] (by decide +kernel) rfl rfl (Nat.le_of_ble_eq_true rfl) ?_
  intro z A Q hl C E
  subst hl
  unfold f_X5_putBallast at hf
  refine mg_iload_n (pc := 0) C 1 dX5_putBallast_0 rfl rfl ?_
  refine mg_if_lt (pc := 1) (tgt := 20) C dX5_putBallast_1 (by decide) hf (fun hf => ?_) (fun hf => ?_)
  · obtain rfl := Option.some.inj hf
    exact E _ _ dX5_putBallast_20
  · refine mg_iload_n (pc := 4) C 1 dX5_putBallast_4 rfl rfl ?_
    refine mg_aload_n (pc := 5) C 0 dX5_putBallast_5 rfl rfl ?_
    refine mg_get (pc := 6) C 0 rfl rfl inX5 5 (by decide) wm_154 rfl rfl dX5_putBallast_6 ?_
    refine mg_alen (pc := 9) C (v := 49) 1 0 rfl rfl rfl dX5_putBallast_9 ?_
    refine mg_icmp_ge (pc := 10) (tgt := 20) C dX5_putBallast_10 (by decide) hf (fun hf => ?_) (fun hf => ?_)
    · obtain rfl := Option.some.inj hf
      exact E _ _ dX5_putBallast_20
    · refine mg_aload_n (pc := 13) C 0 dX5_putBallast_13 rfl rfl ?_
      refine mg_get (pc := 14) C 0 rfl rfl inX5 5 (by decide) wm_154 rfl rfl dX5_putBallast_14 ?_
      refine mg_iload_n (pc := 17) C 1 dX5_putBallast_17 rfl rfl ?_
      refine mg_iload_n (pc := 18) C 2 dX5_putBallast_18 rfl rfl ?_
      refine mg_iast (pc := 19) C (w2 := w_X5_putBallast k a_t a_t_ballast a_t_lubricated a_t_pose a_t_ground a_t_boulders a_t_records v_t_columns v_t_rows v_t_weight v_t_stiffness v_t_water (upd v_t_ballast (Int32.toNatClampNeg x1) x2)) 1 rfl dX5_putBallast_19 hf rfl (fun hf => ?_)
      obtain rfl := Option.some.inj hf
      exact E _ _ dX5_putBallast_20
abbrev w_X5_totalBallast (k : mg_K) (a_t a_t_ballast a_t_lubricated a_t_pose a_t_ground a_t_boulders a_t_records : Nat) (v_t_columns : Int32) (v_t_rows : Int32) (v_t_weight : Int32) (v_t_stiffness : Int32) (v_t_water : Int32) (v_t_ballast : Nat → Int32) : va_W := [(a_t, .inr (5, [.int v_t_columns, .int v_t_rows, .int v_t_weight, .int v_t_stiffness, .int v_t_water, .ref a_t_ballast, .ref a_t_lubricated, .ref a_t_pose, .ref a_t_ground, .ref a_t_boulders, .ref a_t_records])), (a_t_ballast, .inl (k.2.1, 49, .inl v_t_ballast))]
def f_X5_totalBallast_L4 (v_t_ballast : Nat → Int32) : Nat → Int32 → Int32 → Option (Int32 × Int32)
  | 0, _, _ => none
  | n_ + 1, x1, x2 => if 49 ≤ x2 then (some ((x1, x2))) else (if mg_ix x2 49 = true then (f_X5_totalBallast_L4 v_t_ballast n_ (x1 + (v_t_ballast (Int32.toNatClampNeg x2))) (x2 + 1)) else none)
def f_X5_totalBallast (fuel : Nat) (v_t_ballast : Nat → Int32) : Option (Int32) := (f_X5_totalBallast_L4 v_t_ballast fuel 0 0).bind (fun q1 => some q1.1)
theorem Y_X5_totalBallast : mg_Y yX5_totalBallast cX5_totalBallast 3 (some .int) 0 := ⟨wm_564, wm_565, wm_3, wm_566, ⟨by decide +kernel, by decide +kernel, by decide +kernel⟩, by decide⟩
set_option maxRecDepth 100000 in
set_option maxHeartbeats 4000000 in
theorem c_X5_totalBallast (l : Launch) (k : mg_K) (a_t a_t_ballast a_t_lubricated a_t_pose a_t_ground a_t_boulders a_t_records : Nat) (v_t_columns : Int32) (v_t_rows : Int32) (v_t_weight : Int32) (v_t_stiffness : Int32) (v_t_water : Int32) (v_t_ballast : Nat → Int32) (fuel : Nat) (q : Int32) (hf : f_X5_totalBallast fuel v_t_ballast = some q) : mg_M l yX5_totalBallast cX5_totalBallast 3 (some .int) 0 k [.ref a_t] (w_X5_totalBallast k a_t a_t_ballast a_t_lubricated a_t_pose a_t_ground a_t_boulders a_t_records v_t_columns v_t_rows v_t_weight v_t_stiffness v_t_water v_t_ballast) (w_X5_totalBallast k a_t a_t_ballast a_t_lubricated a_t_pose a_t_ground a_t_boulders a_t_records v_t_columns v_t_rows v_t_weight v_t_stiffness v_t_water v_t_ballast) (some (.int q)) := by
  refine mg_Mi RX5 [(0, .ref a_t)] (by decide +kernel) rfl rfl (Nat.le_of_ble_eq_true rfl) ?_
  intro z A Q hl C E
  subst hl
  unfold f_X5_totalBallast at hf
  have L4 : ∀ (n_ : Nat) (x1 : Int32) (x2 : Int32) (q_ : Int32 × Int32), f_X5_totalBallast_L4 v_t_ballast n_ x1 x2 = some q_ → (mg z k A 3 0 0 Q (w_X5_totalBallast k a_t a_t_ballast a_t_lubricated a_t_pose a_t_ground a_t_boulders a_t_records v_t_columns v_t_rows v_t_weight v_t_stiffness v_t_water v_t_ballast) [(1, .int q_.1)] 28 []) → mg z k A 3 0 0 Q (w_X5_totalBallast k a_t a_t_ballast a_t_lubricated a_t_pose a_t_ground a_t_boulders a_t_records v_t_columns v_t_rows v_t_weight v_t_stiffness v_t_water v_t_ballast) [(0, .ref a_t), (1, .int x1), (2, .int x2)] 4 [] := by
    intro n_
    induction n_ with
    | zero => intro x1 x2 q_ hf; exact mg_no (show none = some q_ from hf)
    | succ n_ ih =>
      intro x1 x2 q_ hf X0
      rw [f_X5_totalBallast_L4] at hf
      refine mg_iload_n (pc := 4) C 2 dX5_totalBallast_4 rfl rfl ?_
      refine mg_aload_n (pc := 5) C 0 dX5_totalBallast_5 rfl rfl ?_
      refine mg_get (pc := 6) C 0 rfl rfl inX5 5 (by decide) wm_154 rfl rfl dX5_totalBallast_6 ?_
      refine mg_alen (pc := 9) C (v := 49) 1 0 rfl rfl rfl dX5_totalBallast_9 ?_
      refine mg_icmp_ge (pc := 10) (tgt := 28) C dX5_totalBallast_10 (by decide) hf (fun hf => ?_) (fun hf => ?_)
      · obtain rfl := Option.some.inj hf
        refine mg_lv [1] rfl ?_
        exact X0
      · refine mg_iload_n (pc := 13) C 1 dX5_totalBallast_13 rfl rfl ?_
        refine mg_aload_n (pc := 14) C 0 dX5_totalBallast_14 rfl rfl ?_
        refine mg_get (pc := 15) C 0 rfl rfl inX5 5 (by decide) wm_154 rfl rfl dX5_totalBallast_15 ?_
        refine mg_iload_n (pc := 18) C 2 dX5_totalBallast_18 rfl rfl ?_
        refine mg_iald (pc := 19) C 1 rfl dX5_totalBallast_19 hf (fun hf => ?_)
        refine mg_iadd (pc := 20) C dX5_totalBallast_20 ?_
        refine mg_istore_n (pc := 21) C (lv' := [(1, .int (x1 + (v_t_ballast (Int32.toNatClampNeg x2)))), (0, .ref a_t), (2, .int x2)]) dX5_totalBallast_21 rfl (by decide) rfl ?_
        refine mg_iinc (pc := 22) C (c := 1) (lv' := [(2, .int (x2 + 1)), (1, .int (x1 + (v_t_ballast (Int32.toNatClampNeg x2)))), (0, .ref a_t)]) 2 dX5_totalBallast_22 rfl (by decide) (by decide) rfl ?_
        refine mg_goto (pc := 25) (tgt := 4) C dX5_totalBallast_25 (by decide) ?_
        refine mg_lv [2, 1, 0] rfl ?_
        exact ih (x1 + (v_t_ballast (Int32.toNatClampNeg x2))) (x2 + 1) _ hf X0
  refine mg_iconst (pc := 0) C dX5_totalBallast_0 (v := 0) (by decide) ?_
  refine mg_istore_n (pc := 1) C (lv' := [(1, .int 0), (0, .ref a_t)]) dX5_totalBallast_1 rfl (by decide) rfl ?_
  refine mg_iconst (pc := 2) C dX5_totalBallast_2 (v := 0) (by decide) ?_
  refine mg_istore_n (pc := 3) C (lv' := [(2, .int 0), (1, .int 0), (0, .ref a_t)]) dX5_totalBallast_3 rfl (by decide) rfl ?_
  obtain ⟨q1, h2, hf⟩ := mg_b hf
  refine mg_lv [2, 1, 0] rfl ?_
  refine L4  fuel 0 0 q1 h2 ?_
  refine mg_iload_n (pc := 28) C 0 dX5_totalBallast_28 rfl rfl ?_
  obtain rfl := Option.some.inj hf
  exact E _ _ dX5_totalBallast_29
abbrev w_X5_lubricatedSides (k : mg_K) (a_t a_t_ballast a_t_lubricated a_t_pose a_t_ground a_t_boulders a_t_records : Nat) (v_t_columns : Int32) (v_t_rows : Int32) (v_t_weight : Int32) (v_t_stiffness : Int32) (v_t_water : Int32) (v_t_lubricated : Nat → Int32) : va_W := [(a_t, .inr (5, [.int v_t_columns, .int v_t_rows, .int v_t_weight, .int v_t_stiffness, .int v_t_water, .ref a_t_ballast, .ref a_t_lubricated, .ref a_t_pose, .ref a_t_ground, .ref a_t_boulders, .ref a_t_records])), (a_t_lubricated, .inl (k.2.1, 4, .inl v_t_lubricated))]
def f_X5_lubricatedSides_L4 (v_t_lubricated : Nat → Int32) : Nat → Int32 → Int32 → Option (Int32 × Int32)
  | 0, _, _ => none
  | n_ + 1, x1, x2 => if 4 ≤ x2 then (some ((x1, x2))) else (if mg_ix x2 4 = true then (f_X5_lubricatedSides_L4 v_t_lubricated n_ (x1 + (v_t_lubricated (Int32.toNatClampNeg x2))) (x2 + 1)) else none)
def f_X5_lubricatedSides (fuel : Nat) (v_t_lubricated : Nat → Int32) : Option (Int32) := (f_X5_lubricatedSides_L4 v_t_lubricated fuel 0 0).bind (fun q1 => some q1.1)
theorem Y_X5_lubricatedSides : mg_Y yX5_lubricatedSides cX5_lubricatedSides 3 (some .int) 0 := ⟨wm_766, wm_767, wm_3, wm_768, ⟨by decide +kernel, by decide +kernel, by decide +kernel⟩, by decide⟩
set_option maxRecDepth 100000 in
set_option maxHeartbeats 4000000 in
theorem c_X5_lubricatedSides (l : Launch) (k : mg_K) (a_t a_t_ballast a_t_lubricated a_t_pose a_t_ground a_t_boulders a_t_records : Nat) (v_t_columns : Int32) (v_t_rows : Int32) (v_t_weight : Int32) (v_t_stiffness : Int32) (v_t_water : Int32) (v_t_lubricated : Nat → Int32) (fuel : Nat) (q : Int32) (hf : f_X5_lubricatedSides fuel v_t_lubricated = some q) : mg_M l yX5_lubricatedSides cX5_lubricatedSides 3 (some .int) 0 k [.ref a_t] (w_X5_lubricatedSides k a_t a_t_ballast a_t_lubricated a_t_pose a_t_ground a_t_boulders a_t_records v_t_columns v_t_rows v_t_weight v_t_stiffness v_t_water v_t_lubricated) (w_X5_lubricatedSides k a_t a_t_ballast a_t_lubricated a_t_pose a_t_ground a_t_boulders a_t_records v_t_columns v_t_rows v_t_weight v_t_stiffness v_t_water v_t_lubricated) (some (.int q)) := by
  refine mg_Mi RX5 [(0, .ref a_t)] (by decide +kernel) rfl rfl (Nat.le_of_ble_eq_true rfl) ?_
  intro z A Q hl C E
  subst hl
  unfold f_X5_lubricatedSides at hf
  have L4 : ∀ (n_ : Nat) (x1 : Int32) (x2 : Int32) (q_ : Int32 × Int32), f_X5_lubricatedSides_L4 v_t_lubricated n_ x1 x2 = some q_ → (mg z k A 3 0 0 Q (w_X5_lubricatedSides k a_t a_t_ballast a_t_lubricated a_t_pose a_t_ground a_t_boulders a_t_records v_t_columns v_t_rows v_t_weight v_t_stiffness v_t_water v_t_lubricated) [(1, .int q_.1)] 28 []) → mg z k A 3 0 0 Q (w_X5_lubricatedSides k a_t a_t_ballast a_t_lubricated a_t_pose a_t_ground a_t_boulders a_t_records v_t_columns v_t_rows v_t_weight v_t_stiffness v_t_water v_t_lubricated) [(0, .ref a_t), (1, .int x1), (2, .int x2)] 4 [] := by
    intro n_
    induction n_ with
    | zero => intro x1 x2 q_ hf; exact mg_no (show none = some q_ from hf)
    | succ n_ ih =>
      intro x1 x2 q_ hf X0
      rw [f_X5_lubricatedSides_L4] at hf
      refine mg_iload_n (pc := 4) C 2 dX5_lubricatedSides_4 rfl rfl ?_
      refine mg_aload_n (pc := 5) C 0 dX5_lubricatedSides_5 rfl rfl ?_
      refine mg_get (pc := 6) C 0 rfl rfl inX5 6 (by decide) wm_155 rfl rfl dX5_lubricatedSides_6 ?_
      refine mg_alen (pc := 9) C (v := 4) 1 0 rfl rfl rfl dX5_lubricatedSides_9 ?_
      refine mg_icmp_ge (pc := 10) (tgt := 28) C dX5_lubricatedSides_10 (by decide) hf (fun hf => ?_) (fun hf => ?_)
      · obtain rfl := Option.some.inj hf
        refine mg_lv [1] rfl ?_
        exact X0
      · refine mg_iload_n (pc := 13) C 1 dX5_lubricatedSides_13 rfl rfl ?_
        refine mg_aload_n (pc := 14) C 0 dX5_lubricatedSides_14 rfl rfl ?_
        refine mg_get (pc := 15) C 0 rfl rfl inX5 6 (by decide) wm_155 rfl rfl dX5_lubricatedSides_15 ?_
        refine mg_iload_n (pc := 18) C 2 dX5_lubricatedSides_18 rfl rfl ?_
        refine mg_iald (pc := 19) C 1 rfl dX5_lubricatedSides_19 hf (fun hf => ?_)
        refine mg_iadd (pc := 20) C dX5_lubricatedSides_20 ?_
        refine mg_istore_n (pc := 21) C (lv' := [(1, .int (x1 + (v_t_lubricated (Int32.toNatClampNeg x2)))), (0, .ref a_t), (2, .int x2)]) dX5_lubricatedSides_21 rfl (by decide) rfl ?_
        refine mg_iinc (pc := 22) C (c := 1) (lv' := [(2, .int (x2 + 1)), (1, .int (x1 + (v_t_lubricated (Int32.toNatClampNeg x2)))), (0, .ref a_t)]) 2 dX5_lubricatedSides_22 rfl (by decide) (by decide) rfl ?_
        refine mg_goto (pc := 25) (tgt := 4) C dX5_lubricatedSides_25 (by decide) ?_
        refine mg_lv [2, 1, 0] rfl ?_
        exact ih (x1 + (v_t_lubricated (Int32.toNatClampNeg x2))) (x2 + 1) _ hf X0
  refine mg_iconst (pc := 0) C dX5_lubricatedSides_0 (v := 0) (by decide) ?_
  refine mg_istore_n (pc := 1) C (lv' := [(1, .int 0), (0, .ref a_t)]) dX5_lubricatedSides_1 rfl (by decide) rfl ?_
  refine mg_iconst (pc := 2) C dX5_lubricatedSides_2 (v := 0) (by decide) ?_
  refine mg_istore_n (pc := 3) C (lv' := [(2, .int 0), (1, .int 0), (0, .ref a_t)]) dX5_lubricatedSides_3 rfl (by decide) rfl ?_
  obtain ⟨q1, h2, hf⟩ := mg_b hf
  refine mg_lv [2, 1, 0] rfl ?_
  refine L4  fuel 0 0 q1 h2 ?_
  refine mg_iload_n (pc := 28) C 0 dX5_lubricatedSides_28 rfl rfl ?_
  obtain rfl := Option.some.inj hf
  exact E _ _ dX5_lubricatedSides_29
abbrev w_X5_skinFactor (k : mg_K) (a_t a_t_ballast a_t_lubricated a_t_pose a_t_ground a_t_boulders a_t_records : Nat) (v_t_columns : Int32) (v_t_rows : Int32) (v_t_weight : Int32) (v_t_stiffness : Int32) (v_t_water : Int32) (v_t_lubricated : Nat → Int32) : va_W := [(a_t, .inr (5, [.int v_t_columns, .int v_t_rows, .int v_t_weight, .int v_t_stiffness, .int v_t_water, .ref a_t_ballast, .ref a_t_lubricated, .ref a_t_pose, .ref a_t_ground, .ref a_t_boulders, .ref a_t_records])), (a_t_lubricated, .inl (k.2.1, 4, .inl v_t_lubricated))]
def f_X5_skinFactor_J48 (v_t_rows : Int32) (v_t_lubricated : Nat → Int32) (x2 : Int32) : Option (Int32) := if x2 = (v_t_rows - 1) then (if (v_t_lubricated 3) = 1 then (some 1) else (some 4)) else (some 4)
def f_X5_skinFactor_J34 (v_t_rows : Int32) (v_t_lubricated : Nat → Int32) (x2 : Int32) : Option (Int32) := if x2 = 0 then (if (v_t_lubricated 2) = 1 then (some 1) else (f_X5_skinFactor_J48 v_t_rows v_t_lubricated x2)) else (f_X5_skinFactor_J48 v_t_rows v_t_lubricated x2)
def f_X5_skinFactor_J14 (v_t_columns : Int32) (v_t_rows : Int32) (v_t_lubricated : Nat → Int32) (x1 : Int32) (x2 : Int32) : Option (Int32) := if x1 = (v_t_columns - 1) then (if (v_t_lubricated 1) = 1 then (some 1) else (f_X5_skinFactor_J34 v_t_rows v_t_lubricated x2)) else (f_X5_skinFactor_J34 v_t_rows v_t_lubricated x2)
def f_X5_skinFactor (v_t_columns : Int32) (v_t_rows : Int32) (v_t_lubricated : Nat → Int32) (x1 : Int32) (x2 : Int32) : Option (Int32) := if x1 = 0 then (if (v_t_lubricated 0) = 1 then (some 1) else (f_X5_skinFactor_J14 v_t_columns v_t_rows v_t_lubricated x1 x2)) else (f_X5_skinFactor_J14 v_t_columns v_t_rows v_t_lubricated x1 x2)
theorem Y_X5_skinFactor : mg_Y yX5_skinFactor cX5_skinFactor 4 (some .int) 2 := ⟨wm_621, wm_622, wm_3, wm_623, ⟨by decide +kernel, by decide +kernel, by decide +kernel⟩, by decide⟩
set_option maxRecDepth 100000 in
set_option maxHeartbeats 4000000 in
theorem c_X5_skinFactor (l : Launch) (k : mg_K) (a_t a_t_ballast a_t_lubricated a_t_pose a_t_ground a_t_boulders a_t_records : Nat) (v_t_columns : Int32) (v_t_rows : Int32) (v_t_weight : Int32) (v_t_stiffness : Int32) (v_t_water : Int32) (v_t_lubricated : Nat → Int32) (x1 : Int32) (x2 : Int32) (q : Int32) (hf : f_X5_skinFactor v_t_columns v_t_rows v_t_lubricated x1 x2 = some q) : mg_M l yX5_skinFactor cX5_skinFactor 4 (some .int) 0 k [.ref a_t, .int x1, .int x2] (w_X5_skinFactor k a_t a_t_ballast a_t_lubricated a_t_pose a_t_ground a_t_boulders a_t_records v_t_columns v_t_rows v_t_weight v_t_stiffness v_t_water v_t_lubricated) (w_X5_skinFactor k a_t a_t_ballast a_t_lubricated a_t_pose a_t_ground a_t_boulders a_t_records v_t_columns v_t_rows v_t_weight v_t_stiffness v_t_water v_t_lubricated) (some (.int q)) := by
  refine mg_Mi RX5 [(0, .ref a_t), (1, .int x1), (2, .int x2)] (by decide +kernel) rfl rfl (Nat.le_of_ble_eq_true rfl) ?_
  intro z A Q hl C E
  subst hl
  unfold f_X5_skinFactor at hf
  have J48 : ∀ (x2 : Int32), f_X5_skinFactor_J48 v_t_rows v_t_lubricated x2 = some q → mg z k A 4 0 0 Q (w_X5_skinFactor k a_t a_t_ballast a_t_lubricated a_t_pose a_t_ground a_t_boulders a_t_records v_t_columns v_t_rows v_t_weight v_t_stiffness v_t_water v_t_lubricated) [(0, .ref a_t), (2, .int x2)] 48 [] := by
    intro x2 hf
    unfold f_X5_skinFactor_J48 at hf
    refine mg_iload_n (pc := 48) C 1 dX5_skinFactor_48 rfl rfl ?_
    refine mg_aload_n (pc := 49) C 0 dX5_skinFactor_49 rfl rfl ?_
    refine mg_get (pc := 50) C 0 rfl rfl inX5 1 (by decide) wm_139 rfl rfl dX5_skinFactor_50 ?_
    refine mg_iconst (pc := 53) C dX5_skinFactor_53 (v := 1) (by decide) ?_
    refine mg_isub (pc := 54) C dX5_skinFactor_54 ?_
    refine mg_icmp_ne (pc := 55) (tgt := 72) C dX5_skinFactor_55 (by decide) hf (fun hf => ?_) (fun hf => ?_)
    · refine mg_iconst (pc := 72) C dX5_skinFactor_72 (v := 0) (by decide) ?_
      refine mg_istore_n (pc := 73) C (lv' := [(3, .int 0), (0, .ref a_t), (2, .int x2)]) dX5_skinFactor_73 rfl (by decide) rfl ?_
      refine mg_iload_n (pc := 74) C 0 dX5_skinFactor_74 rfl rfl ?_
      refine mg_if_eqT (pc := 75) (tgt := 82) C (by decide) dX5_skinFactor_75 (by decide) ?_
      refine mg_iconst (pc := 82) C dX5_skinFactor_82 (v := 4) (by decide) ?_
      obtain rfl := Option.some.inj hf
      exact E _ _ dX5_skinFactor_83
    · refine mg_aload_n (pc := 58) C 0 dX5_skinFactor_58 rfl rfl ?_
      refine mg_get (pc := 59) C 0 rfl rfl inX5 6 (by decide) wm_155 rfl rfl dX5_skinFactor_59 ?_
      refine mg_iconst (pc := 62) C dX5_skinFactor_62 (v := 3) (by decide) ?_
      refine mg_ialdK (pc := 63) C 1 3 rfl dX5_skinFactor_63 (by decide) (by decide) ?_
      refine mg_iconst (pc := 64) C dX5_skinFactor_64 (v := 1) (by decide) ?_
      refine mg_icmp_ne (pc := 65) (tgt := 72) C dX5_skinFactor_65 (by decide) hf (fun hf => ?_) (fun hf => ?_)
      · refine mg_iconst (pc := 72) C dX5_skinFactor_72 (v := 0) (by decide) ?_
        refine mg_istore_n (pc := 73) C (lv' := [(3, .int 0), (0, .ref a_t), (2, .int x2)]) dX5_skinFactor_73 rfl (by decide) rfl ?_
        refine mg_iload_n (pc := 74) C 0 dX5_skinFactor_74 rfl rfl ?_
        refine mg_if_eqT (pc := 75) (tgt := 82) C (by decide) dX5_skinFactor_75 (by decide) ?_
        refine mg_iconst (pc := 82) C dX5_skinFactor_82 (v := 4) (by decide) ?_
        obtain rfl := Option.some.inj hf
        exact E _ _ dX5_skinFactor_83
      · refine mg_iconst (pc := 68) C dX5_skinFactor_68 (v := 1) (by decide) ?_
        refine mg_goto (pc := 69) (tgt := 73) C dX5_skinFactor_69 (by decide) ?_
        refine mg_istore_n (pc := 73) C (lv' := [(3, .int 1), (0, .ref a_t), (2, .int x2)]) dX5_skinFactor_73 rfl (by decide) rfl ?_
        refine mg_iload_n (pc := 74) C 0 dX5_skinFactor_74 rfl rfl ?_
        refine mg_if_eqF (pc := 75) (tgt := 82) C (by decide) dX5_skinFactor_75 (by decide) ?_
        refine mg_iconst (pc := 78) C dX5_skinFactor_78 (v := 1) (by decide) ?_
        refine mg_goto (pc := 79) (tgt := 83) C dX5_skinFactor_79 (by decide) ?_
        obtain rfl := Option.some.inj hf
        exact E _ _ dX5_skinFactor_83
  have J34 : ∀ (x2 : Int32), f_X5_skinFactor_J34 v_t_rows v_t_lubricated x2 = some q → mg z k A 4 0 0 Q (w_X5_skinFactor k a_t a_t_ballast a_t_lubricated a_t_pose a_t_ground a_t_boulders a_t_records v_t_columns v_t_rows v_t_weight v_t_stiffness v_t_water v_t_lubricated) [(0, .ref a_t), (2, .int x2)] 34 [] := by
    intro x2 hf
    unfold f_X5_skinFactor_J34 at hf
    refine mg_iload_n (pc := 34) C 1 dX5_skinFactor_34 rfl rfl ?_
    refine mg_if_ne (pc := 35) (tgt := 48) C dX5_skinFactor_35 (by decide) hf (fun hf => ?_) (fun hf => ?_)
    · exact J48 x2 hf
    · refine mg_aload_n (pc := 38) C 0 dX5_skinFactor_38 rfl rfl ?_
      refine mg_get (pc := 39) C 0 rfl rfl inX5 6 (by decide) wm_155 rfl rfl dX5_skinFactor_39 ?_
      refine mg_iconst (pc := 42) C dX5_skinFactor_42 (v := 2) (by decide) ?_
      refine mg_ialdK (pc := 43) C 1 2 rfl dX5_skinFactor_43 (by decide) (by decide) ?_
      refine mg_iconst (pc := 44) C dX5_skinFactor_44 (v := 1) (by decide) ?_
      refine mg_icmp_eq (pc := 45) (tgt := 68) C dX5_skinFactor_45 (by decide) hf (fun hf => ?_) (fun hf => ?_)
      · refine mg_iconst (pc := 68) C dX5_skinFactor_68 (v := 1) (by decide) ?_
        refine mg_goto (pc := 69) (tgt := 73) C dX5_skinFactor_69 (by decide) ?_
        refine mg_istore_n (pc := 73) C (lv' := [(3, .int 1), (0, .ref a_t), (2, .int x2)]) dX5_skinFactor_73 rfl (by decide) rfl ?_
        refine mg_iload_n (pc := 74) C 0 dX5_skinFactor_74 rfl rfl ?_
        refine mg_if_eqF (pc := 75) (tgt := 82) C (by decide) dX5_skinFactor_75 (by decide) ?_
        refine mg_iconst (pc := 78) C dX5_skinFactor_78 (v := 1) (by decide) ?_
        refine mg_goto (pc := 79) (tgt := 83) C dX5_skinFactor_79 (by decide) ?_
        obtain rfl := Option.some.inj hf
        exact E _ _ dX5_skinFactor_83
      · exact J48 x2 hf
  have J14 : ∀ (x1 : Int32) (x2 : Int32), f_X5_skinFactor_J14 v_t_columns v_t_rows v_t_lubricated x1 x2 = some q → mg z k A 4 0 0 Q (w_X5_skinFactor k a_t a_t_ballast a_t_lubricated a_t_pose a_t_ground a_t_boulders a_t_records v_t_columns v_t_rows v_t_weight v_t_stiffness v_t_water v_t_lubricated) [(0, .ref a_t), (1, .int x1), (2, .int x2)] 14 [] := by
    intro x1 x2 hf
    unfold f_X5_skinFactor_J14 at hf
    refine mg_iload_n (pc := 14) C 1 dX5_skinFactor_14 rfl rfl ?_
    refine mg_aload_n (pc := 15) C 0 dX5_skinFactor_15 rfl rfl ?_
    refine mg_get (pc := 16) C 0 rfl rfl inX5 0 (by decide) wm_135 rfl rfl dX5_skinFactor_16 ?_
    refine mg_iconst (pc := 19) C dX5_skinFactor_19 (v := 1) (by decide) ?_
    refine mg_isub (pc := 20) C dX5_skinFactor_20 ?_
    refine mg_icmp_ne (pc := 21) (tgt := 34) C dX5_skinFactor_21 (by decide) hf (fun hf => ?_) (fun hf => ?_)
    · refine mg_lv [0, 2] rfl ?_
      exact J34 x2 hf
    · refine mg_aload_n (pc := 24) C 0 dX5_skinFactor_24 rfl rfl ?_
      refine mg_get (pc := 25) C 0 rfl rfl inX5 6 (by decide) wm_155 rfl rfl dX5_skinFactor_25 ?_
      refine mg_iconst (pc := 28) C dX5_skinFactor_28 (v := 1) (by decide) ?_
      refine mg_ialdK (pc := 29) C 1 1 rfl dX5_skinFactor_29 (by decide) (by decide) ?_
      refine mg_iconst (pc := 30) C dX5_skinFactor_30 (v := 1) (by decide) ?_
      refine mg_icmp_eq (pc := 31) (tgt := 68) C dX5_skinFactor_31 (by decide) hf (fun hf => ?_) (fun hf => ?_)
      · refine mg_iconst (pc := 68) C dX5_skinFactor_68 (v := 1) (by decide) ?_
        refine mg_goto (pc := 69) (tgt := 73) C dX5_skinFactor_69 (by decide) ?_
        refine mg_istore_n (pc := 73) C (lv' := [(3, .int 1), (0, .ref a_t), (1, .int x1), (2, .int x2)]) dX5_skinFactor_73 rfl (by decide) rfl ?_
        refine mg_iload_n (pc := 74) C 0 dX5_skinFactor_74 rfl rfl ?_
        refine mg_if_eqF (pc := 75) (tgt := 82) C (by decide) dX5_skinFactor_75 (by decide) ?_
        refine mg_iconst (pc := 78) C dX5_skinFactor_78 (v := 1) (by decide) ?_
        refine mg_goto (pc := 79) (tgt := 83) C dX5_skinFactor_79 (by decide) ?_
        obtain rfl := Option.some.inj hf
        exact E _ _ dX5_skinFactor_83
      · refine mg_lv [0, 2] rfl ?_
        exact J34 x2 hf
  refine mg_iload_n (pc := 0) C 1 dX5_skinFactor_0 rfl rfl ?_
  refine mg_if_ne (pc := 1) (tgt := 14) C dX5_skinFactor_1 (by decide) hf (fun hf => ?_) (fun hf => ?_)
  · exact J14 x1 x2 hf
  · refine mg_aload_n (pc := 4) C 0 dX5_skinFactor_4 rfl rfl ?_
    refine mg_get (pc := 5) C 0 rfl rfl inX5 6 (by decide) wm_155 rfl rfl dX5_skinFactor_5 ?_
    refine mg_iconst (pc := 8) C dX5_skinFactor_8 (v := 0) (by decide) ?_
    refine mg_ialdK (pc := 9) C 1 0 rfl dX5_skinFactor_9 (by decide) (by decide) ?_
    refine mg_iconst (pc := 10) C dX5_skinFactor_10 (v := 1) (by decide) ?_
    refine mg_icmp_eq (pc := 11) (tgt := 68) C dX5_skinFactor_11 (by decide) hf (fun hf => ?_) (fun hf => ?_)
    · refine mg_iconst (pc := 68) C dX5_skinFactor_68 (v := 1) (by decide) ?_
      refine mg_goto (pc := 69) (tgt := 73) C dX5_skinFactor_69 (by decide) ?_
      refine mg_istore_n (pc := 73) C (lv' := [(3, .int 1), (0, .ref a_t), (1, .int x1), (2, .int x2)]) dX5_skinFactor_73 rfl (by decide) rfl ?_
      refine mg_iload_n (pc := 74) C 0 dX5_skinFactor_74 rfl rfl ?_
      refine mg_if_eqF (pc := 75) (tgt := 82) C (by decide) dX5_skinFactor_75 (by decide) ?_
      refine mg_iconst (pc := 78) C dX5_skinFactor_78 (v := 1) (by decide) ?_
      refine mg_goto (pc := 79) (tgt := 83) C dX5_skinFactor_79 (by decide) ?_
      obtain rfl := Option.some.inj hf
      exact E _ _ dX5_skinFactor_83
    · exact J14 x1 x2 hf
abbrev w_X5_bottomAfterDigging (k : mg_K) (a_t a_p1 a_p1_bottoms a_t_ballast a_t_lubricated a_t_pose a_t_ground a_t_boulders a_t_records a_t_boulders_list a_t_boulders_list_values : Nat) (v_p1_depth : Int32) (v_p1_tiltX : Int32) (v_p1_tiltY : Int32) (v_p1_bottoms : Nat → Int32) (v_t_columns : Int32) (v_t_rows : Int32) (v_t_weight : Int32) (v_t_stiffness : Int32) (v_t_water : Int32) (v_t_boulders_list_count : Int32) (v_t_boulders_list_values : Nat → Int32) : va_W := [(a_p1, .inr (4, [.int v_p1_depth, .int v_p1_tiltX, .int v_p1_tiltY, .ref a_p1_bottoms])), (a_p1_bottoms, .inl (k.2.1, 49, .inl v_p1_bottoms)), (a_t, .inr (5, [.int v_t_columns, .int v_t_rows, .int v_t_weight, .int v_t_stiffness, .int v_t_water, .ref a_t_ballast, .ref a_t_lubricated, .ref a_t_pose, .ref a_t_ground, .ref a_t_boulders, .ref a_t_records])), (a_t_boulders, .inr (0, [.ref a_t_boulders_list])), (a_t_boulders_list, .inr (7, [.int 10, .ref a_t_boulders_list_values, .int v_t_boulders_list_count])), (a_t_boulders_list_values, .inl (k.2.1, 30, .inl v_t_boulders_list_values))]
def f_X5_bottomAfterDigging (fuel : Nat) (v_p1_depth : Int32) (v_p1_bottoms : Nat → Int32) (v_t_boulders_list_count : Int32) (v_t_boulders_list_values : Nat → Int32) (x2 : Int32) (x3 : Int32) : Option (Int32) := (f_X4_bottomOf v_p1_bottoms x2).bind (fun q1 => (f_X0_firstFrom fuel v_t_boulders_list_count v_t_boulders_list_values x2 q1).bind (fun q3 => if q3 = (-1000009) then (some (mg_mx q1 (mg_mn (q1 + x3) (mg_mn (v_p1_depth + 12) 220)))) else ((f_X0_depthOf v_t_boulders_list_count v_t_boulders_list_values q3).bind (fun q5 => some (mg_mx q1 (mg_mn (q1 + x3) (mg_mn (mg_mn (v_p1_depth + 12) 220) q5)))))))
theorem Y_X5_bottomAfterDigging : mg_Y yX5_bottomAfterDigging cX5_bottomAfterDigging 7 (some .int) 3 := ⟨wm_713, wm_714, wm_3, wm_715, ⟨by decide +kernel, by decide +kernel, by decide +kernel⟩, by decide⟩
set_option maxRecDepth 100000 in
set_option maxHeartbeats 4000000 in
theorem c_X5_bottomAfterDigging (l : Launch) (k : mg_K) (a_t a_p1 a_p1_bottoms a_t_ballast a_t_lubricated a_t_pose a_t_ground a_t_boulders a_t_records a_t_boulders_list a_t_boulders_list_values : Nat) (v_p1_depth : Int32) (v_p1_tiltX : Int32) (v_p1_tiltY : Int32) (v_p1_bottoms : Nat → Int32) (v_t_columns : Int32) (v_t_rows : Int32) (v_t_weight : Int32) (v_t_stiffness : Int32) (v_t_water : Int32) (v_t_boulders_list_count : Int32) (v_t_boulders_list_values : Nat → Int32) (fuel : Nat) (x2 : Int32) (x3 : Int32) (q : Int32) (hf : f_X5_bottomAfterDigging fuel v_p1_depth v_p1_bottoms v_t_boulders_list_count v_t_boulders_list_values x2 x3 = some q) : mg_M l yX5_bottomAfterDigging cX5_bottomAfterDigging 7 (some .int) 3 k [.ref a_t, .ref a_p1, .int x2, .int x3] (w_X5_bottomAfterDigging k a_t a_p1 a_p1_bottoms a_t_ballast a_t_lubricated a_t_pose a_t_ground a_t_boulders a_t_records a_t_boulders_list a_t_boulders_list_values v_p1_depth v_p1_tiltX v_p1_tiltY v_p1_bottoms v_t_columns v_t_rows v_t_weight v_t_stiffness v_t_water v_t_boulders_list_count v_t_boulders_list_values) (w_X5_bottomAfterDigging k a_t a_p1 a_p1_bottoms a_t_ballast a_t_lubricated a_t_pose a_t_ground a_t_boulders a_t_records a_t_boulders_list a_t_boulders_list_values v_p1_depth v_p1_tiltX v_p1_tiltY v_p1_bottoms v_t_columns v_t_rows v_t_weight v_t_stiffness v_t_water v_t_boulders_list_count v_t_boulders_list_values) (some (.int q)) := by
  refine mg_Mi RX5 [(0, .ref a_t), (1, .ref a_p1), (2, .int x2), (3, .int x3)] (by decide +kernel) rfl rfl (Nat.le_of_ble_eq_true rfl) ?_
  intro z A Q hl C E
  subst hl
  unfold f_X5_bottomAfterDigging at hf
  refine mg_aload_n (pc := 0) C 1 dX5_bottomAfterDigging_0 rfl rfl ?_
  refine mg_iload_n (pc := 1) C 2 dX5_bottomAfterDigging_1 rfl rfl ?_
  obtain ⟨q1, h2, hf⟩ := mg_b hf
  refine mg_callV (pc := 2) C (w2 := w_X5_bottomAfterDigging k a_t a_p1 a_p1_bottoms a_t_ballast a_t_lubricated a_t_pose a_t_ground a_t_boulders a_t_records a_t_boulders_list a_t_boulders_list_values v_p1_depth v_p1_tiltX v_p1_tiltY v_p1_bottoms v_t_columns v_t_rows v_t_weight v_t_stiffness v_t_water v_t_boulders_list_count v_t_boulders_list_values) (c_X4_bottomOf z.2.1 k a_p1 a_p1_bottoms v_p1_depth v_p1_tiltX v_p1_tiltY v_p1_bottoms x2 q1 h2) Y_X4_bottomOf wm_716 (by decide) rfl 0 rfl rfl rfl [0, 1] rfl (by decide) rfl [some 0, some 1, none, none, none, none] (by decide) rfl (Nat.le_of_ble_eq_true rfl) rfl dX5_bottomAfterDigging_2 ?_
  refine mg_istore (pc := 5) C (lv' := [(4, .int q1), (0, .ref a_t), (1, .ref a_p1), (2, .int x2), (3, .int x3)]) dX5_bottomAfterDigging_5 (by decide) rfl ?_
  refine mg_aload_n (pc := 7) C 2 dX5_bottomAfterDigging_7 rfl rfl ?_
  refine mg_get (pc := 8) C 0 rfl rfl inX4 0 (by decide) wm_46 rfl rfl dX5_bottomAfterDigging_8 ?_
  refine mg_bipush (pc := 11) C dX5_bottomAfterDigging_11 (v := 12) (by decide) ?_
  refine mg_iadd (pc := 13) C dX5_bottomAfterDigging_13 ?_
  refine mg_sipush (pc := 14) C dX5_bottomAfterDigging_14 (v := 220) (by decide) ?_
  refine mg_mmin (pc := 17) C wm_717 wm_465 wm_7 wm_466 (by decide) (Nat.le_of_ble_eq_true rfl) dX5_bottomAfterDigging_17 ?_
  refine mg_istore (pc := 20) C (lv' := [(5, .int (mg_mn (v_p1_depth + 12) 220)), (4, .int q1), (0, .ref a_t), (1, .ref a_p1), (2, .int x2), (3, .int x3)]) dX5_bottomAfterDigging_20 (by decide) rfl ?_
  refine mg_aload_n (pc := 22) C 2 dX5_bottomAfterDigging_22 rfl rfl ?_
  refine mg_get (pc := 23) C 2 rfl rfl inX5 9 (by decide) wm_164 rfl rfl dX5_bottomAfterDigging_23 ?_
  refine mg_iload_n (pc := 26) C 4 dX5_bottomAfterDigging_26 rfl rfl ?_
  refine mg_iload (pc := 27) C 1 dX5_bottomAfterDigging_27 rfl ?_
  obtain ⟨q3, h4, hf⟩ := mg_b hf
  refine mg_callV (pc := 29) C (w2 := w_X5_bottomAfterDigging k a_t a_p1 a_p1_bottoms a_t_ballast a_t_lubricated a_t_pose a_t_ground a_t_boulders a_t_records a_t_boulders_list a_t_boulders_list_values v_p1_depth v_p1_tiltX v_p1_tiltY v_p1_bottoms v_t_columns v_t_rows v_t_weight v_t_stiffness v_t_water v_t_boulders_list_count v_t_boulders_list_values) (c_X0_firstFrom z.2.1 k a_t_boulders a_t_boulders_list a_t_boulders_list_values v_t_boulders_list_count v_t_boulders_list_values fuel x2 q1 q3 h4) Y_X0_firstFrom wm_718 (by decide) rfl 3 rfl rfl rfl [3, 4, 5] rfl (by decide) rfl [none, none, none, some 0, some 1, some 2] (by decide) rfl (Nat.le_of_ble_eq_true rfl) rfl dX5_bottomAfterDigging_29 ?_
  refine mg_istore (pc := 32) C (lv' := [(6, .int q3), (5, .int (mg_mn (v_p1_depth + 12) 220)), (4, .int q1), (0, .ref a_t), (1, .ref a_p1), (2, .int x2), (3, .int x3)]) dX5_bottomAfterDigging_32 (by decide) rfl ?_
  refine mg_iload (pc := 34) C 0 dX5_bottomAfterDigging_34 rfl ?_
  refine mg_ldc (pc := 36) C wm_723 dX5_bottomAfterDigging_36 ?_
  refine mg_icmp_eq (pc := 38) (tgt := 57) C dX5_bottomAfterDigging_38 (by decide) hf (fun hf => ?_) (fun hf => ?_)
  · refine mg_iload (pc := 57) C 2 dX5_bottomAfterDigging_57 rfl ?_
    refine mg_iload (pc := 59) C 2 dX5_bottomAfterDigging_59 rfl ?_
    refine mg_iload_n (pc := 61) C 6 dX5_bottomAfterDigging_61 rfl rfl ?_
    refine mg_iadd (pc := 62) C dX5_bottomAfterDigging_62 ?_
    refine mg_iload (pc := 63) C 1 dX5_bottomAfterDigging_63 rfl ?_
    refine mg_mmin (pc := 65) C wm_717 wm_465 wm_7 wm_466 (by decide) (Nat.le_of_ble_eq_true rfl) dX5_bottomAfterDigging_65 ?_
    refine mg_mmax (pc := 68) C wm_728 wm_77 wm_7 wm_78 (by decide) (Nat.le_of_ble_eq_true rfl) dX5_bottomAfterDigging_68 ?_
    obtain rfl := Option.some.inj hf
    exact E _ _ dX5_bottomAfterDigging_71
  · refine mg_iload (pc := 41) C 1 dX5_bottomAfterDigging_41 rfl ?_
    refine mg_aload_n (pc := 43) C 3 dX5_bottomAfterDigging_43 rfl rfl ?_
    refine mg_get (pc := 44) C 2 rfl rfl inX5 9 (by decide) wm_164 rfl rfl dX5_bottomAfterDigging_44 ?_
    refine mg_iload (pc := 47) C 0 dX5_bottomAfterDigging_47 rfl ?_
    obtain ⟨q5, h6, hf⟩ := mg_b hf
    refine mg_callV (pc := 49) C (w2 := w_X5_bottomAfterDigging k a_t a_p1 a_p1_bottoms a_t_ballast a_t_lubricated a_t_pose a_t_ground a_t_boulders a_t_records a_t_boulders_list a_t_boulders_list_values v_p1_depth v_p1_tiltX v_p1_tiltY v_p1_bottoms v_t_columns v_t_rows v_t_weight v_t_stiffness v_t_water v_t_boulders_list_count v_t_boulders_list_values) (c_X0_depthOf z.2.1 k a_t_boulders a_t_boulders_list a_t_boulders_list_values v_t_boulders_list_count v_t_boulders_list_values q3 q5 h6) Y_X0_depthOf wm_724 (by decide) rfl 3 rfl rfl rfl [3, 4, 5] rfl (by decide) rfl [none, none, none, some 0, some 1, some 2] (by decide) rfl (Nat.le_of_ble_eq_true rfl) rfl dX5_bottomAfterDigging_49 ?_
    refine mg_mmin (pc := 52) C wm_717 wm_465 wm_7 wm_466 (by decide) (Nat.le_of_ble_eq_true rfl) dX5_bottomAfterDigging_52 ?_
    refine mg_istore (pc := 55) C (lv' := [(5, .int (mg_mn (mg_mn (v_p1_depth + 12) 220) q5)), (6, .int q3), (4, .int q1), (0, .ref a_t), (1, .ref a_p1), (2, .int x2), (3, .int x3)]) dX5_bottomAfterDigging_55 (by decide) rfl ?_
    refine mg_iload (pc := 57) C 2 dX5_bottomAfterDigging_57 rfl ?_
    refine mg_iload (pc := 59) C 2 dX5_bottomAfterDigging_59 rfl ?_
    refine mg_iload_n (pc := 61) C 6 dX5_bottomAfterDigging_61 rfl rfl ?_
    refine mg_iadd (pc := 62) C dX5_bottomAfterDigging_62 ?_
    refine mg_iload (pc := 63) C 0 dX5_bottomAfterDigging_63 rfl ?_
    refine mg_mmin (pc := 65) C wm_717 wm_465 wm_7 wm_466 (by decide) (Nat.le_of_ble_eq_true rfl) dX5_bottomAfterDigging_65 ?_
    refine mg_mmax (pc := 68) C wm_728 wm_77 wm_7 wm_78 (by decide) (Nat.le_of_ble_eq_true rfl) dX5_bottomAfterDigging_68 ?_
    obtain rfl := Option.some.inj hf
    exact E _ _ dX5_bottomAfterDigging_71
