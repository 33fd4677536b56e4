abbrev w_X9_settlesIfLoose (k : mg_K) (a_t a_t_s a_t_past a_t_aside a_t_text a_t_told a_t_bottoms a_t_planned : Nat) (v_t_pasts : Int32) (v_t_typed : Int32) (v_t_at : Int32) (v_t_kind : Int32) (v_t_from : Int32) (v_t_value : Int32) (v_t_planLength : Int32) (v_t_planAmount : Int32) (v_t_s : Nat → Int32) : va_W := [(a_t, .inr (9, [.ref a_t_s, .ref a_t_past, .ref a_t_aside, .int v_t_pasts, .ref a_t_text, .int v_t_typed, .int v_t_at, .int v_t_kind, .int v_t_from, .int v_t_value, .ref a_t_told, .ref a_t_bottoms, .ref a_t_planned, .int v_t_planLength, .int v_t_planAmount])), (a_t_s, .inl (k.2.1, 227, .inl v_t_s))]
def f_X9_settlesIfLoose (fuel : Nat) (v_t_s : Nat → Int32) : Option ((Nat → Int32)) := (f_X9_next fuel v_t_s).bind (fun q1 => if q1 = 0 then (some v_t_s) else ((f_X9_settles fuel v_t_s 20).bind (fun q3 => some q3.2)))
theorem Y_X9_settlesIfLoose : mg_Y yX9_settlesIfLoose cX9_settlesIfLoose 2 none 0 := ⟨wm_1233, wp_64, wm_11, wm_1234, ⟨by decide +kernel, by decide +kernel, by decide +kernel⟩, by decide⟩
set_option maxRecDepth 100000 in
set_option maxHeartbeats 4000000 in
theorem c_X9_settlesIfLoose (l : Launch) (k : mg_K) (a_t a_t_s a_t_past a_t_aside a_t_text a_t_told a_t_bottoms a_t_planned : Nat) (v_t_pasts : Int32) (v_t_typed : Int32) (v_t_at : Int32) (v_t_kind : Int32) (v_t_from : Int32) (v_t_value : Int32) (v_t_planLength : Int32) (v_t_planAmount : Int32) (v_t_s : Nat → Int32) (fuel : Nat) (q : (Nat → Int32)) (hf : f_X9_settlesIfLoose fuel v_t_s = some q) : mg_M l yX9_settlesIfLoose cX9_settlesIfLoose 2 none 9 k [.ref a_t] (w_X9_settlesIfLoose k a_t a_t_s a_t_past a_t_aside a_t_text a_t_told a_t_bottoms a_t_planned v_t_pasts v_t_typed v_t_at v_t_kind v_t_from v_t_value v_t_planLength v_t_planAmount v_t_s) (w_X9_settlesIfLoose k a_t a_t_s a_t_past a_t_aside a_t_text a_t_told a_t_bottoms a_t_planned v_t_pasts v_t_typed v_t_at v_t_kind v_t_from v_t_value v_t_planLength v_t_planAmount q) none := by
  refine mg_Mv RX9 [(0, .ref a_t)] (by decide +kernel) rfl rfl (Nat.le_of_ble_eq_true rfl) ?_
  intro z A Q hl C E
  subst hl
  unfold f_X9_settlesIfLoose at hf
  refine mg_aload_n (pc := 0) C 0 dX9_settlesIfLoose_0 rfl rfl ?_
  obtain ⟨q1, h2, hf⟩ := mg_b hf
  refine mg_callV (pc := 1) C (w2 := w_X9_settlesIfLoose k a_t a_t_s a_t_past a_t_aside a_t_text a_t_told a_t_bottoms a_t_planned v_t_pasts v_t_typed v_t_at v_t_kind v_t_from v_t_value v_t_planLength v_t_planAmount v_t_s) (c_X9_next z.2.1 k a_t a_t_s a_t_past a_t_aside a_t_text a_t_told a_t_bottoms a_t_planned v_t_pasts v_t_typed v_t_at v_t_kind v_t_from v_t_value v_t_planLength v_t_planAmount v_t_s fuel q1 h2) Y_X9_next wm_1148 (by decide) rfl 0 rfl rfl rfl [0, 1] rfl (by decide) rfl [some 0, some 1] (by decide) rfl (Nat.le_of_ble_eq_true rfl) rfl dX9_settlesIfLoose_1 ?_
  refine mg_if_eq (pc := 4) (tgt := 14) C dX9_settlesIfLoose_4 (by decide) hf (fun hf => ?_) (fun hf => ?_)
  · obtain rfl := Option.some.inj hf
    exact E _ _ dX9_settlesIfLoose_14
  · refine mg_aload_n (pc := 7) C 0 dX9_settlesIfLoose_7 rfl rfl ?_
    refine mg_bipush (pc := 8) C dX9_settlesIfLoose_8 (v := 20) (by decide) ?_
    obtain ⟨q3, h4, hf⟩ := mg_b hf
    refine mg_callV (pc := 10) C (w2 := w_X9_settlesIfLoose k a_t a_t_s a_t_past a_t_aside a_t_text a_t_told a_t_bottoms a_t_planned v_t_pasts v_t_typed v_t_at v_t_kind v_t_from v_t_value v_t_planLength v_t_planAmount q3.2) (c_X9_settles z.2.1 k a_t a_t_s a_t_past a_t_aside a_t_text a_t_told a_t_bottoms a_t_planned v_t_pasts v_t_typed v_t_at v_t_kind v_t_from v_t_value v_t_planLength v_t_planAmount v_t_s fuel 20 q3 h4) Y_X9_settles wm_1187 (by decide) rfl 0 rfl rfl rfl [0, 1] rfl (by decide) rfl [some 0, some 1] (by decide) rfl (Nat.le_of_ble_eq_true rfl) rfl dX9_settlesIfLoose_10 ?_
    refine mg_istore_n (pc := 13) C (lv' := [(1, .int q3.1), (0, .ref a_t)]) dX9_settlesIfLoose_13 rfl (by decide) rfl ?_
    obtain rfl := Option.some.inj hf
    exact E _ _ dX9_settlesIfLoose_14
abbrev w_X9_sinkable (k : mg_K) (a_t a_t_s a_t_past a_t_aside a_t_text a_t_told a_t_bottoms a_t_planned : Nat) (v_t_pasts : Int32) (v_t_typed : Int32) (v_t_at : Int32) (v_t_kind : Int32) (v_t_from : Int32) (v_t_value : Int32) (v_t_planLength : Int32) (v_t_planAmount : Int32) (v_t_s : Nat → Int32) : va_W := [(a_t, .inr (9, [.ref a_t_s, .ref a_t_past, .ref a_t_aside, .int v_t_pasts, .ref a_t_text, .int v_t_typed, .int v_t_at, .int v_t_kind, .int v_t_from, .int v_t_value, .ref a_t_told, .ref a_t_bottoms, .ref a_t_planned, .int v_t_planLength, .int v_t_planAmount])), (a_t_s, .inl (k.2.1, 227, .inl v_t_s))]
def f_X9_sinkable_L66 (v_t_s : Nat → Int32) (x1 : Int32) (x3 : Int32) : Nat → Int32 → Int32 → Option (Int32 × Int32)
  | 0, _, _ => none
  | n_ + 1, x4, x5 => if (v_t_s 33) ≤ x5 then (some ((x4, x5))) else (if mg_ix ((34 + (3 * x5)) + 1) 227 = true then (if mg_ix (34 + (3 * x5)) 227 = true then (if (v_t_s (Int32.toNatClampNeg (34 + (3 * x5)))) = x1 then (if (v_t_s (Int32.toNatClampNeg ((34 + (3 * x5)) + 1))) < x3 then (f_X9_sinkable_L66 v_t_s x1 x3 n_ x4 (x5 + 1)) else (if x4 ≤ (v_t_s (Int32.toNatClampNeg ((34 + (3 * x5)) + 1))) then (f_X9_sinkable_L66 v_t_s x1 x3 n_ x4 (x5 + 1)) else (f_X9_sinkable_L66 v_t_s x1 x3 n_ (v_t_s (Int32.toNatClampNeg ((34 + (3 * x5)) + 1))) (x5 + 1)))) else (f_X9_sinkable_L66 v_t_s x1 x3 n_ x4 (x5 + 1))) else none) else none)
def f_X9_sinkable_J61 (fuel : Nat) (v_t_s : Nat → Int32) (x1 : Int32) (x3 : Int32) (y0 : Int32) : Option (Int32) := (f_X9_sinkable_L66 v_t_s x1 x3 fuel y0 0).bind (fun q1 => if q1.1 ≤ x3 then (some 0) else (some (q1.1 - x3)))
def f_X9_sinkable_J43 (fuel : Nat) (v_t_s : Nat → Int32) (x1 : Int32) (x3 : Int32) (y0 : Int32) : Option (Int32) := if y0 ≤ 220 then (f_X9_sinkable_J61 fuel v_t_s x1 x3 y0) else (f_X9_sinkable_J61 fuel v_t_s x1 x3 220)
def f_X9_sinkable (fuel : Nat) (v_t_s : Nat → Int32) (x1 : Int32) (x2 : Int32) : Option (Int32) := if mg_ix (117 + x1) 227 = true then (if ((v_t_s (Int32.toNatClampNeg (117 + x1))) + x2) ≤ ((v_t_s 2) + 12) then (f_X9_sinkable_J43 fuel v_t_s x1 (v_t_s (Int32.toNatClampNeg (117 + x1))) ((v_t_s (Int32.toNatClampNeg (117 + x1))) + x2)) else (f_X9_sinkable_J43 fuel v_t_s x1 (v_t_s (Int32.toNatClampNeg (117 + x1))) ((v_t_s 2) + 12))) else none
theorem Y_X9_sinkable : mg_Y yX9_sinkable cX9_sinkable 7 (some .int) 2 := ⟨wm_1177, wp_58, wm_11, wm_1178, ⟨by decide +kernel, by decide +kernel, by decide +kernel⟩, by decide⟩
set_option maxRecDepth 100000 in
set_option maxHeartbeats 4000000 in
theorem c_X9_sinkable (l : Launch) (k : mg_K) (a_t a_t_s a_t_past a_t_aside a_t_text a_t_told a_t_bottoms a_t_planned : Nat) (v_t_pasts : Int32) (v_t_typed : Int32) (v_t_at : Int32) (v_t_kind : Int32) (v_t_from : Int32) (v_t_value : Int32) (v_t_planLength : Int32) (v_t_planAmount : Int32) (v_t_s : Nat → Int32) (fuel : Nat) (x1 : Int32) (x2 : Int32) (q : Int32) (hf : f_X9_sinkable fuel v_t_s x1 x2 = some q) : mg_M l yX9_sinkable cX9_sinkable 7 (some .int) 0 k [.ref a_t, .int x1, .int x2] (w_X9_sinkable k a_t a_t_s a_t_past a_t_aside a_t_text a_t_told a_t_bottoms a_t_planned v_t_pasts v_t_typed v_t_at v_t_kind v_t_from v_t_value v_t_planLength v_t_planAmount v_t_s) (w_X9_sinkable k a_t a_t_s a_t_past a_t_aside a_t_text a_t_told a_t_bottoms a_t_planned v_t_pasts v_t_typed v_t_at v_t_kind v_t_from v_t_value v_t_planLength v_t_planAmount v_t_s) (some (.int q)) := by
  refine mg_Mi RX9 [(0, .ref a_t), (1, .int x1), (2, .int x2)] (by decide +kernel) rfl rfl (Nat.le_of_ble_eq_true rfl) ?_
  intro z A Q hl C E
  subst hl
  unfold f_X9_sinkable at hf
  have L66 : ∀ (x1 : Int32) (x3 : Int32) (n_ : Nat) (x4 : Int32) (x5 : Int32) (q_ : Int32 × Int32), f_X9_sinkable_L66 v_t_s x1 x3 n_ x4 x5 = some q_ → (mg z k A 7 0 0 Q (w_X9_sinkable k a_t a_t_s a_t_past a_t_aside a_t_text a_t_told a_t_bottoms a_t_planned v_t_pasts v_t_typed v_t_at v_t_kind v_t_from v_t_value v_t_planLength v_t_planAmount v_t_s) [(3, .int x3), (4, .int q_.1)] 138 []) → mg z k A 7 0 0 Q (w_X9_sinkable k a_t a_t_s a_t_past a_t_aside a_t_text a_t_told a_t_bottoms a_t_planned v_t_pasts v_t_typed v_t_at v_t_kind v_t_from v_t_value v_t_planLength v_t_planAmount v_t_s) [(0, .ref a_t), (1, .int x1), (3, .int x3), (4, .int x4), (5, .int x5)] 66 [] := by
    intro x1 x3 n_
    induction n_ with
    | zero => intro x4 x5 q_ hf; exact mg_no (show none = some q_ from hf)
    | succ n_ ih =>
      intro x4 x5 q_ hf X0
      rw [f_X9_sinkable_L66] at hf
      refine mg_iload (pc := 66) C 4 dX9_sinkable_66 rfl ?_
      refine mg_aload_n (pc := 68) C 0 dX9_sinkable_68 rfl rfl ?_
      refine mg_get (pc := 69) C 0 rfl rfl inX9 0 (by decide) wm_874 rfl rfl dX9_sinkable_69 ?_
      refine mg_bipush (pc := 72) C dX9_sinkable_72 (v := 33) (by decide) ?_
      refine mg_ialdK (pc := 74) C 1 33 rfl dX9_sinkable_74 (by decide) (by decide) ?_
      refine mg_icmp_ge (pc := 75) (tgt := 138) C dX9_sinkable_75 (by decide) hf (fun hf => ?_) (fun hf => ?_)
      · obtain rfl := Option.some.inj hf
        refine mg_lv [2, 3] rfl ?_
        exact X0
      · refine mg_aload_n (pc := 78) C 0 dX9_sinkable_78 rfl rfl ?_
        refine mg_get (pc := 79) C 0 rfl rfl inX9 0 (by decide) wm_874 rfl rfl dX9_sinkable_79 ?_
        refine mg_bipush (pc := 82) C dX9_sinkable_82 (v := 34) (by decide) ?_
        refine mg_iconst (pc := 84) C dX9_sinkable_84 (v := 3) (by decide) ?_
        refine mg_iload (pc := 85) C 4 dX9_sinkable_85 rfl ?_
        refine mg_imul (pc := 87) C dX9_sinkable_87 ?_
        refine mg_iadd (pc := 88) C dX9_sinkable_88 ?_
        refine mg_iconst (pc := 89) C dX9_sinkable_89 (v := 1) (by decide) ?_
        refine mg_iadd (pc := 90) C dX9_sinkable_90 ?_
        refine mg_iald (pc := 91) C 1 rfl dX9_sinkable_91 hf (fun hf => ?_)
        refine mg_istore (pc := 92) C (lv' := [(6, .int (v_t_s (Int32.toNatClampNeg ((34 + (3 * x5)) + 1)))), (0, .ref a_t), (1, .int x1), (3, .int x3), (4, .int x4), (5, .int x5)]) dX9_sinkable_92 (by decide) rfl ?_
        refine mg_aload_n (pc := 94) C 1 dX9_sinkable_94 rfl rfl ?_
        refine mg_get (pc := 95) C 0 rfl rfl inX9 0 (by decide) wm_874 rfl rfl dX9_sinkable_95 ?_
        refine mg_bipush (pc := 98) C dX9_sinkable_98 (v := 34) (by decide) ?_
        refine mg_iconst (pc := 100) C dX9_sinkable_100 (v := 3) (by decide) ?_
        refine mg_iload (pc := 101) C 5 dX9_sinkable_101 rfl ?_
        refine mg_imul (pc := 103) C dX9_sinkable_103 ?_
        refine mg_iadd (pc := 104) C dX9_sinkable_104 ?_
        refine mg_iald (pc := 105) C 1 rfl dX9_sinkable_105 hf (fun hf => ?_)
        refine mg_iload_n (pc := 106) C 2 dX9_sinkable_106 rfl rfl ?_
        refine mg_icmp_ne (pc := 107) (tgt := 128) C dX9_sinkable_107 (by decide) hf (fun hf => ?_) (fun hf => ?_)
        · refine mg_iload (pc := 128) C 4 dX9_sinkable_128 rfl ?_
          refine mg_istore (pc := 130) C (lv' := [(4, .int x4), (6, .int (v_t_s (Int32.toNatClampNeg ((34 + (3 * x5)) + 1)))), (0, .ref a_t), (1, .int x1), (3, .int x3), (5, .int x5)]) dX9_sinkable_130 (by decide) rfl ?_
          refine mg_iinc (pc := 132) C (c := 1) (lv' := [(5, .int (x5 + 1)), (4, .int x4), (6, .int (v_t_s (Int32.toNatClampNeg ((34 + (3 * x5)) + 1)))), (0, .ref a_t), (1, .int x1), (3, .int x3)]) 5 dX9_sinkable_132 rfl (by decide) (by decide) rfl ?_
          refine mg_goto (pc := 135) (tgt := 66) C dX9_sinkable_135 (by decide) ?_
          refine mg_lv [3, 4, 5, 1, 0] rfl ?_
          exact ih x4 (x5 + 1) _ hf X0
        · refine mg_iload (pc := 110) C 0 dX9_sinkable_110 rfl ?_
          refine mg_iload_n (pc := 112) C 3 dX9_sinkable_112 rfl rfl ?_
          refine mg_icmp_lt (pc := 113) (tgt := 128) C dX9_sinkable_113 (by decide) hf (fun hf => ?_) (fun hf => ?_)
          · refine mg_iload (pc := 128) C 4 dX9_sinkable_128 rfl ?_
            refine mg_istore (pc := 130) C (lv' := [(4, .int x4), (6, .int (v_t_s (Int32.toNatClampNeg ((34 + (3 * x5)) + 1)))), (0, .ref a_t), (1, .int x1), (3, .int x3), (5, .int x5)]) dX9_sinkable_130 (by decide) rfl ?_
            refine mg_iinc (pc := 132) C (c := 1) (lv' := [(5, .int (x5 + 1)), (4, .int x4), (6, .int (v_t_s (Int32.toNatClampNeg ((34 + (3 * x5)) + 1)))), (0, .ref a_t), (1, .int x1), (3, .int x3)]) 5 dX9_sinkable_132 rfl (by decide) (by decide) rfl ?_
            refine mg_goto (pc := 135) (tgt := 66) C dX9_sinkable_135 (by decide) ?_
            refine mg_lv [3, 4, 5, 1, 0] rfl ?_
            exact ih x4 (x5 + 1) _ hf X0
          · refine mg_iload (pc := 116) C 0 dX9_sinkable_116 rfl ?_
            refine mg_iload (pc := 118) C 4 dX9_sinkable_118 rfl ?_
            refine mg_icmp_ge (pc := 120) (tgt := 128) C dX9_sinkable_120 (by decide) hf (fun hf => ?_) (fun hf => ?_)
            · refine mg_iload (pc := 128) C 4 dX9_sinkable_128 rfl ?_
              refine mg_istore (pc := 130) C (lv' := [(4, .int x4), (6, .int (v_t_s (Int32.toNatClampNeg ((34 + (3 * x5)) + 1)))), (0, .ref a_t), (1, .int x1), (3, .int x3), (5, .int x5)]) dX9_sinkable_130 (by decide) rfl ?_
              refine mg_iinc (pc := 132) C (c := 1) (lv' := [(5, .int (x5 + 1)), (4, .int x4), (6, .int (v_t_s (Int32.toNatClampNeg ((34 + (3 * x5)) + 1)))), (0, .ref a_t), (1, .int x1), (3, .int x3)]) 5 dX9_sinkable_132 rfl (by decide) (by decide) rfl ?_
              refine mg_goto (pc := 135) (tgt := 66) C dX9_sinkable_135 (by decide) ?_
              refine mg_lv [3, 4, 5, 1, 0] rfl ?_
              exact ih x4 (x5 + 1) _ hf X0
            · refine mg_iload (pc := 123) C 0 dX9_sinkable_123 rfl ?_
              refine mg_goto (pc := 125) (tgt := 130) C dX9_sinkable_125 (by decide) ?_
              refine mg_istore (pc := 130) C (lv' := [(4, .int (v_t_s (Int32.toNatClampNeg ((34 + (3 * x5)) + 1)))), (6, .int (v_t_s (Int32.toNatClampNeg ((34 + (3 * x5)) + 1)))), (0, .ref a_t), (1, .int x1), (3, .int x3), (5, .int x5)]) dX9_sinkable_130 (by decide) rfl ?_
              refine mg_iinc (pc := 132) C (c := 1) (lv' := [(5, .int (x5 + 1)), (4, .int (v_t_s (Int32.toNatClampNeg ((34 + (3 * x5)) + 1)))), (6, .int (v_t_s (Int32.toNatClampNeg ((34 + (3 * x5)) + 1)))), (0, .ref a_t), (1, .int x1), (3, .int x3)]) 5 dX9_sinkable_132 rfl (by decide) (by decide) rfl ?_
              refine mg_goto (pc := 135) (tgt := 66) C dX9_sinkable_135 (by decide) ?_
              refine mg_lv [3, 4, 5, 1, 0] rfl ?_
              exact ih (v_t_s (Int32.toNatClampNeg ((34 + (3 * x5)) + 1))) (x5 + 1) _ hf X0
  have J61 : ∀ (x1 : Int32) (x3 : Int32) (y0 : Int32), f_X9_sinkable_J61 fuel v_t_s x1 x3 y0 = some q → mg z k A 7 0 0 Q (w_X9_sinkable k a_t a_t_s a_t_past a_t_aside a_t_text a_t_told a_t_bottoms a_t_planned v_t_pasts v_t_typed v_t_at v_t_kind v_t_from v_t_value v_t_planLength v_t_planAmount v_t_s) [(0, .ref a_t), (1, .int x1), (3, .int x3)] 61 [.int y0] := by
    intro x1 x3 y0 hf
    unfold f_X9_sinkable_J61 at hf
    refine mg_istore (pc := 61) C (lv' := [(4, .int y0), (0, .ref a_t), (1, .int x1), (3, .int x3)]) dX9_sinkable_61 (by decide) rfl ?_
    refine mg_iconst (pc := 63) C dX9_sinkable_63 (v := 0) (by decide) ?_
    refine mg_istore (pc := 64) C (lv' := [(5, .int 0), (4, .int y0), (0, .ref a_t), (1, .int x1), (3, .int x3)]) dX9_sinkable_64 (by decide) rfl ?_
    obtain ⟨q1, h2, hf⟩ := mg_b hf
    refine mg_lv [2, 3, 4, 1, 0] rfl ?_
    refine L66 x1 x3 fuel y0 0 q1 h2 ?_
    refine mg_iload (pc := 138) C 1 dX9_sinkable_138 rfl ?_
    refine mg_iload_n (pc := 140) C 0 dX9_sinkable_140 rfl rfl ?_
    refine mg_icmp_le (pc := 141) (tgt := 151) C dX9_sinkable_141 (by decide) hf (fun hf => ?_) (fun hf => ?_)
    · refine mg_iconst (pc := 151) C dX9_sinkable_151 (v := 0) (by decide) ?_
      obtain rfl := Option.some.inj hf
      exact E _ _ dX9_sinkable_152
    · refine mg_iload (pc := 144) C 1 dX9_sinkable_144 rfl ?_
      refine mg_iload_n (pc := 146) C 0 dX9_sinkable_146 rfl rfl ?_
      refine mg_isub (pc := 147) C dX9_sinkable_147 ?_
      refine mg_goto (pc := 148) (tgt := 152) C dX9_sinkable_148 (by decide) ?_
      obtain rfl := Option.some.inj hf
      exact E _ _ dX9_sinkable_152
  have J43 : ∀ (x1 : Int32) (x3 : Int32) (y0 : Int32), f_X9_sinkable_J43 fuel v_t_s x1 x3 y0 = some q → mg z k A 7 0 0 Q (w_X9_sinkable k a_t a_t_s a_t_past a_t_aside a_t_text a_t_told a_t_bottoms a_t_planned v_t_pasts v_t_typed v_t_at v_t_kind v_t_from v_t_value v_t_planLength v_t_planAmount v_t_s) [(0, .ref a_t), (1, .int x1), (3, .int x3)] 43 [.int y0] := by
    intro x1 x3 y0 hf
    unfold f_X9_sinkable_J43 at hf
    refine mg_istore (pc := 43) C (lv' := [(4, .int y0), (0, .ref a_t), (1, .int x1), (3, .int x3)]) dX9_sinkable_43 (by decide) rfl ?_
    refine mg_iload (pc := 45) C 0 dX9_sinkable_45 rfl ?_
    refine mg_sipush (pc := 47) C dX9_sinkable_47 (v := 220) (by decide) ?_
    refine mg_icmp_le (pc := 50) (tgt := 59) C dX9_sinkable_50 (by decide) hf (fun hf => ?_) (fun hf => ?_)
    · refine mg_iload (pc := 59) C 0 dX9_sinkable_59 rfl ?_
      refine mg_lv [1, 2, 3] rfl ?_
      exact J61 x1 x3 y0 hf
    · refine mg_sipush (pc := 53) C dX9_sinkable_53 (v := 220) (by decide) ?_
      refine mg_goto (pc := 56) (tgt := 61) C dX9_sinkable_56 (by decide) ?_
      refine mg_lv [1, 2, 3] rfl ?_
      exact J61 x1 x3 220 hf
  refine mg_aload_n (pc := 0) C 0 dX9_sinkable_0 rfl rfl ?_
  refine mg_get (pc := 1) C 0 rfl rfl inX9 0 (by decide) wm_874 rfl rfl dX9_sinkable_1 ?_
  refine mg_bipush (pc := 4) C dX9_sinkable_4 (v := 117) (by decide) ?_
  refine mg_iload_n (pc := 6) C 1 dX9_sinkable_6 rfl rfl ?_
  refine mg_iadd (pc := 7) C dX9_sinkable_7 ?_
  refine mg_iald (pc := 8) C 1 rfl dX9_sinkable_8 hf (fun hf => ?_)
  refine mg_istore_n (pc := 9) C (lv' := [(3, .int (v_t_s (Int32.toNatClampNeg (117 + x1)))), (0, .ref a_t), (1, .int x1), (2, .int x2)]) dX9_sinkable_9 rfl (by decide) rfl ?_
  refine mg_iload_n (pc := 10) C 0 dX9_sinkable_10 rfl rfl ?_
  refine mg_iload_n (pc := 11) C 3 dX9_sinkable_11 rfl rfl ?_
  refine mg_iadd (pc := 12) C dX9_sinkable_12 ?_
  refine mg_istore (pc := 13) C (lv' := [(4, .int ((v_t_s (Int32.toNatClampNeg (117 + x1))) + x2)), (3, .int (v_t_s (Int32.toNatClampNeg (117 + x1)))), (0, .ref a_t), (1, .int x1), (2, .int x2)]) dX9_sinkable_13 (by decide) rfl ?_
  refine mg_iload (pc := 15) C 0 dX9_sinkable_15 rfl ?_
  refine mg_aload_n (pc := 17) C 2 dX9_sinkable_17 rfl rfl ?_
  refine mg_get (pc := 18) C 0 rfl rfl inX9 0 (by decide) wm_874 rfl rfl dX9_sinkable_18 ?_
  refine mg_iconst (pc := 21) C dX9_sinkable_21 (v := 2) (by decide) ?_
  refine mg_ialdK (pc := 22) C 1 2 rfl dX9_sinkable_22 (by decide) (by decide) ?_
  refine mg_bipush (pc := 23) C dX9_sinkable_23 (v := 12) (by decide) ?_
  refine mg_iadd (pc := 25) C dX9_sinkable_25 ?_
  refine mg_icmp_le (pc := 26) (tgt := 41) C dX9_sinkable_26 (by decide) hf (fun hf => ?_) (fun hf => ?_)
  · refine mg_iload (pc := 41) C 0 dX9_sinkable_41 rfl ?_
    refine mg_lv [2, 3, 1] rfl ?_
    exact J43 x1 (v_t_s (Int32.toNatClampNeg (117 + x1))) ((v_t_s (Int32.toNatClampNeg (117 + x1))) + x2) hf
  · refine mg_aload_n (pc := 29) C 2 dX9_sinkable_29 rfl rfl ?_
    refine mg_get (pc := 30) C 0 rfl rfl inX9 0 (by decide) wm_874 rfl rfl dX9_sinkable_30 ?_
    refine mg_iconst (pc := 33) C dX9_sinkable_33 (v := 2) (by decide) ?_
    refine mg_ialdK (pc := 34) C 1 2 rfl dX9_sinkable_34 (by decide) (by decide) ?_
    refine mg_bipush (pc := 35) C dX9_sinkable_35 (v := 12) (by decide) ?_
    refine mg_iadd (pc := 37) C dX9_sinkable_37 ?_
    refine mg_goto (pc := 38) (tgt := 43) C dX9_sinkable_38 (by decide) ?_
    refine mg_lv [2, 3, 1] rfl ?_
    exact J43 x1 (v_t_s (Int32.toNatClampNeg (117 + x1))) ((v_t_s 2) + 12) hf
abbrev w_X9_appendCharacter (k : mg_K) (a_t a_t_s a_t_past a_t_aside a_t_text a_t_told a_t_bottoms a_t_planned : Nat) (v_t_pasts : Int32) (v_t_typed : Int32) (v_t_at : Int32) (v_t_kind : Int32) (v_t_from : Int32) (v_t_value : Int32) (v_t_planLength : Int32) (v_t_planAmount : Int32) (v_t_text : Nat → Int32) : va_W := [(a_t, .inr (9, [.ref a_t_s, .ref a_t_past, .ref a_t_aside, .int v_t_pasts, .ref a_t_text, .int v_t_typed, .int v_t_at, .int v_t_kind, .int v_t_from, .int v_t_value, .ref a_t_told, .ref a_t_bottoms, .ref a_t_planned, .int v_t_planLength, .int v_t_planAmount])), (a_t_text, .inl (k.2.1, 200, .inl v_t_text))]
def f_X9_appendCharacter (v_t_typed : Int32) (v_t_text : Nat → Int32) (x1 : Int32) : Option (Int32 × Int32 × (Nat → Int32)) := (f_X9_in x1 0 255).bind (fun q1 => if q1 = 0 then (some ((-1000001), v_t_typed, v_t_text)) else (if v_t_typed = 200 then (some ((-1000003), v_t_typed, v_t_text)) else (if mg_ix v_t_typed 200 = true then (some (v_t_typed + 1, v_t_typed + 1, upd v_t_text (Int32.toNatClampNeg v_t_typed) x1)) else none)))
theorem Y_X9_appendCharacter : mg_Y yX9_appendCharacter cX9_appendCharacter 2 (some .int) 1 := ⟨wm_921, wm_922, wm_11, wm_923, ⟨by decide +kernel, by decide +kernel, by decide +kernel⟩, by decide⟩
set_option maxRecDepth 100000 in
set_option maxHeartbeats 4000000 in
theorem c_X9_appendCharacter (l : Launch) (k : mg_K) (a_t a_t_s a_t_past a_t_aside a_t_text a_t_told a_t_bottoms a_t_planned : Nat) (v_t_pasts : Int32) (v_t_typed : Int32) (v_t_at : Int32) (v_t_kind : Int32) (v_t_from : Int32) (v_t_value : Int32) (v_t_planLength : Int32) (v_t_planAmount : Int32) (v_t_text : Nat → Int32) (x1 : Int32) (q : Int32 × Int32 × (Nat → Int32)) (hf : f_X9_appendCharacter v_t_typed v_t_text x1 = some q) : mg_M l yX9_appendCharacter cX9_appendCharacter 2 (some .int) 1 k [.ref a_t, .int x1] (w_X9_appendCharacter k a_t a_t_s a_t_past a_t_aside a_t_text a_t_told a_t_bottoms a_t_planned v_t_pasts v_t_typed v_t_at v_t_kind v_t_from v_t_value v_t_planLength v_t_planAmount v_t_text) (w_X9_appendCharacter k a_t a_t_s a_t_past a_t_aside a_t_text a_t_told a_t_bottoms a_t_planned v_t_pasts q.2.1 v_t_at v_t_kind v_t_from v_t_value v_t_planLength v_t_planAmount q.2.2) (some (.int q.1)) := by
  refine mg_Mi RX9 [(0, .ref a_t), (1, .int x1)] (by decide +kernel) rfl rfl (Nat.le_of_ble_eq_true rfl) ?_
  intro z A Q hl C E
  subst hl
  unfold f_X9_appendCharacter at hf
  refine mg_iload_n (pc := 0) C 1 dX9_appendCharacter_0 rfl rfl ?_
  refine mg_iconst (pc := 1) C dX9_appendCharacter_1 (v := 0) (by decide) ?_
  refine mg_sipush (pc := 2) C dX9_appendCharacter_2 (v := 255) (by decide) ?_
  obtain ⟨q1, h2, hf⟩ := mg_b hf
  refine mg_callS (pc := 5) C (w2 := w_X9_appendCharacter k a_t a_t_s a_t_past a_t_aside a_t_text a_t_told a_t_bottoms a_t_planned v_t_pasts v_t_typed v_t_at v_t_kind v_t_from v_t_value v_t_planLength v_t_planAmount v_t_text) (c_X9_in z.2.1 k x1 0 255 q1 h2) Y_X9_in wm_924 (by decide) rfl [] rfl (by decide) rfl [none, none] (by decide) rfl (Nat.le_of_ble_eq_true rfl) rfl dX9_appendCharacter_5 ?_
  refine mg_if_ne (pc := 8) (tgt := 14) C dX9_appendCharacter_8 (by decide) hf (fun hf => ?_) (fun hf => ?_)
  · refine mg_aload_n (pc := 14) C 0 dX9_appendCharacter_14 rfl rfl ?_
    refine mg_get (pc := 15) C 0 rfl rfl inX9 5 (by decide) wm_879 rfl rfl dX9_appendCharacter_15 ?_
    refine mg_sipush (pc := 18) C dX9_appendCharacter_18 (v := 200) (by decide) ?_
    refine mg_icmp_ne (pc := 21) (tgt := 27) C dX9_appendCharacter_21 (by decide) hf (fun hf => ?_) (fun hf => ?_)
    · refine mg_aload_n (pc := 27) C 0 dX9_appendCharacter_27 rfl rfl ?_
      refine mg_get (pc := 28) C 0 rfl rfl inX9 4 (by decide) wm_878 rfl rfl dX9_appendCharacter_28 ?_
      refine mg_aload_n (pc := 31) C 0 dX9_appendCharacter_31 rfl rfl ?_
      refine mg_get (pc := 32) C 0 rfl rfl inX9 5 (by decide) wm_879 rfl rfl dX9_appendCharacter_32 ?_
      refine mg_iload_n (pc := 35) C 1 dX9_appendCharacter_35 rfl rfl ?_
      refine mg_iast (pc := 36) C (w2 := w_X9_appendCharacter k a_t a_t_s a_t_past a_t_aside a_t_text a_t_told a_t_bottoms a_t_planned v_t_pasts v_t_typed v_t_at v_t_kind v_t_from v_t_value v_t_planLength v_t_planAmount (upd v_t_text (Int32.toNatClampNeg v_t_typed) x1)) 1 rfl dX9_appendCharacter_36 hf rfl (fun hf => ?_)
      refine mg_aload_n (pc := 37) C 0 dX9_appendCharacter_37 rfl rfl ?_
      refine mg_dup (pc := 38) C dX9_appendCharacter_38 rfl ?_
      refine mg_get (pc := 39) C 0 rfl rfl inX9 5 (by decide) wm_879 rfl rfl dX9_appendCharacter_39 ?_
      refine mg_iconst (pc := 42) C dX9_appendCharacter_42 (v := 1) (by decide) ?_
      refine mg_iadd (pc := 43) C dX9_appendCharacter_43 ?_
      refine mg_puti (pc := 44) C (w2 := w_X9_appendCharacter k a_t a_t_s a_t_past a_t_aside a_t_text a_t_told a_t_bottoms a_t_planned v_t_pasts (v_t_typed + 1) v_t_at v_t_kind v_t_from v_t_value v_t_planLength v_t_planAmount (upd v_t_text (Int32.toNatClampNeg v_t_typed) x1)) 0 rfl rfl inX9 5 (by decide) wm_879 rfl tyX9 tyX9_ok nmX9 rfl (by decide +kernel) (Nat.le_of_ble_eq_true rfl) rfl dX9_appendCharacter_44 ?_
      refine mg_aload_n (pc := 47) C 0 dX9_appendCharacter_47 rfl rfl ?_
      refine mg_get (pc := 48) C 0 rfl rfl inX9 5 (by decide) wm_879 rfl rfl dX9_appendCharacter_48 ?_
      obtain rfl := Option.some.inj hf
      exact E _ _ dX9_appendCharacter_51
    · refine mg_ldc (pc := 24) C wm_928 dX9_appendCharacter_24 ?_
      obtain rfl := Option.some.inj hf
      exact E _ _ dX9_appendCharacter_26
  · refine mg_ldc (pc := 11) C wm_927 dX9_appendCharacter_11 ?_
    obtain rfl := Option.some.inj hf
    exact E _ _ dX9_appendCharacter_13
abbrev w_X9_clearText (k : mg_K) (a_t a_t_s a_t_past a_t_aside a_t_text a_t_told a_t_bottoms a_t_planned : Nat) (v_t_pasts : Int32) (v_t_typed : Int32) (v_t_at : Int32) (v_t_kind : Int32) (v_t_from : Int32) (v_t_value : Int32) (v_t_planLength : Int32) (v_t_planAmount : Int32) : va_W := [(a_t, .inr (9, [.ref a_t_s, .ref a_t_past, .ref a_t_aside, .int v_t_pasts, .ref a_t_text, .int v_t_typed, .int v_t_at, .int v_t_kind, .int v_t_from, .int v_t_value, .ref a_t_told, .ref a_t_bottoms, .ref a_t_planned, .int v_t_planLength, .int v_t_planAmount]))]
def f_X9_clearText (v_t_typed : Int32) : Option (Int32 × Int32) := some (v_t_typed, 0)
theorem Y_X9_clearText : mg_Y yX9_clearText cX9_clearText 2 (some .int) 0 := ⟨wm_930, wm_931, wm_11, wm_932, ⟨by decide +kernel, by decide +kernel, by decide +kernel⟩, by decide⟩
set_option maxRecDepth 100000 in
set_option maxHeartbeats 4000000 in
theorem c_X9_clearText (l : Launch) (k : mg_K) (a_t a_t_s a_t_past a_t_aside a_t_text a_t_told a_t_bottoms a_t_planned : Nat) (v_t_pasts : Int32) (v_t_typed : Int32) (v_t_at : Int32) (v_t_kind : Int32) (v_t_from : Int32) (v_t_value : Int32) (v_t_planLength : Int32) (v_t_planAmount : Int32) (q : Int32 × Int32) (hf : f_X9_clearText v_t_typed = some q) : mg_M l yX9_clearText cX9_clearText 2 (some .int) 0 k [.ref a_t] (w_X9_clearText k a_t a_t_s a_t_past a_t_aside a_t_text a_t_told a_t_bottoms a_t_planned v_t_pasts v_t_typed v_t_at v_t_kind v_t_from v_t_value v_t_planLength v_t_planAmount) (w_X9_clearText k a_t a_t_s a_t_past a_t_aside a_t_text a_t_told a_t_bottoms a_t_planned v_t_pasts q.2 v_t_at v_t_kind v_t_from v_t_value v_t_planLength v_t_planAmount) (some (.int q.1)) := by
  refine mg_Mi RX9 [(0, .ref a_t)] (by decide +kernel) rfl rfl (Nat.le_of_ble_eq_true rfl) ?_
  intro z A Q hl C E
  subst hl
  unfold f_X9_clearText at hf
  refine mg_aload_n (pc := 0) C 0 dX9_clearText_0 rfl rfl ?_
  refine mg_get (pc := 1) C 0 rfl rfl inX9 5 (by decide) wm_879 rfl rfl dX9_clearText_1 ?_
  refine mg_istore_n (pc := 4) C (lv' := [(1, .int v_t_typed), (0, .ref a_t)]) dX9_clearText_4 rfl (by decide) rfl ?_
  refine mg_aload_n (pc := 5) C 1 dX9_clearText_5 rfl rfl ?_
  refine mg_iconst (pc := 6) C dX9_clearText_6 (v := 0) (by decide) ?_
  refine mg_puti (pc := 7) C (w2 := w_X9_clearText k a_t a_t_s a_t_past a_t_aside a_t_text a_t_told a_t_bottoms a_t_planned v_t_pasts 0 v_t_at v_t_kind v_t_from v_t_value v_t_planLength v_t_planAmount) 0 rfl rfl inX9 5 (by decide) wm_879 rfl tyX9 tyX9_ok nmX9 rfl (by decide +kernel) (Nat.le_of_ble_eq_true rfl) rfl dX9_clearText_7 ?_
  refine mg_iload_n (pc := 10) C 0 dX9_clearText_10 rfl rfl ?_
  obtain rfl := Option.some.inj hf
  exact E _ _ dX9_clearText_11
abbrev w_X9_isAt (k : mg_K) (a_t a_t_s a_t_past a_t_aside a_t_text a_t_told a_t_bottoms a_t_planned : Nat) (v_t_pasts : Int32) (v_t_typed : Int32) (v_t_at : Int32) (v_t_kind : Int32) (v_t_from : Int32) (v_t_value : Int32) (v_t_planLength : Int32) (v_t_planAmount : Int32) (v_t_text : Nat → Int32) : va_W := [(a_t, .inr (9, [.ref a_t_s, .ref a_t_past, .ref a_t_aside, .int v_t_pasts, .ref a_t_text, .int v_t_typed, .int v_t_at, .int v_t_kind, .int v_t_from, .int v_t_value, .ref a_t_told, .ref a_t_bottoms, .ref a_t_planned, .int v_t_planLength, .int v_t_planAmount])), (a_t_text, .inl (k.2.1, 200, .inl v_t_text))]
def f_X9_isAt (v_t_typed : Int32) (v_t_text : Nat → Int32) (x1 : Int32) (x2 : Int32) (x3 : Int32) : Option (Int32) := if v_t_typed ≤ x1 then (some 0) else (if mg_ix x1 200 = true then ((f_X9_in (v_t_text (Int32.toNatClampNeg x1)) x2 x3).bind (fun q1 => if q1 = 0 then (some 0) else (some 1))) else none)
theorem Y_X9_isAt : mg_Y yX9_isAt cX9_isAt 4 (some .boolean) 3 := ⟨wm_947, wp_22, wm_11, wm_948, ⟨by decide +kernel, by decide +kernel, by decide +kernel⟩, by decide⟩
set_option maxRecDepth 100000 in
set_option maxHeartbeats 4000000 in
theorem c_X9_isAt (l : Launch) (k : mg_K) (a_t a_t_s a_t_past a_t_aside a_t_text a_t_told a_t_bottoms a_t_planned : Nat) (v_t_pasts : Int32) (v_t_typed : Int32) (v_t_at : Int32) (v_t_kind : Int32) (v_t_from : Int32) (v_t_value : Int32) (v_t_planLength : Int32) (v_t_planAmount : Int32) (v_t_text : Nat → Int32) (x1 : Int32) (x2 : Int32) (x3 : Int32) (q : Int32) (hf : f_X9_isAt v_t_typed v_t_text x1 x2 x3 = some q) : mg_M l yX9_isAt cX9_isAt 4 (some .boolean) 1 k [.ref a_t, .int x1, .int x2, .int x3] (w_X9_isAt k a_t a_t_s a_t_past a_t_aside a_t_text a_t_told a_t_bottoms a_t_planned v_t_pasts v_t_typed v_t_at v_t_kind v_t_from v_t_value v_t_planLength v_t_planAmount v_t_text) (w_X9_isAt k a_t a_t_s a_t_past a_t_aside a_t_text a_t_told a_t_bottoms a_t_planned v_t_pasts v_t_typed v_t_at v_t_kind v_t_from v_t_value v_t_planLength v_t_planAmount v_t_text) (some (.int q)) := by
  refine mg_Mz RX9 [(0, .ref a_t), (1, .int x1), (2, .int x2), (3, .int x3)] (by decide +kernel) rfl rfl (Nat.le_of_ble_eq_true rfl) ?_
  intro z A Q hl C E
  subst hl
  unfold f_X9_isAt at hf
  refine mg_iload_n (pc := 0) C 1 dX9_isAt_0 rfl rfl ?_
  refine mg_aload_n (pc := 1) C 0 dX9_isAt_1 rfl rfl ?_
  refine mg_get (pc := 2) C 0 rfl rfl inX9 5 (by decide) wm_879 rfl rfl dX9_isAt_2 ?_
  refine mg_icmp_ge (pc := 5) (tgt := 26) C dX9_isAt_5 (by decide) hf (fun hf => ?_) (fun hf => ?_)
  · refine mg_iconst (pc := 26) C dX9_isAt_26 (v := 0) (by decide) ?_
    obtain rfl := Option.some.inj hf
    exact E mg_n0 _ _ dX9_isAt_27
  · refine mg_aload_n (pc := 8) C 0 dX9_isAt_8 rfl rfl ?_
    refine mg_get (pc := 9) C 0 rfl rfl inX9 4 (by decide) wm_878 rfl rfl dX9_isAt_9 ?_
    refine mg_iload_n (pc := 12) C 1 dX9_isAt_12 rfl rfl ?_
    refine mg_iald (pc := 13) C 1 rfl dX9_isAt_13 hf (fun hf => ?_)
    refine mg_iload_n (pc := 14) C 2 dX9_isAt_14 rfl rfl ?_
    refine mg_iload_n (pc := 15) C 3 dX9_isAt_15 rfl rfl ?_
    obtain ⟨q1, h2, hf⟩ := mg_b hf
    refine mg_callS (pc := 16) C (w2 := w_X9_isAt k a_t a_t_s a_t_past a_t_aside a_t_text a_t_told a_t_bottoms a_t_planned v_t_pasts v_t_typed v_t_at v_t_kind v_t_from v_t_value v_t_planLength v_t_planAmount v_t_text) (c_X9_in z.2.1 k (v_t_text (Int32.toNatClampNeg x1)) x2 x3 q1 h2) Y_X9_in wm_924 (by decide) rfl [] rfl (by decide) rfl [none, none] (by decide) rfl (Nat.le_of_ble_eq_true rfl) rfl dX9_isAt_16 ?_
    refine mg_if_eq (pc := 19) (tgt := 26) C dX9_isAt_19 (by decide) hf (fun hf => ?_) (fun hf => ?_)
    · refine mg_iconst (pc := 26) C dX9_isAt_26 (v := 0) (by decide) ?_
      obtain rfl := Option.some.inj hf
      exact E mg_n0 _ _ dX9_isAt_27
    · refine mg_iconst (pc := 22) C dX9_isAt_22 (v := 1) (by decide) ?_
      refine mg_goto (pc := 23) (tgt := 27) C dX9_isAt_23 (by decide) ?_
      obtain rfl := Option.some.inj hf
      exact E mg_n1 _ _ dX9_isAt_27
abbrev w_X9_token (k : mg_K) (a_t a_t_s a_t_past a_t_aside a_t_text a_t_told a_t_bottoms a_t_planned : Nat) (v_t_pasts : Int32) (v_t_typed : Int32) (v_t_at : Int32) (v_t_kind : Int32) (v_t_from : Int32) (v_t_value : Int32) (v_t_planLength : Int32) (v_t_planAmount : Int32) (v_t_text : Nat → Int32) : va_W := [(a_t, .inr (9, [.ref a_t_s, .ref a_t_past, .ref a_t_aside, .int v_t_pasts, .ref a_t_text, .int v_t_typed, .int v_t_at, .int v_t_kind, .int v_t_from, .int v_t_value, .ref a_t_told, .ref a_t_bottoms, .ref a_t_planned, .int v_t_planLength, .int v_t_planAmount])), (a_t_text, .inl (k.2.1, 200, .inl v_t_text))]
def f_X9_token_L128 (v_t_typed : Int32) (v_t_from : Int32) (v_t_text : Nat → Int32) : Nat → Int32 → Int32 → Option (Int32 × Int32)
  | 0, _, _ => none
  | n_ + 1, v_t_at, v_t_value => (f_X9_isAt v_t_typed v_t_text v_t_at 48 57).bind (fun q7 => if q7 = 0 then (some ((v_t_at, v_t_value))) else (if 4 ≤ (v_t_at - v_t_from) then (f_X9_token_L128 v_t_typed v_t_from v_t_text n_ (v_t_at + 1) v_t_value) else (if mg_ix v_t_at 200 = true then (f_X9_token_L128 v_t_typed v_t_from v_t_text n_ (v_t_at + 1) (((10 * v_t_value) + (v_t_text (Int32.toNatClampNeg v_t_at))) - 48)) else none)))
def f_X9_token_L75 (v_t_typed : Int32) (v_t_text : Nat → Int32) : Nat → Int32 → Option (Int32)
  | 0, _ => none
  | n_ + 1, v_t_at => (f_X9_isAt v_t_typed v_t_text v_t_at 97 122).bind (fun q11 => if q11 = 0 then (some (v_t_at)) else (f_X9_token_L75 v_t_typed v_t_text n_ (v_t_at + 1)))
def f_X9_token_L0 (v_t_typed : Int32) (v_t_text : Nat → Int32) : Nat → Int32 → Option (Int32)
  | 0, _ => none
  | n_ + 1, v_t_at => (f_X9_isAt v_t_typed v_t_text v_t_at 32 32).bind (fun q15 => if q15 = 0 then (some (v_t_at)) else (f_X9_token_L0 v_t_typed v_t_text n_ (v_t_at + 1)))
def f_X9_token (fuel : Nat) (v_t_typed : Int32) (v_t_at : Int32) (v_t_value : Int32) (v_t_text : Nat → Int32) : Option (Int32 × Int32 × Int32 × Int32) := (f_X9_isAt v_t_typed v_t_text v_t_at 32 32).bind (fun q1 => if q1 = 0 then (if v_t_at = v_t_typed then (some (v_t_at, 0, v_t_at, v_t_value)) else ((f_X9_isAt v_t_typed v_t_text v_t_at 97 122).bind (fun q3 => if q3 = 0 then ((f_X9_isAt v_t_typed v_t_text v_t_at 48 57).bind (fun q5 => if q5 = 0 then (if mg_ix v_t_at 200 = true then (if (v_t_text (Int32.toNatClampNeg v_t_at)) = 59 then (some (v_t_at + 1, 3, v_t_at, v_t_value)) else (some (v_t_at + 1, 4, v_t_at, v_t_value))) else none) else ((f_X9_token_L128 v_t_typed v_t_at v_t_text fuel v_t_at 0).bind (fun q9 => if 4 < (q9.1 - v_t_at) then (some (q9.1, 4, v_t_at, q9.2)) else (if (q9.1 - v_t_at) ≤ 1 then (some (q9.1, 2, v_t_at, q9.2)) else (if mg_ix v_t_at 200 = true then (if (v_t_text (Int32.toNatClampNeg v_t_at)) = 48 then (some (q9.1, 4, v_t_at, q9.2)) else (some (q9.1, 2, v_t_at, q9.2))) else none)))))) else ((f_X9_token_L75 v_t_typed v_t_text fuel v_t_at).bind (fun q13 => some (q13, 1, v_t_at, v_t_value)))))) else ((f_X9_token_L0 v_t_typed v_t_text fuel (v_t_at + 1)).bind (fun q17 => if q17 = v_t_typed then (some (q17, 0, q17, v_t_value)) else ((f_X9_isAt v_t_typed v_t_text q17 97 122).bind (fun q19 => if q19 = 0 then ((f_X9_isAt v_t_typed v_t_text q17 48 57).bind (fun q21 => if q21 = 0 then (if mg_ix q17 200 = true then (if (v_t_text (Int32.toNatClampNeg q17)) = 59 then (some (q17 + 1, 3, q17, v_t_value)) else (some (q17 + 1, 4, q17, v_t_value))) else none) else ((f_X9_token_L128 v_t_typed q17 v_t_text fuel q17 0).bind (fun q23 => if 4 < (q23.1 - q17) then (some (q23.1, 4, q17, q23.2)) else (if (q23.1 - q17) ≤ 1 then (some (q23.1, 2, q17, q23.2)) else (if mg_ix q17 200 = true then (if (v_t_text (Int32.toNatClampNeg q17)) = 48 then (some (q23.1, 4, q17, q23.2)) else (some (q23.1, 2, q17, q23.2))) else none)))))) else ((f_X9_token_L75 v_t_typed v_t_text fuel q17).bind (fun q25 => some (q25, 1, q17, v_t_value))))))))
theorem Y_X9_token : mg_Y yX9_token cX9_token 1 none 0 := ⟨wm_943, wp_21, wm_11, wm_944, ⟨by decide +kernel, by decide +kernel, by decide +kernel⟩, by decide⟩
set_option maxRecDepth 100000 in
set_option maxHeartbeats 4000000 in
theorem c_X9_token (l : Launch) (k : mg_K) (a_t a_t_s a_t_past a_t_aside a_t_text a_t_told a_t_bottoms a_t_planned : Nat) (v_t_pasts : Int32) (v_t_typed : Int32) (v_t_at : Int32) (v_t_kind : Int32) (v_t_from : Int32) (v_t_value : Int32) (v_t_planLength : Int32) (v_t_planAmount : Int32) (v_t_text : Nat → Int32) (fuel : Nat) (q : Int32 × Int32 × Int32 × Int32) (hf : f_X9_token fuel v_t_typed v_t_at v_t_value v_t_text = some q) : mg_M l yX9_token cX9_token 1 none 2 k [.ref a_t] (w_X9_token k a_t a_t_s a_t_past a_t_aside a_t_text a_t_told a_t_bottoms a_t_planned v_t_pasts v_t_typed v_t_at v_t_kind v_t_from v_t_value v_t_planLength v_t_planAmount v_t_text) (w_X9_token k a_t a_t_s a_t_past a_t_aside a_t_text a_t_told a_t_bottoms a_t_planned v_t_pasts v_t_typed q.1 q.2.1 q.2.2.1 q.2.2.2 v_t_planLength v_t_planAmount v_t_text) none := by
  refine mg_Mv RX9 [(0, .ref a_t)] (by decide +kernel) rfl rfl (Nat.le_of_ble_eq_true rfl) ?_
  intro z A Q hl C E
  subst hl
  unfold f_X9_token at hf
  have L128 : ∀ (v_t_kind : Int32) (v_t_from : Int32) (n_ : Nat) (v_t_at : Int32) (v_t_value : Int32) (q_ : Int32 × Int32), f_X9_token_L128 v_t_typed v_t_from v_t_text n_ v_t_at v_t_value = some q_ → (mg z k A 1 0 0 Q (w_X9_token k a_t a_t_s a_t_past a_t_aside a_t_text a_t_told a_t_bottoms a_t_planned v_t_pasts v_t_typed q_.1 v_t_kind v_t_from q_.2 v_t_planLength v_t_planAmount v_t_text) [(0, .ref a_t)] 200 []) → mg z k A 1 0 0 Q (w_X9_token k a_t a_t_s a_t_past a_t_aside a_t_text a_t_told a_t_bottoms a_t_planned v_t_pasts v_t_typed v_t_at v_t_kind v_t_from v_t_value v_t_planLength v_t_planAmount v_t_text) [(0, .ref a_t)] 128 [] := by
    intro v_t_kind v_t_from n_
    induction n_ with
    | zero => intro v_t_at v_t_value q_ hf; exact mg_no (show none = some q_ from hf)
    | succ n_ ih =>
      intro v_t_at v_t_value q_ hf X0
      rw [f_X9_token_L128] at hf
      refine mg_aload_n (pc := 128) C 0 dX9_token_128 rfl rfl ?_
      refine mg_aload_n (pc := 129) C 0 dX9_token_129 rfl rfl ?_
      refine mg_get (pc := 130) C 0 rfl rfl inX9 6 (by decide) wm_880 rfl rfl dX9_token_130 ?_
      refine mg_bipush (pc := 133) C dX9_token_133 (v := 48) (by decide) ?_
      refine mg_bipush (pc := 135) C dX9_token_135 (v := 57) (by decide) ?_
      obtain ⟨q7, h8, hf⟩ := mg_b hf
      refine mg_callV (pc := 137) C (w2 := w_X9_token k a_t a_t_s a_t_past a_t_aside a_t_text a_t_told a_t_bottoms a_t_planned v_t_pasts v_t_typed v_t_at v_t_kind v_t_from v_t_value v_t_planLength v_t_planAmount v_t_text) (c_X9_isAt z.2.1 k a_t a_t_s a_t_past a_t_aside a_t_text a_t_told a_t_bottoms a_t_planned v_t_pasts v_t_typed v_t_at v_t_kind v_t_from v_t_value v_t_planLength v_t_planAmount v_t_text v_t_at 48 57 q7 h8) Y_X9_isAt wm_945 (by decide) rfl 0 rfl rfl rfl [0, 1] rfl (by decide) rfl [some 0, some 1] (by decide) rfl (Nat.le_of_ble_eq_true rfl) rfl dX9_token_137 ?_
      refine mg_if_eq (pc := 140) (tgt := 200) C dX9_token_140 (by decide) hf (fun hf => ?_) (fun hf => ?_)
      · obtain rfl := Option.some.inj hf
        exact X0
      · refine mg_aload_n (pc := 143) C 0 dX9_token_143 rfl rfl ?_
        refine mg_aload_n (pc := 144) C 0 dX9_token_144 rfl rfl ?_
        refine mg_get (pc := 145) C 0 rfl rfl inX9 6 (by decide) wm_880 rfl rfl dX9_token_145 ?_
        refine mg_aload_n (pc := 148) C 0 dX9_token_148 rfl rfl ?_
        refine mg_get (pc := 149) C 0 rfl rfl inX9 8 (by decide) wm_882 rfl rfl dX9_token_149 ?_
        refine mg_isub (pc := 152) C dX9_token_152 ?_
        refine mg_iconst (pc := 153) C dX9_token_153 (v := 4) (by decide) ?_
        refine mg_icmp_ge (pc := 154) (tgt := 180) C dX9_token_154 (by decide) hf (fun hf => ?_) (fun hf => ?_)
        · refine mg_aload_n (pc := 180) C 0 dX9_token_180 rfl rfl ?_
          refine mg_get (pc := 181) C 0 rfl rfl inX9 9 (by decide) wm_883 rfl rfl dX9_token_181 ?_
          refine mg_puti (pc := 184) C (w2 := w_X9_token k a_t a_t_s a_t_past a_t_aside a_t_text a_t_told a_t_bottoms a_t_planned v_t_pasts v_t_typed v_t_at v_t_kind v_t_from v_t_value v_t_planLength v_t_planAmount v_t_text) 0 rfl rfl inX9 9 (by decide) wm_883 rfl tyX9 tyX9_ok nmX9 rfl (by decide +kernel) (Nat.le_of_ble_eq_true rfl) rfl dX9_token_184 ?_
          refine mg_aload_n (pc := 187) C 0 dX9_token_187 rfl rfl ?_
          refine mg_dup (pc := 188) C dX9_token_188 rfl ?_
          refine mg_get (pc := 189) C 0 rfl rfl inX9 6 (by decide) wm_880 rfl rfl dX9_token_189 ?_
          refine mg_iconst (pc := 192) C dX9_token_192 (v := 1) (by decide) ?_
          refine mg_iadd (pc := 193) C dX9_token_193 ?_
          refine mg_puti (pc := 194) C (w2 := w_X9_token k a_t a_t_s a_t_past a_t_aside a_t_text a_t_told a_t_bottoms a_t_planned v_t_pasts v_t_typed (v_t_at + 1) v_t_kind v_t_from v_t_value v_t_planLength v_t_planAmount v_t_text) 0 rfl rfl inX9 6 (by decide) wm_880 rfl tyX9 tyX9_ok nmX9 rfl (by decide +kernel) (Nat.le_of_ble_eq_true rfl) rfl dX9_token_194 ?_
          refine mg_goto (pc := 197) (tgt := 128) C dX9_token_197 (by decide) ?_
          exact ih (v_t_at + 1) v_t_value _ hf X0
        · refine mg_bipush (pc := 157) C dX9_token_157 (v := 10) (by decide) ?_
          refine mg_aload_n (pc := 159) C 0 dX9_token_159 rfl rfl ?_
          refine mg_get (pc := 160) C 0 rfl rfl inX9 9 (by decide) wm_883 rfl rfl dX9_token_160 ?_
          refine mg_imul (pc := 163) C dX9_token_163 ?_
          refine mg_aload_n (pc := 164) C 0 dX9_token_164 rfl rfl ?_
          refine mg_get (pc := 165) C 0 rfl rfl inX9 4 (by decide) wm_878 rfl rfl dX9_token_165 ?_
          refine mg_aload_n (pc := 168) C 0 dX9_token_168 rfl rfl ?_
          refine mg_get (pc := 169) C 0 rfl rfl inX9 6 (by decide) wm_880 rfl rfl dX9_token_169 ?_
          refine mg_iald (pc := 172) C 1 rfl dX9_token_172 hf (fun hf => ?_)
          refine mg_iadd (pc := 173) C dX9_token_173 ?_
          refine mg_bipush (pc := 174) C dX9_token_174 (v := 48) (by decide) ?_
          refine mg_isub (pc := 176) C dX9_token_176 ?_
          refine mg_goto (pc := 177) (tgt := 184) C dX9_token_177 (by decide) ?_
          refine mg_puti (pc := 184) C (w2 := w_X9_token k a_t a_t_s a_t_past a_t_aside a_t_text a_t_told a_t_bottoms a_t_planned v_t_pasts v_t_typed v_t_at v_t_kind v_t_from (((10 * v_t_value) + (v_t_text (Int32.toNatClampNeg v_t_at))) - 48) v_t_planLength v_t_planAmount v_t_text) 0 rfl rfl inX9 9 (by decide) wm_883 rfl tyX9 tyX9_ok nmX9 rfl (by decide +kernel) (Nat.le_of_ble_eq_true rfl) rfl dX9_token_184 ?_
          refine mg_aload_n (pc := 187) C 0 dX9_token_187 rfl rfl ?_
          refine mg_dup (pc := 188) C dX9_token_188 rfl ?_
          refine mg_get (pc := 189) C 0 rfl rfl inX9 6 (by decide) wm_880 rfl rfl dX9_token_189 ?_
          refine mg_iconst (pc := 192) C dX9_token_192 (v := 1) (by decide) ?_
          refine mg_iadd (pc := 193) C dX9_token_193 ?_
          refine mg_puti (pc := 194) C (w2 := w_X9_token k a_t a_t_s a_t_past a_t_aside a_t_text a_t_told a_t_bottoms a_t_planned v_t_pasts v_t_typed (v_t_at + 1) v_t_kind v_t_from (((10 * v_t_value) + (v_t_text (Int32.toNatClampNeg v_t_at))) - 48) v_t_planLength v_t_planAmount v_t_text) 0 rfl rfl inX9 6 (by decide) wm_880 rfl tyX9 tyX9_ok nmX9 rfl (by decide +kernel) (Nat.le_of_ble_eq_true rfl) rfl dX9_token_194 ?_
          refine mg_goto (pc := 197) (tgt := 128) C dX9_token_197 (by decide) ?_
          exact ih (v_t_at + 1) (((10 * v_t_value) + (v_t_text (Int32.toNatClampNeg v_t_at))) - 48) _ hf X0
  have L75 : ∀ (v_t_kind : Int32) (v_t_from : Int32) (v_t_value : Int32) (n_ : Nat) (v_t_at : Int32) (q_ : Int32), f_X9_token_L75 v_t_typed v_t_text n_ v_t_at = some q_ → (mg z k A 1 0 0 Q (w_X9_token k a_t a_t_s a_t_past a_t_aside a_t_text a_t_told a_t_bottoms a_t_planned v_t_pasts v_t_typed q_ v_t_kind v_t_from v_t_value v_t_planLength v_t_planAmount v_t_text) [] 285 []) → mg z k A 1 0 0 Q (w_X9_token k a_t a_t_s a_t_past a_t_aside a_t_text a_t_told a_t_bottoms a_t_planned v_t_pasts v_t_typed v_t_at v_t_kind v_t_from v_t_value v_t_planLength v_t_planAmount v_t_text) [(0, .ref a_t)] 75 [] := by
    intro v_t_kind v_t_from v_t_value n_
    induction n_ with
    | zero => intro v_t_at q_ hf; exact mg_no (show none = some q_ from hf)
    | succ n_ ih =>
      intro v_t_at q_ hf X0
      rw [f_X9_token_L75] at hf
      refine mg_aload_n (pc := 75) C 0 dX9_token_75 rfl rfl ?_
      refine mg_aload_n (pc := 76) C 0 dX9_token_76 rfl rfl ?_
      refine mg_get (pc := 77) C 0 rfl rfl inX9 6 (by decide) wm_880 rfl rfl dX9_token_77 ?_
      refine mg_bipush (pc := 80) C dX9_token_80 (v := 97) (by decide) ?_
      refine mg_bipush (pc := 82) C dX9_token_82 (v := 122) (by decide) ?_
      obtain ⟨q11, h12, hf⟩ := mg_b hf
      refine mg_callV (pc := 84) C (w2 := w_X9_token k a_t a_t_s a_t_past a_t_aside a_t_text a_t_told a_t_bottoms a_t_planned v_t_pasts v_t_typed v_t_at v_t_kind v_t_from v_t_value v_t_planLength v_t_planAmount v_t_text) (c_X9_isAt z.2.1 k a_t a_t_s a_t_past a_t_aside a_t_text a_t_told a_t_bottoms a_t_planned v_t_pasts v_t_typed v_t_at v_t_kind v_t_from v_t_value v_t_planLength v_t_planAmount v_t_text v_t_at 97 122 q11 h12) Y_X9_isAt wm_945 (by decide) rfl 0 rfl rfl rfl [0, 1] rfl (by decide) rfl [some 0, some 1] (by decide) rfl (Nat.le_of_ble_eq_true rfl) rfl dX9_token_84 ?_
      refine mg_if_eq (pc := 87) (tgt := 285) C dX9_token_87 (by decide) hf (fun hf => ?_) (fun hf => ?_)
      · obtain rfl := Option.some.inj hf
        refine mg_lv [] rfl ?_
        exact X0
      · refine mg_aload_n (pc := 90) C 0 dX9_token_90 rfl rfl ?_
        refine mg_dup (pc := 91) C dX9_token_91 rfl ?_
        refine mg_get (pc := 92) C 0 rfl rfl inX9 6 (by decide) wm_880 rfl rfl dX9_token_92 ?_
        refine mg_iconst (pc := 95) C dX9_token_95 (v := 1) (by decide) ?_
        refine mg_iadd (pc := 96) C dX9_token_96 ?_
        refine mg_puti (pc := 97) C (w2 := w_X9_token k a_t a_t_s a_t_past a_t_aside a_t_text a_t_told a_t_bottoms a_t_planned v_t_pasts v_t_typed (v_t_at + 1) v_t_kind v_t_from v_t_value v_t_planLength v_t_planAmount v_t_text) 0 rfl rfl inX9 6 (by decide) wm_880 rfl tyX9 tyX9_ok nmX9 rfl (by decide +kernel) (Nat.le_of_ble_eq_true rfl) rfl dX9_token_97 ?_
        refine mg_goto (pc := 100) (tgt := 75) C dX9_token_100 (by decide) ?_
        exact ih (v_t_at + 1) _ hf X0
  have L0 : ∀ (v_t_kind : Int32) (v_t_from : Int32) (v_t_value : Int32) (n_ : Nat) (v_t_at : Int32) (q_ : Int32), f_X9_token_L0 v_t_typed v_t_text n_ v_t_at = some q_ → (mg z k A 1 0 0 Q (w_X9_token k a_t a_t_s a_t_past a_t_aside a_t_text a_t_told a_t_bottoms a_t_planned v_t_pasts v_t_typed q_ v_t_kind v_t_from v_t_value v_t_planLength v_t_planAmount v_t_text) [(0, .ref a_t)] 28 []) → mg z k A 1 0 0 Q (w_X9_token k a_t a_t_s a_t_past a_t_aside a_t_text a_t_told a_t_bottoms a_t_planned v_t_pasts v_t_typed v_t_at v_t_kind v_t_from v_t_value v_t_planLength v_t_planAmount v_t_text) [(0, .ref a_t)] 0 [] := by
    intro v_t_kind v_t_from v_t_value n_
    induction n_ with
    | zero => intro v_t_at q_ hf; exact mg_no (show none = some q_ from hf)
    | succ n_ ih =>
      intro v_t_at q_ hf X0
      rw [f_X9_token_L0] at hf
      refine mg_aload_n (pc := 0) C 0 dX9_token_0 rfl rfl ?_
      refine mg_aload_n (pc := 1) C 0 dX9_token_1 rfl rfl ?_
      refine mg_get (pc := 2) C 0 rfl rfl inX9 6 (by decide) wm_880 rfl rfl dX9_token_2 ?_
      refine mg_bipush (pc := 5) C dX9_token_5 (v := 32) (by decide) ?_
      refine mg_bipush (pc := 7) C dX9_token_7 (v := 32) (by decide) ?_
      obtain ⟨q15, h16, hf⟩ := mg_b hf
      refine mg_callV (pc := 9) C (w2 := w_X9_token k a_t a_t_s a_t_past a_t_aside a_t_text a_t_told a_t_bottoms a_t_planned v_t_pasts v_t_typed v_t_at v_t_kind v_t_from v_t_value v_t_planLength v_t_planAmount v_t_text) (c_X9_isAt z.2.1 k a_t a_t_s a_t_past a_t_aside a_t_text a_t_told a_t_bottoms a_t_planned v_t_pasts v_t_typed v_t_at v_t_kind v_t_from v_t_value v_t_planLength v_t_planAmount v_t_text v_t_at 32 32 q15 h16) Y_X9_isAt wm_945 (by decide) rfl 0 rfl rfl rfl [0, 1] rfl (by decide) rfl [some 0, some 1] (by decide) rfl (Nat.le_of_ble_eq_true rfl) rfl dX9_token_9 ?_
      refine mg_if_eq (pc := 12) (tgt := 28) C dX9_token_12 (by decide) hf (fun hf => ?_) (fun hf => ?_)
      · obtain rfl := Option.some.inj hf
        exact X0
      · refine mg_aload_n (pc := 15) C 0 dX9_token_15 rfl rfl ?_
        refine mg_dup (pc := 16) C dX9_token_16 rfl ?_
        refine mg_get (pc := 17) C 0 rfl rfl inX9 6 (by decide) wm_880 rfl rfl dX9_token_17 ?_
        refine mg_iconst (pc := 20) C dX9_token_20 (v := 1) (by decide) ?_
        refine mg_iadd (pc := 21) C dX9_token_21 ?_
        refine mg_puti (pc := 22) C (w2 := w_X9_token k a_t a_t_s a_t_past a_t_aside a_t_text a_t_told a_t_bottoms a_t_planned v_t_pasts v_t_typed (v_t_at + 1) v_t_kind v_t_from v_t_value v_t_planLength v_t_planAmount v_t_text) 0 rfl rfl inX9 6 (by decide) wm_880 rfl tyX9 tyX9_ok nmX9 rfl (by decide +kernel) (Nat.le_of_ble_eq_true rfl) rfl dX9_token_22 ?_
        refine mg_goto (pc := 25) (tgt := 0) C dX9_token_25 (by decide) ?_
        exact ih (v_t_at + 1) _ hf X0
  refine mg_aload_n (pc := 0) C 0 dX9_token_0 rfl rfl ?_
  refine mg_aload_n (pc := 1) C 0 dX9_token_1 rfl rfl ?_
  refine mg_get (pc := 2) C 0 rfl rfl inX9 6 (by decide) wm_880 rfl rfl dX9_token_2 ?_
  refine mg_bipush (pc := 5) C dX9_token_5 (v := 32) (by decide) ?_
  refine mg_bipush (pc := 7) C dX9_token_7 (v := 32) (by decide) ?_
  obtain ⟨q1, h2, hf⟩ := mg_b hf
  refine mg_callV (pc := 9) C (w2 := w_X9_token k a_t a_t_s a_t_past a_t_aside a_t_text a_t_told a_t_bottoms a_t_planned v_t_pasts v_t_typed v_t_at v_t_kind v_t_from v_t_value v_t_planLength v_t_planAmount v_t_text) (c_X9_isAt z.2.1 k a_t a_t_s a_t_past a_t_aside a_t_text a_t_told a_t_bottoms a_t_planned v_t_pasts v_t_typed v_t_at v_t_kind v_t_from v_t_value v_t_planLength v_t_planAmount v_t_text v_t_at 32 32 q1 h2) Y_X9_isAt wm_945 (by decide) rfl 0 rfl rfl rfl [0, 1] rfl (by decide) rfl [some 0, some 1] (by decide) rfl (Nat.le_of_ble_eq_true rfl) rfl dX9_token_9 ?_
  refine mg_if_eq (pc := 12) (tgt := 28) C dX9_token_12 (by decide) hf (fun hf => ?_) (fun hf => ?_)
  · refine mg_aload_n (pc := 28) C 0 dX9_token_28 rfl rfl ?_
    refine mg_aload_n (pc := 29) C 0 dX9_token_29 rfl rfl ?_
    refine mg_get (pc := 30) C 0 rfl rfl inX9 6 (by decide) wm_880 rfl rfl dX9_token_30 ?_
    refine mg_puti (pc := 33) C (w2 := w_X9_token k a_t a_t_s a_t_past a_t_aside a_t_text a_t_told a_t_bottoms a_t_planned v_t_pasts v_t_typed v_t_at v_t_kind v_t_at v_t_value v_t_planLength v_t_planAmount v_t_text) 0 rfl rfl inX9 8 (by decide) wm_882 rfl tyX9 tyX9_ok nmX9 rfl (by decide +kernel) (Nat.le_of_ble_eq_true rfl) rfl dX9_token_33 ?_
    refine mg_aload_n (pc := 36) C 0 dX9_token_36 rfl rfl ?_
    refine mg_get (pc := 37) C 0 rfl rfl inX9 6 (by decide) wm_880 rfl rfl dX9_token_37 ?_
    refine mg_aload_n (pc := 40) C 0 dX9_token_40 rfl rfl ?_
    refine mg_get (pc := 41) C 0 rfl rfl inX9 5 (by decide) wm_879 rfl rfl dX9_token_41 ?_
    refine mg_icmp_ne (pc := 44) (tgt := 55) C dX9_token_44 (by decide) hf (fun hf => ?_) (fun hf => ?_)
    · refine mg_aload_n (pc := 55) C 0 dX9_token_55 rfl rfl ?_
      refine mg_aload_n (pc := 56) C 0 dX9_token_56 rfl rfl ?_
      refine mg_get (pc := 57) C 0 rfl rfl inX9 6 (by decide) wm_880 rfl rfl dX9_token_57 ?_
      refine mg_bipush (pc := 60) C dX9_token_60 (v := 97) (by decide) ?_
      refine mg_bipush (pc := 62) C dX9_token_62 (v := 122) (by decide) ?_
      obtain ⟨q3, h4, hf⟩ := mg_b hf
      refine mg_callV (pc := 64) C (w2 := w_X9_token k a_t a_t_s a_t_past a_t_aside a_t_text a_t_told a_t_bottoms a_t_planned v_t_pasts v_t_typed v_t_at v_t_kind v_t_at v_t_value v_t_planLength v_t_planAmount v_t_text) (c_X9_isAt z.2.1 k a_t a_t_s a_t_past a_t_aside a_t_text a_t_told a_t_bottoms a_t_planned v_t_pasts v_t_typed v_t_at v_t_kind v_t_at v_t_value v_t_planLength v_t_planAmount v_t_text v_t_at 97 122 q3 h4) Y_X9_isAt wm_945 (by decide) rfl 0 rfl rfl rfl [0, 1] rfl (by decide) rfl [some 0, some 1] (by decide) rfl (Nat.le_of_ble_eq_true rfl) rfl dX9_token_64 ?_
      refine mg_if_eq (pc := 67) (tgt := 103) C dX9_token_67 (by decide) hf (fun hf => ?_) (fun hf => ?_)
      · refine mg_aload_n (pc := 103) C 0 dX9_token_103 rfl rfl ?_
        refine mg_aload_n (pc := 104) C 0 dX9_token_104 rfl rfl ?_
        refine mg_get (pc := 105) C 0 rfl rfl inX9 6 (by decide) wm_880 rfl rfl dX9_token_105 ?_
        refine mg_bipush (pc := 108) C dX9_token_108 (v := 48) (by decide) ?_
        refine mg_bipush (pc := 110) C dX9_token_110 (v := 57) (by decide) ?_
        obtain ⟨q5, h6, hf⟩ := mg_b hf
        refine mg_callV (pc := 112) C (w2 := w_X9_token k a_t a_t_s a_t_past a_t_aside a_t_text a_t_told a_t_bottoms a_t_planned v_t_pasts v_t_typed v_t_at v_t_kind v_t_at v_t_value v_t_planLength v_t_planAmount v_t_text) (c_X9_isAt z.2.1 k a_t a_t_s a_t_past a_t_aside a_t_text a_t_told a_t_bottoms a_t_planned v_t_pasts v_t_typed v_t_at v_t_kind v_t_at v_t_value v_t_planLength v_t_planAmount v_t_text v_t_at 48 57 q5 h6) Y_X9_isAt wm_945 (by decide) rfl 0 rfl rfl rfl [0, 1] rfl (by decide) rfl [some 0, some 1] (by decide) rfl (Nat.le_of_ble_eq_true rfl) rfl dX9_token_112 ?_
        refine mg_if_eq (pc := 115) (tgt := 252) C dX9_token_115 (by decide) hf (fun hf => ?_) (fun hf => ?_)
        · refine mg_aload_n (pc := 252) C 0 dX9_token_252 rfl rfl ?_
          refine mg_aload_n (pc := 253) C 0 dX9_token_253 rfl rfl ?_
          refine mg_get (pc := 254) C 0 rfl rfl inX9 4 (by decide) wm_878 rfl rfl dX9_token_254 ?_
          refine mg_aload_n (pc := 257) C 0 dX9_token_257 rfl rfl ?_
          refine mg_get (pc := 258) C 0 rfl rfl inX9 6 (by decide) wm_880 rfl rfl dX9_token_258 ?_
          refine mg_iald (pc := 261) C 1 rfl dX9_token_261 hf (fun hf => ?_)
          refine mg_bipush (pc := 262) C dX9_token_262 (v := 59) (by decide) ?_
          refine mg_icmp_ne (pc := 264) (tgt := 271) C dX9_token_264 (by decide) hf (fun hf => ?_) (fun hf => ?_)
          · refine mg_iconst (pc := 271) C dX9_token_271 (v := 4) (by decide) ?_
            refine mg_puti (pc := 272) C (w2 := w_X9_token k a_t a_t_s a_t_past a_t_aside a_t_text a_t_told a_t_bottoms a_t_planned v_t_pasts v_t_typed v_t_at 4 v_t_at v_t_value v_t_planLength v_t_planAmount v_t_text) 0 rfl rfl inX9 7 (by decide) wm_881 rfl tyX9 tyX9_ok nmX9 rfl (by decide +kernel) (Nat.le_of_ble_eq_true rfl) rfl dX9_token_272 ?_
            refine mg_aload_n (pc := 275) C 0 dX9_token_275 rfl rfl ?_
            refine mg_dup (pc := 276) C dX9_token_276 rfl ?_
            refine mg_get (pc := 277) C 0 rfl rfl inX9 6 (by decide) wm_880 rfl rfl dX9_token_277 ?_
            refine mg_iconst (pc := 280) C dX9_token_280 (v := 1) (by decide) ?_
            refine mg_iadd (pc := 281) C dX9_token_281 ?_
            refine mg_puti (pc := 282) C (w2 := w_X9_token k a_t a_t_s a_t_past a_t_aside a_t_text a_t_told a_t_bottoms a_t_planned v_t_pasts v_t_typed (v_t_at + 1) 4 v_t_at v_t_value v_t_planLength v_t_planAmount v_t_text) 0 rfl rfl inX9 6 (by decide) wm_880 rfl tyX9 tyX9_ok nmX9 rfl (by decide +kernel) (Nat.le_of_ble_eq_true rfl) rfl dX9_token_282 ?_
            obtain rfl := Option.some.inj hf
            exact E _ _ dX9_token_285
          · refine mg_iconst (pc := 267) C dX9_token_267 (v := 3) (by decide) ?_
            refine mg_goto (pc := 268) (tgt := 272) C dX9_token_268 (by decide) ?_
            refine mg_puti (pc := 272) C (w2 := w_X9_token k a_t a_t_s a_t_past a_t_aside a_t_text a_t_told a_t_bottoms a_t_planned v_t_pasts v_t_typed v_t_at 3 v_t_at v_t_value v_t_planLength v_t_planAmount v_t_text) 0 rfl rfl inX9 7 (by decide) wm_881 rfl tyX9 tyX9_ok nmX9 rfl (by decide +kernel) (Nat.le_of_ble_eq_true rfl) rfl dX9_token_272 ?_
            refine mg_aload_n (pc := 275) C 0 dX9_token_275 rfl rfl ?_
            refine mg_dup (pc := 276) C dX9_token_276 rfl ?_
            refine mg_get (pc := 277) C 0 rfl rfl inX9 6 (by decide) wm_880 rfl rfl dX9_token_277 ?_
            refine mg_iconst (pc := 280) C dX9_token_280 (v := 1) (by decide) ?_
            refine mg_iadd (pc := 281) C dX9_token_281 ?_
            refine mg_puti (pc := 282) C (w2 := w_X9_token k a_t a_t_s a_t_past a_t_aside a_t_text a_t_told a_t_bottoms a_t_planned v_t_pasts v_t_typed (v_t_at + 1) 3 v_t_at v_t_value v_t_planLength v_t_planAmount v_t_text) 0 rfl rfl inX9 6 (by decide) wm_880 rfl tyX9 tyX9_ok nmX9 rfl (by decide +kernel) (Nat.le_of_ble_eq_true rfl) rfl dX9_token_282 ?_
            obtain rfl := Option.some.inj hf
            exact E _ _ dX9_token_285
        · refine mg_aload_n (pc := 118) C 0 dX9_token_118 rfl rfl ?_
          refine mg_iconst (pc := 119) C dX9_token_119 (v := 2) (by decide) ?_
          refine mg_puti (pc := 120) C (w2 := w_X9_token k a_t a_t_s a_t_past a_t_aside a_t_text a_t_told a_t_bottoms a_t_planned v_t_pasts v_t_typed v_t_at 2 v_t_at v_t_value v_t_planLength v_t_planAmount v_t_text) 0 rfl rfl inX9 7 (by decide) wm_881 rfl tyX9 tyX9_ok nmX9 rfl (by decide +kernel) (Nat.le_of_ble_eq_true rfl) rfl dX9_token_120 ?_
          refine mg_aload_n (pc := 123) C 0 dX9_token_123 rfl rfl ?_
          refine mg_iconst (pc := 124) C dX9_token_124 (v := 0) (by decide) ?_
          refine mg_puti (pc := 125) C (w2 := w_X9_token k a_t a_t_s a_t_past a_t_aside a_t_text a_t_told a_t_bottoms a_t_planned v_t_pasts v_t_typed v_t_at 2 v_t_at 0 v_t_planLength v_t_planAmount v_t_text) 0 rfl rfl inX9 9 (by decide) wm_883 rfl tyX9 tyX9_ok nmX9 rfl (by decide +kernel) (Nat.le_of_ble_eq_true rfl) rfl dX9_token_125 ?_
          obtain ⟨q9, h10, hf⟩ := mg_b hf
          refine L128 2 v_t_at fuel v_t_at 0 q9 h10 ?_
          refine mg_aload_n (pc := 200) C 0 dX9_token_200 rfl rfl ?_
          refine mg_aload_n (pc := 201) C 0 dX9_token_201 rfl rfl ?_
          refine mg_get (pc := 202) C 0 rfl rfl inX9 6 (by decide) wm_880 rfl rfl dX9_token_202 ?_
          refine mg_aload_n (pc := 205) C 0 dX9_token_205 rfl rfl ?_
          refine mg_get (pc := 206) C 0 rfl rfl inX9 8 (by decide) wm_882 rfl rfl dX9_token_206 ?_
          refine mg_isub (pc := 209) C dX9_token_209 ?_
          refine mg_iconst (pc := 210) C dX9_token_210 (v := 4) (by decide) ?_
          refine mg_icmp_gt (pc := 211) (tgt := 241) C dX9_token_211 (by decide) hf (fun hf => ?_) (fun hf => ?_)
          · refine mg_iconst (pc := 241) C dX9_token_241 (v := 4) (by decide) ?_
            refine mg_goto (pc := 242) (tgt := 246) C dX9_token_242 (by decide) ?_
            refine mg_puti (pc := 246) C (w2 := w_X9_token k a_t a_t_s a_t_past a_t_aside a_t_text a_t_told a_t_bottoms a_t_planned v_t_pasts v_t_typed q9.1 4 v_t_at q9.2 v_t_planLength v_t_planAmount v_t_text) 0 rfl rfl inX9 7 (by decide) wm_881 rfl tyX9 tyX9_ok nmX9 rfl (by decide +kernel) (Nat.le_of_ble_eq_true rfl) rfl dX9_token_246 ?_
            refine mg_goto (pc := 249) (tgt := 285) C dX9_token_249 (by decide) ?_
            obtain rfl := Option.some.inj hf
            exact E _ _ dX9_token_285
          · refine mg_aload_n (pc := 214) C 0 dX9_token_214 rfl rfl ?_
            refine mg_get (pc := 215) C 0 rfl rfl inX9 6 (by decide) wm_880 rfl rfl dX9_token_215 ?_
            refine mg_aload_n (pc := 218) C 0 dX9_token_218 rfl rfl ?_
            refine mg_get (pc := 219) C 0 rfl rfl inX9 8 (by decide) wm_882 rfl rfl dX9_token_219 ?_
            refine mg_isub (pc := 222) C dX9_token_222 ?_
            refine mg_iconst (pc := 223) C dX9_token_223 (v := 1) (by decide) ?_
            refine mg_icmp_le (pc := 224) (tgt := 245) C dX9_token_224 (by decide) hf (fun hf => ?_) (fun hf => ?_)
            · refine mg_iconst (pc := 245) C dX9_token_245 (v := 2) (by decide) ?_
              refine mg_puti (pc := 246) C (w2 := w_X9_token k a_t a_t_s a_t_past a_t_aside a_t_text a_t_told a_t_bottoms a_t_planned v_t_pasts v_t_typed q9.1 2 v_t_at q9.2 v_t_planLength v_t_planAmount v_t_text) 0 rfl rfl inX9 7 (by decide) wm_881 rfl tyX9 tyX9_ok nmX9 rfl (by decide +kernel) (Nat.le_of_ble_eq_true rfl) rfl dX9_token_246 ?_
              refine mg_goto (pc := 249) (tgt := 285) C dX9_token_249 (by decide) ?_
              obtain rfl := Option.some.inj hf
              exact E _ _ dX9_token_285
            · refine mg_aload_n (pc := 227) C 0 dX9_token_227 rfl rfl ?_
              refine mg_get (pc := 228) C 0 rfl rfl inX9 4 (by decide) wm_878 rfl rfl dX9_token_228 ?_
              refine mg_aload_n (pc := 231) C 0 dX9_token_231 rfl rfl ?_
              refine mg_get (pc := 232) C 0 rfl rfl inX9 8 (by decide) wm_882 rfl rfl dX9_token_232 ?_
              refine mg_iald (pc := 235) C 1 rfl dX9_token_235 hf (fun hf => ?_)
              refine mg_bipush (pc := 236) C dX9_token_236 (v := 48) (by decide) ?_
              refine mg_icmp_ne (pc := 238) (tgt := 245) C dX9_token_238 (by decide) hf (fun hf => ?_) (fun hf => ?_)
              · refine mg_iconst (pc := 245) C dX9_token_245 (v := 2) (by decide) ?_
                refine mg_puti (pc := 246) C (w2 := w_X9_token k a_t a_t_s a_t_past a_t_aside a_t_text a_t_told a_t_bottoms a_t_planned v_t_pasts v_t_typed q9.1 2 v_t_at q9.2 v_t_planLength v_t_planAmount v_t_text) 0 rfl rfl inX9 7 (by decide) wm_881 rfl tyX9 tyX9_ok nmX9 rfl (by decide +kernel) (Nat.le_of_ble_eq_true rfl) rfl dX9_token_246 ?_
                refine mg_goto (pc := 249) (tgt := 285) C dX9_token_249 (by decide) ?_
                obtain rfl := Option.some.inj hf
                exact E _ _ dX9_token_285
              · refine mg_iconst (pc := 241) C dX9_token_241 (v := 4) (by decide) ?_
                refine mg_goto (pc := 242) (tgt := 246) C dX9_token_242 (by decide) ?_
                refine mg_puti (pc := 246) C (w2 := w_X9_token k a_t a_t_s a_t_past a_t_aside a_t_text a_t_told a_t_bottoms a_t_planned v_t_pasts v_t_typed q9.1 4 v_t_at q9.2 v_t_planLength v_t_planAmount v_t_text) 0 rfl rfl inX9 7 (by decide) wm_881 rfl tyX9 tyX9_ok nmX9 rfl (by decide +kernel) (Nat.le_of_ble_eq_true rfl) rfl dX9_token_246 ?_
                refine mg_goto (pc := 249) (tgt := 285) C dX9_token_249 (by decide) ?_
                obtain rfl := Option.some.inj hf
                exact E _ _ dX9_token_285
      · refine mg_aload_n (pc := 70) C 0 dX9_token_70 rfl rfl ?_
        refine mg_iconst (pc := 71) C dX9_token_71 (v := 1) (by decide) ?_
        refine mg_puti (pc := 72) C (w2 := w_X9_token k a_t a_t_s a_t_past a_t_aside a_t_text a_t_told a_t_bottoms a_t_planned v_t_pasts v_t_typed v_t_at 1 v_t_at v_t_value v_t_planLength v_t_planAmount v_t_text) 0 rfl rfl inX9 7 (by decide) wm_881 rfl tyX9 tyX9_ok nmX9 rfl (by decide +kernel) (Nat.le_of_ble_eq_true rfl) rfl dX9_token_72 ?_
        obtain ⟨q13, h14, hf⟩ := mg_b hf
        refine L75 1 v_t_at v_t_value fuel v_t_at q13 h14 ?_
        obtain rfl := Option.some.inj hf
        exact E _ _ dX9_token_285
    · refine mg_aload_n (pc := 47) C 0 dX9_token_47 rfl rfl ?_
      refine mg_iconst (pc := 48) C dX9_token_48 (v := 0) (by decide) ?_
      refine mg_puti (pc := 49) C (w2 := w_X9_token k a_t a_t_s a_t_past a_t_aside a_t_text a_t_told a_t_bottoms a_t_planned v_t_pasts v_t_typed v_t_at 0 v_t_at v_t_value v_t_planLength v_t_planAmount v_t_text) 0 rfl rfl inX9 7 (by decide) wm_881 rfl tyX9 tyX9_ok nmX9 rfl (by decide +kernel) (Nat.le_of_ble_eq_true rfl) rfl dX9_token_49 ?_
      refine mg_goto (pc := 52) (tgt := 285) C dX9_token_52 (by decide) ?_
      obtain rfl := Option.some.inj hf
      exact E _ _ dX9_token_285
  · refine mg_aload_n (pc := 15) C 0 dX9_token_15 rfl rfl ?_
    refine mg_dup (pc := 16) C dX9_token_16 rfl ?_
    refine mg_get (pc := 17) C 0 rfl rfl inX9 6 (by decide) wm_880 rfl rfl dX9_token_17 ?_
    refine mg_iconst (pc := 20) C dX9_token_20 (v := 1) (by decide) ?_
    refine mg_iadd (pc := 21) C dX9_token_21 ?_
    refine mg_puti (pc := 22) C (w2 := w_X9_token k a_t a_t_s a_t_past a_t_aside a_t_text a_t_told a_t_bottoms a_t_planned v_t_pasts v_t_typed (v_t_at + 1) v_t_kind v_t_from v_t_value v_t_planLength v_t_planAmount v_t_text) 0 rfl rfl inX9 6 (by decide) wm_880 rfl tyX9 tyX9_ok nmX9 rfl (by decide +kernel) (Nat.le_of_ble_eq_true rfl) rfl dX9_token_22 ?_
    refine mg_goto (pc := 25) (tgt := 0) C dX9_token_25 (by decide) ?_
    obtain ⟨q17, h18, hf⟩ := mg_b hf
    refine L0 v_t_kind v_t_from v_t_value fuel (v_t_at + 1) q17 h18 ?_
    refine mg_aload_n (pc := 28) C 0 dX9_token_28 rfl rfl ?_
    refine mg_aload_n (pc := 29) C 0 dX9_token_29 rfl rfl ?_
    refine mg_get (pc := 30) C 0 rfl rfl inX9 6 (by decide) wm_880 rfl rfl dX9_token_30 ?_
    refine mg_puti (pc := 33) C (w2 := w_X9_token k a_t a_t_s a_t_past a_t_aside a_t_text a_t_told a_t_bottoms a_t_planned v_t_pasts v_t_typed q17 v_t_kind q17 v_t_value v_t_planLength v_t_planAmount v_t_text) 0 rfl rfl inX9 8 (by decide) wm_882 rfl tyX9 tyX9_ok nmX9 rfl (by decide +kernel) (Nat.le_of_ble_eq_true rfl) rfl dX9_token_33 ?_
    refine mg_aload_n (pc := 36) C 0 dX9_token_36 rfl rfl ?_
    refine mg_get (pc := 37) C 0 rfl rfl inX9 6 (by decide) wm_880 rfl rfl dX9_token_37 ?_
    refine mg_aload_n (pc := 40) C 0 dX9_token_40 rfl rfl ?_
    refine mg_get (pc := 41) C 0 rfl rfl inX9 5 (by decide) wm_879 rfl rfl dX9_token_41 ?_
    refine mg_icmp_ne (pc := 44) (tgt := 55) C dX9_token_44 (by decide) hf (fun hf => ?_) (fun hf => ?_)
    · refine mg_aload_n (pc := 55) C 0 dX9_token_55 rfl rfl ?_
      refine mg_aload_n (pc := 56) C 0 dX9_token_56 rfl rfl ?_
      refine mg_get (pc := 57) C 0 rfl rfl inX9 6 (by decide) wm_880 rfl rfl dX9_token_57 ?_
      refine mg_bipush (pc := 60) C dX9_token_60 (v := 97) (by decide) ?_
      refine mg_bipush (pc := 62) C dX9_token_62 (v := 122) (by decide) ?_
      obtain ⟨q19, h20, hf⟩ := mg_b hf
      refine mg_callV (pc := 64) C (w2 := w_X9_token k a_t a_t_s a_t_past a_t_aside a_t_text a_t_told a_t_bottoms a_t_planned v_t_pasts v_t_typed q17 v_t_kind q17 v_t_value v_t_planLength v_t_planAmount v_t_text) (c_X9_isAt z.2.1 k a_t a_t_s a_t_past a_t_aside a_t_text a_t_told a_t_bottoms a_t_planned v_t_pasts v_t_typed q17 v_t_kind q17 v_t_value v_t_planLength v_t_planAmount v_t_text q17 97 122 q19 h20) Y_X9_isAt wm_945 (by decide) rfl 0 rfl rfl rfl [0, 1] rfl (by decide) rfl [some 0, some 1] (by decide) rfl (Nat.le_of_ble_eq_true rfl) rfl dX9_token_64 ?_
      refine mg_if_eq (pc := 67) (tgt := 103) C dX9_token_67 (by decide) hf (fun hf => ?_) (fun hf => ?_)
      · refine mg_aload_n (pc := 103) C 0 dX9_token_103 rfl rfl ?_
        refine mg_aload_n (pc := 104) C 0 dX9_token_104 rfl rfl ?_
        refine mg_get (pc := 105) C 0 rfl rfl inX9 6 (by decide) wm_880 rfl rfl dX9_token_105 ?_
        refine mg_bipush (pc := 108) C dX9_token_108 (v := 48) (by decide) ?_
        refine mg_bipush (pc := 110) C dX9_token_110 (v := 57) (by decide) ?_
        obtain ⟨q21, h22, hf⟩ := mg_b hf
        refine mg_callV (pc := 112) C (w2 := w_X9_token k a_t a_t_s a_t_past a_t_aside a_t_text a_t_told a_t_bottoms a_t_planned v_t_pasts v_t_typed q17 v_t_kind q17 v_t_value v_t_planLength v_t_planAmount v_t_text) (c_X9_isAt z.2.1 k a_t a_t_s a_t_past a_t_aside a_t_text a_t_told a_t_bottoms a_t_planned v_t_pasts v_t_typed q17 v_t_kind q17 v_t_value v_t_planLength v_t_planAmount v_t_text q17 48 57 q21 h22) Y_X9_isAt wm_945 (by decide) rfl 0 rfl rfl rfl [0, 1] rfl (by decide) rfl [some 0, some 1] (by decide) rfl (Nat.le_of_ble_eq_true rfl) rfl dX9_token_112 ?_
        refine mg_if_eq (pc := 115) (tgt := 252) C dX9_token_115 (by decide) hf (fun hf => ?_) (fun hf => ?_)
        · refine mg_aload_n (pc := 252) C 0 dX9_token_252 rfl rfl ?_
          refine mg_aload_n (pc := 253) C 0 dX9_token_253 rfl rfl ?_
          refine mg_get (pc := 254) C 0 rfl rfl inX9 4 (by decide) wm_878 rfl rfl dX9_token_254 ?_
          refine mg_aload_n (pc := 257) C 0 dX9_token_257 rfl rfl ?_
          refine mg_get (pc := 258) C 0 rfl rfl inX9 6 (by decide) wm_880 rfl rfl dX9_token_258 ?_
          refine mg_iald (pc := 261) C 1 rfl dX9_token_261 hf (fun hf => ?_)
          refine mg_bipush (pc := 262) C dX9_token_262 (v := 59) (by decide) ?_
          refine mg_icmp_ne (pc := 264) (tgt := 271) C dX9_token_264 (by decide) hf (fun hf => ?_) (fun hf => ?_)
          · refine mg_iconst (pc := 271) C dX9_token_271 (v := 4) (by decide) ?_
            refine mg_puti (pc := 272) C (w2 := w_X9_token k a_t a_t_s a_t_past a_t_aside a_t_text a_t_told a_t_bottoms a_t_planned v_t_pasts v_t_typed q17 4 q17 v_t_value v_t_planLength v_t_planAmount v_t_text) 0 rfl rfl inX9 7 (by decide) wm_881 rfl tyX9 tyX9_ok nmX9 rfl (by decide +kernel) (Nat.le_of_ble_eq_true rfl) rfl dX9_token_272 ?_
            refine mg_aload_n (pc := 275) C 0 dX9_token_275 rfl rfl ?_
            refine mg_dup (pc := 276) C dX9_token_276 rfl ?_
            refine mg_get (pc := 277) C 0 rfl rfl inX9 6 (by decide) wm_880 rfl rfl dX9_token_277 ?_
            refine mg_iconst (pc := 280) C dX9_token_280 (v := 1) (by decide) ?_
            refine mg_iadd (pc := 281) C dX9_token_281 ?_
            refine mg_puti (pc := 282) C (w2 := w_X9_token k a_t a_t_s a_t_past a_t_aside a_t_text a_t_told a_t_bottoms a_t_planned v_t_pasts v_t_typed (q17 + 1) 4 q17 v_t_value v_t_planLength v_t_planAmount v_t_text) 0 rfl rfl inX9 6 (by decide) wm_880 rfl tyX9 tyX9_ok nmX9 rfl (by decide +kernel) (Nat.le_of_ble_eq_true rfl) rfl dX9_token_282 ?_
            obtain rfl := Option.some.inj hf
            exact E _ _ dX9_token_285
          · refine mg_iconst (pc := 267) C dX9_token_267 (v := 3) (by decide) ?_
            refine mg_goto (pc := 268) (tgt := 272) C dX9_token_268 (by decide) ?_
            refine mg_puti (pc := 272) C (w2 := w_X9_token k a_t a_t_s a_t_past a_t_aside a_t_text a_t_told a_t_bottoms a_t_planned v_t_pasts v_t_typed q17 3 q17 v_t_value v_t_planLength v_t_planAmount v_t_text) 0 rfl rfl inX9 7 (by decide) wm_881 rfl tyX9 tyX9_ok nmX9 rfl (by decide +kernel) (Nat.le_of_ble_eq_true rfl) rfl dX9_token_272 ?_
            refine mg_aload_n (pc := 275) C 0 dX9_token_275 rfl rfl ?_
            refine mg_dup (pc := 276) C dX9_token_276 rfl ?_
            refine mg_get (pc := 277) C 0 rfl rfl inX9 6 (by decide) wm_880 rfl rfl dX9_token_277 ?_
            refine mg_iconst (pc := 280) C dX9_token_280 (v := 1) (by decide) ?_
            refine mg_iadd (pc := 281) C dX9_token_281 ?_
            refine mg_puti (pc := 282) C (w2 := w_X9_token k a_t a_t_s a_t_past a_t_aside a_t_text a_t_told a_t_bottoms a_t_planned v_t_pasts v_t_typed (q17 + 1) 3 q17 v_t_value v_t_planLength v_t_planAmount v_t_text) 0 rfl rfl inX9 6 (by decide) wm_880 rfl tyX9 tyX9_ok nmX9 rfl (by decide +kernel) (Nat.le_of_ble_eq_true rfl) rfl dX9_token_282 ?_
            obtain rfl := Option.some.inj hf
            exact E _ _ dX9_token_285
        · refine mg_aload_n (pc := 118) C 0 dX9_token_118 rfl rfl ?_
          refine mg_iconst (pc := 119) C dX9_token_119 (v := 2) (by decide) ?_
          refine mg_puti (pc := 120) C (w2 := w_X9_token k a_t a_t_s a_t_past a_t_aside a_t_text a_t_told a_t_bottoms a_t_planned v_t_pasts v_t_typed q17 2 q17 v_t_value v_t_planLength v_t_planAmount v_t_text) 0 rfl rfl inX9 7 (by decide) wm_881 rfl tyX9 tyX9_ok nmX9 rfl (by decide +kernel) (Nat.le_of_ble_eq_true rfl) rfl dX9_token_120 ?_
          refine mg_aload_n (pc := 123) C 0 dX9_token_123 rfl rfl ?_
          refine mg_iconst (pc := 124) C dX9_token_124 (v := 0) (by decide) ?_
          refine mg_puti (pc := 125) C (w2 := w_X9_token k a_t a_t_s a_t_past a_t_aside a_t_text a_t_told a_t_bottoms a_t_planned v_t_pasts v_t_typed q17 2 q17 0 v_t_planLength v_t_planAmount v_t_text) 0 rfl rfl inX9 9 (by decide) wm_883 rfl tyX9 tyX9_ok nmX9 rfl (by decide +kernel) (Nat.le_of_ble_eq_true rfl) rfl dX9_token_125 ?_
          obtain ⟨q23, h24, hf⟩ := mg_b hf
          refine L128 2 q17 fuel q17 0 q23 h24 ?_
          refine mg_aload_n (pc := 200) C 0 dX9_token_200 rfl rfl ?_
          refine mg_aload_n (pc := 201) C 0 dX9_token_201 rfl rfl ?_
          refine mg_get (pc := 202) C 0 rfl rfl inX9 6 (by decide) wm_880 rfl rfl dX9_token_202 ?_
          refine mg_aload_n (pc := 205) C 0 dX9_token_205 rfl rfl ?_
          refine mg_get (pc := 206) C 0 rfl rfl inX9 8 (by decide) wm_882 rfl rfl dX9_token_206 ?_
          refine mg_isub (pc := 209) C dX9_token_209 ?_
          refine mg_iconst (pc := 210) C dX9_token_210 (v := 4) (by decide) ?_
          refine mg_icmp_gt (pc := 211) (tgt := 241) C dX9_token_211 (by decide) hf (fun hf => ?_) (fun hf => ?_)
          · refine mg_iconst (pc := 241) C dX9_token_241 (v := 4) (by decide) ?_
            refine mg_goto (pc := 242) (tgt := 246) C dX9_token_242 (by decide) ?_
            refine mg_puti (pc := 246) C (w2 := w_X9_token k a_t a_t_s a_t_past a_t_aside a_t_text a_t_told a_t_bottoms a_t_planned v_t_pasts v_t_typed q23.1 4 q17 q23.2 v_t_planLength v_t_planAmount v_t_text) 0 rfl rfl inX9 7 (by decide) wm_881 rfl tyX9 tyX9_ok nmX9 rfl (by decide +kernel) (Nat.le_of_ble_eq_true rfl) rfl dX9_token_246 ?_
            refine mg_goto (pc := 249) (tgt := 285) C dX9_token_249 (by decide) ?_
            obtain rfl := Option.some.inj hf
            exact E _ _ dX9_token_285
          · refine mg_aload_n (pc := 214) C 0 dX9_token_214 rfl rfl ?_
            refine mg_get (pc := 215) C 0 rfl rfl inX9 6 (by decide) wm_880 rfl rfl dX9_token_215 ?_
            refine mg_aload_n (pc := 218) C 0 dX9_token_218 rfl rfl ?_
            refine mg_get (pc := 219) C 0 rfl rfl inX9 8 (by decide) wm_882 rfl rfl dX9_token_219 ?_
            refine mg_isub (pc := 222) C dX9_token_222 ?_
            refine mg_iconst (pc := 223) C dX9_token_223 (v := 1) (by decide) ?_
            refine mg_icmp_le (pc := 224) (tgt := 245) C dX9_token_224 (by decide) hf (fun hf => ?_) (fun hf => ?_)
            · refine mg_iconst (pc := 245) C dX9_token_245 (v := 2) (by decide) ?_
              refine mg_puti (pc := 246) C (w2 := w_X9_token k a_t a_t_s a_t_past a_t_aside a_t_text a_t_told a_t_bottoms a_t_planned v_t_pasts v_t_typed q23.1 2 q17 q23.2 v_t_planLength v_t_planAmount v_t_text) 0 rfl rfl inX9 7 (by decide) wm_881 rfl tyX9 tyX9_ok nmX9 rfl (by decide +kernel) (Nat.le_of_ble_eq_true rfl) rfl dX9_token_246 ?_
              refine mg_goto (pc := 249) (tgt := 285) C dX9_token_249 (by decide) ?_
              obtain rfl := Option.some.inj hf
              exact E _ _ dX9_token_285
            · refine mg_aload_n (pc := 227) C 0 dX9_token_227 rfl rfl ?_
              refine mg_get (pc := 228) C 0 rfl rfl inX9 4 (by decide) wm_878 rfl rfl dX9_token_228 ?_
              refine mg_aload_n (pc := 231) C 0 dX9_token_231 rfl rfl ?_
              refine mg_get (pc := 232) C 0 rfl rfl inX9 8 (by decide) wm_882 rfl rfl dX9_token_232 ?_
              refine mg_iald (pc := 235) C 1 rfl dX9_token_235 hf (fun hf => ?_)
              refine mg_bipush (pc := 236) C dX9_token_236 (v := 48) (by decide) ?_
              refine mg_icmp_ne (pc := 238) (tgt := 245) C dX9_token_238 (by decide) hf (fun hf => ?_) (fun hf => ?_)
              · refine mg_iconst (pc := 245) C dX9_token_245 (v := 2) (by decide) ?_
                refine mg_puti (pc := 246) C (w2 := w_X9_token k a_t a_t_s a_t_past a_t_aside a_t_text a_t_told a_t_bottoms a_t_planned v_t_pasts v_t_typed q23.1 2 q17 q23.2 v_t_planLength v_t_planAmount v_t_text) 0 rfl rfl inX9 7 (by decide) wm_881 rfl tyX9 tyX9_ok nmX9 rfl (by decide +kernel) (Nat.le_of_ble_eq_true rfl) rfl dX9_token_246 ?_
                refine mg_goto (pc := 249) (tgt := 285) C dX9_token_249 (by decide) ?_
                obtain rfl := Option.some.inj hf
                exact E _ _ dX9_token_285
              · refine mg_iconst (pc := 241) C dX9_token_241 (v := 4) (by decide) ?_
                refine mg_goto (pc := 242) (tgt := 246) C dX9_token_242 (by decide) ?_
                refine mg_puti (pc := 246) C (w2 := w_X9_token k a_t a_t_s a_t_past a_t_aside a_t_text a_t_told a_t_bottoms a_t_planned v_t_pasts v_t_typed q23.1 4 q17 q23.2 v_t_planLength v_t_planAmount v_t_text) 0 rfl rfl inX9 7 (by decide) wm_881 rfl tyX9 tyX9_ok nmX9 rfl (by decide +kernel) (Nat.le_of_ble_eq_true rfl) rfl dX9_token_246 ?_
                refine mg_goto (pc := 249) (tgt := 285) C dX9_token_249 (by decide) ?_
                obtain rfl := Option.some.inj hf
                exact E _ _ dX9_token_285
      · refine mg_aload_n (pc := 70) C 0 dX9_token_70 rfl rfl ?_
        refine mg_iconst (pc := 71) C dX9_token_71 (v := 1) (by decide) ?_
        refine mg_puti (pc := 72) C (w2 := w_X9_token k a_t a_t_s a_t_past a_t_aside a_t_text a_t_told a_t_bottoms a_t_planned v_t_pasts v_t_typed q17 1 q17 v_t_value v_t_planLength v_t_planAmount v_t_text) 0 rfl rfl inX9 7 (by decide) wm_881 rfl tyX9 tyX9_ok nmX9 rfl (by decide +kernel) (Nat.le_of_ble_eq_true rfl) rfl dX9_token_72 ?_
        obtain ⟨q25, h26, hf⟩ := mg_b hf
        refine L75 1 q17 v_t_value fuel q17 q25 h26 ?_
        obtain rfl := Option.some.inj hf
        exact E _ _ dX9_token_285
    · refine mg_aload_n (pc := 47) C 0 dX9_token_47 rfl rfl ?_
      refine mg_iconst (pc := 48) C dX9_token_48 (v := 0) (by decide) ?_
      refine mg_puti (pc := 49) C (w2 := w_X9_token k a_t a_t_s a_t_past a_t_aside a_t_text a_t_told a_t_bottoms a_t_planned v_t_pasts v_t_typed q17 0 q17 v_t_value v_t_planLength v_t_planAmount v_t_text) 0 rfl rfl inX9 7 (by decide) wm_881 rfl tyX9 tyX9_ok nmX9 rfl (by decide +kernel) (Nat.le_of_ble_eq_true rfl) rfl dX9_token_49 ?_
      refine mg_goto (pc := 52) (tgt := 285) C dX9_token_52 (by decide) ?_
      obtain rfl := Option.some.inj hf
      exact E _ _ dX9_token_285
abbrev w_X9_isWord (k : mg_K) (a_t a_t_s a_t_past a_t_aside a_t_text a_t_told a_t_bottoms a_t_planned : Nat) (v_t_pasts : Int32) (v_t_typed : Int32) (v_t_at : Int32) (v_t_kind : Int32) (v_t_from : Int32) (v_t_value : Int32) (v_t_planLength : Int32) (v_t_planAmount : Int32) (v_t_text : Nat → Int32) : va_W := [(a_t, .inr (9, [.ref a_t_s, .ref a_t_past, .ref a_t_aside, .int v_t_pasts, .ref a_t_text, .int v_t_typed, .int v_t_at, .int v_t_kind, .int v_t_from, .int v_t_value, .ref a_t_told, .ref a_t_bottoms, .ref a_t_planned, .int v_t_planLength, .int v_t_planAmount])), (a_t_text, .inl (k.2.1, 200, .inl v_t_text))]
def f_X9_isWord_L23 (v_t_from : Int32) (v_t_text : Nat → Int32) (x1 : Int64) (x3 : Int32) : Nat → Int32 → Int32 → Option (Int32 × Int32)
  | 0, _, _ => none
  | n_ + 1, x4, x5 => if x3 ≤ x5 then (some ((x4, x5))) else (if x4 = 0 then (some ((x4, x5))) else (if mg_ix (v_t_from + x5) 200 = true then (if (v_t_text (Int32.toNatClampNeg (v_t_from + x5))) = (Int64.toInt32 ((x1 >>> (Int32.toInt64 (8 * ((x3 - 1) - x5)) &&& 63)) &&& 255)) then (f_X9_isWord_L23 v_t_from v_t_text x1 x3 n_ 1 (x5 + 1)) else (f_X9_isWord_L23 v_t_from v_t_text x1 x3 n_ 0 (x5 + 1))) else none))
def f_X9_isWord_J18 (fuel : Nat) (v_t_from : Int32) (v_t_text : Nat → Int32) (x1 : Int64) (x3 : Int32) (y0 : Int32) : Option (Int32) := (f_X9_isWord_L23 v_t_from v_t_text x1 x3 fuel y0 0).bind (fun q1 => if q1.1 &&& 1 = q1.1 then some q1.1 else none)
def f_X9_isWord (fuel : Nat) (v_t_at : Int32) (v_t_from : Int32) (v_t_text : Nat → Int32) (x1 : Int64) (x3 : Int32) : Option (Int32) := if (v_t_at - v_t_from) = x3 then (f_X9_isWord_J18 fuel v_t_from v_t_text x1 x3 1) else (f_X9_isWord_J18 fuel v_t_from v_t_text x1 x3 0)
theorem Y_X9_isWord : mg_Y yX9_isWord cX9_isWord 6 (some .boolean) 2 := ⟨wm_956, wp_24, wm_11, wm_957, ⟨by decide +kernel, by decide +kernel, by decide +kernel⟩, by decide⟩
set_option maxRecDepth 100000 in
set_option maxHeartbeats 4000000 in
theorem c_X9_isWord (l : Launch) (k : mg_K) (a_t a_t_s a_t_past a_t_aside a_t_text a_t_told a_t_bottoms a_t_planned : Nat) (v_t_pasts : Int32) (v_t_typed : Int32) (v_t_at : Int32) (v_t_kind : Int32) (v_t_from : Int32) (v_t_value : Int32) (v_t_planLength : Int32) (v_t_planAmount : Int32) (v_t_text : Nat → Int32) (fuel : Nat) (x1 : Int64) (x3 : Int32) (q : Int32) (hf : f_X9_isWord fuel v_t_at v_t_from v_t_text x1 x3 = some q) : mg_M l yX9_isWord cX9_isWord 6 (some .boolean) 0 k [.ref a_t, .long x1, .int x3] (w_X9_isWord k a_t a_t_s a_t_past a_t_aside a_t_text a_t_told a_t_bottoms a_t_planned v_t_pasts v_t_typed v_t_at v_t_kind v_t_from v_t_value v_t_planLength v_t_planAmount v_t_text) (w_X9_isWord k a_t a_t_s a_t_past a_t_aside a_t_text a_t_told a_t_bottoms a_t_planned v_t_pasts v_t_typed v_t_at v_t_kind v_t_from v_t_value v_t_planLength v_t_planAmount v_t_text) (some (.int q)) := by
  refine mg_Mz RX9 [(0, .ref a_t), (1, .long x1), (3, .int x3)] (by decide +kernel) rfl rfl (Nat.le_of_ble_eq_true rfl) ?_
  intro z A Q hl C E
  subst hl
  unfold f_X9_isWord at hf
  have L23 : ∀ (x1 : Int64) (x3 : Int32) (n_ : Nat) (x4 : Int32) (x5 : Int32) (q_ : Int32 × Int32), f_X9_isWord_L23 v_t_from v_t_text x1 x3 n_ x4 x5 = some q_ → (mg z k A 6 0 0 Q (w_X9_isWord k a_t a_t_s a_t_past a_t_aside a_t_text a_t_told a_t_bottoms a_t_planned v_t_pasts v_t_typed v_t_at v_t_kind v_t_from v_t_value v_t_planLength v_t_planAmount v_t_text) [(4, .int q_.1)] 78 []) → mg z k A 6 0 0 Q (w_X9_isWord k a_t a_t_s a_t_past a_t_aside a_t_text a_t_told a_t_bottoms a_t_planned v_t_pasts v_t_typed v_t_at v_t_kind v_t_from v_t_value v_t_planLength v_t_planAmount v_t_text) [(0, .ref a_t), (1, .long x1), (3, .int x3), (4, .int x4), (5, .int x5)] 23 [] := by
    intro x1 x3 n_
    induction n_ with
    | zero => intro x4 x5 q_ hf; exact mg_no (show none = some q_ from hf)
    | succ n_ ih =>
      intro x4 x5 q_ hf X0
      rw [f_X9_isWord_L23] at hf
      refine mg_iload (pc := 23) C 4 dX9_isWord_23 rfl ?_
      refine mg_iload_n (pc := 25) C 2 dX9_isWord_25 rfl rfl ?_
      refine mg_icmp_ge (pc := 26) (tgt := 78) C dX9_isWord_26 (by decide) hf (fun hf => ?_) (fun hf => ?_)
      · obtain rfl := Option.some.inj hf
        refine mg_lv [3] rfl ?_
        exact X0
      · refine mg_iload (pc := 29) C 3 dX9_isWord_29 rfl ?_
        refine mg_if_eq (pc := 31) (tgt := 78) C dX9_isWord_31 (by decide) hf (fun hf => ?_) (fun hf => ?_)
        · obtain rfl := Option.some.inj hf
          refine mg_lv [3] rfl ?_
          exact X0
        · refine mg_aload_n (pc := 34) C 0 dX9_isWord_34 rfl rfl ?_
          refine mg_get (pc := 35) C 0 rfl rfl inX9 4 (by decide) wm_878 rfl rfl dX9_isWord_35 ?_
          refine mg_aload_n (pc := 38) C 0 dX9_isWord_38 rfl rfl ?_
          refine mg_get (pc := 39) C 0 rfl rfl inX9 8 (by decide) wm_882 rfl rfl dX9_isWord_39 ?_
          refine mg_iload (pc := 42) C 4 dX9_isWord_42 rfl ?_
          refine mg_iadd (pc := 44) C dX9_isWord_44 ?_
          refine mg_iald (pc := 45) C 1 rfl dX9_isWord_45 hf (fun hf => ?_)
          refine mg_lload_n (pc := 46) C 1 dX9_isWord_46 rfl rfl ?_
          refine mg_bipush (pc := 47) C dX9_isWord_47 (v := 8) (by decide) ?_
          refine mg_iload_n (pc := 49) C 2 dX9_isWord_49 rfl rfl ?_
          refine mg_iconst (pc := 50) C dX9_isWord_50 (v := 1) (by decide) ?_
          refine mg_isub (pc := 51) C dX9_isWord_51 ?_
          refine mg_iload (pc := 52) C 4 dX9_isWord_52 rfl ?_
          refine mg_isub (pc := 54) C dX9_isWord_54 ?_
          refine mg_imul (pc := 55) C dX9_isWord_55 ?_
          refine mg_lshr (pc := 56) C dX9_isWord_56 ?_
          refine mg_ldc2 (pc := 57) C wm_958 dX9_isWord_57 ?_
          refine mg_land (pc := 60) C dX9_isWord_60 ?_
          refine mg_l2i (pc := 61) C dX9_isWord_61 ?_
          refine mg_icmp_ne (pc := 62) (tgt := 69) C dX9_isWord_62 (by decide) hf (fun hf => ?_) (fun hf => ?_)
          · refine mg_iconst (pc := 69) C dX9_isWord_69 (v := 0) (by decide) ?_
            refine mg_istore (pc := 70) C (lv' := [(4, .int 0), (0, .ref a_t), (1, .long x1), (3, .int x3), (5, .int x5)]) dX9_isWord_70 (by decide) rfl ?_
            refine mg_iinc (pc := 72) C (c := 1) (lv' := [(5, .int (x5 + 1)), (4, .int 0), (0, .ref a_t), (1, .long x1), (3, .int x3)]) 4 dX9_isWord_72 rfl (by decide) (by decide) rfl ?_
            refine mg_goto (pc := 75) (tgt := 23) C dX9_isWord_75 (by decide) ?_
            refine mg_lv [2, 3, 4, 1, 0] rfl ?_
            exact ih 0 (x5 + 1) _ hf X0
          · refine mg_iconst (pc := 65) C dX9_isWord_65 (v := 1) (by decide) ?_
            refine mg_goto (pc := 66) (tgt := 70) C dX9_isWord_66 (by decide) ?_
            refine mg_istore (pc := 70) C (lv' := [(4, .int 1), (0, .ref a_t), (1, .long x1), (3, .int x3), (5, .int x5)]) dX9_isWord_70 (by decide) rfl ?_
            refine mg_iinc (pc := 72) C (c := 1) (lv' := [(5, .int (x5 + 1)), (4, .int 1), (0, .ref a_t), (1, .long x1), (3, .int x3)]) 4 dX9_isWord_72 rfl (by decide) (by decide) rfl ?_
            refine mg_goto (pc := 75) (tgt := 23) C dX9_isWord_75 (by decide) ?_
            refine mg_lv [2, 3, 4, 1, 0] rfl ?_
            exact ih 1 (x5 + 1) _ hf X0
  have J18 : ∀ (x1 : Int64) (x3 : Int32) (y0 : Int32), f_X9_isWord_J18 fuel v_t_from v_t_text x1 x3 y0 = some q → mg z k A 6 0 0 Q (w_X9_isWord k a_t a_t_s a_t_past a_t_aside a_t_text a_t_told a_t_bottoms a_t_planned v_t_pasts v_t_typed v_t_at v_t_kind v_t_from v_t_value v_t_planLength v_t_planAmount v_t_text) [(0, .ref a_t), (1, .long x1), (3, .int x3)] 18 [.int y0] := by
    intro x1 x3 y0 hf
    unfold f_X9_isWord_J18 at hf
    refine mg_istore (pc := 18) C (lv' := [(4, .int y0), (0, .ref a_t), (1, .long x1), (3, .int x3)]) dX9_isWord_18 (by decide) rfl ?_
    refine mg_iconst (pc := 20) C dX9_isWord_20 (v := 0) (by decide) ?_
    refine mg_istore (pc := 21) C (lv' := [(5, .int 0), (4, .int y0), (0, .ref a_t), (1, .long x1), (3, .int x3)]) dX9_isWord_21 (by decide) rfl ?_
    obtain ⟨q1, h2, hf⟩ := mg_b hf
    refine mg_lv [2, 3, 4, 1, 0] rfl ?_
    refine L23 x1 x3 fuel y0 0 q1 h2 ?_
    refine mg_iload (pc := 78) C 0 dX9_isWord_78 rfl ?_
    obtain ⟨d3, hf⟩ := mg_ck hf
    obtain rfl := Option.some.inj hf
    exact E (mg_nb d3) _ _ dX9_isWord_80
  refine mg_aload_n (pc := 0) C 0 dX9_isWord_0 rfl rfl ?_
  refine mg_get (pc := 1) C 0 rfl rfl inX9 6 (by decide) wm_880 rfl rfl dX9_isWord_1 ?_
  refine mg_aload_n (pc := 4) C 0 dX9_isWord_4 rfl rfl ?_
  refine mg_get (pc := 5) C 0 rfl rfl inX9 8 (by decide) wm_882 rfl rfl dX9_isWord_5 ?_
  refine mg_isub (pc := 8) C dX9_isWord_8 ?_
  refine mg_iload_n (pc := 9) C 2 dX9_isWord_9 rfl rfl ?_
  refine mg_icmp_ne (pc := 10) (tgt := 17) C dX9_isWord_10 (by decide) hf (fun hf => ?_) (fun hf => ?_)
  · refine mg_iconst (pc := 17) C dX9_isWord_17 (v := 0) (by decide) ?_
    exact J18 x1 x3 0 hf
  · refine mg_iconst (pc := 13) C dX9_isWord_13 (v := 1) (by decide) ?_
    refine mg_goto (pc := 14) (tgt := 18) C dX9_isWord_14 (by decide) ?_
    exact J18 x1 x3 1 hf
abbrev w_X9_item (k : mg_K) (a_t a_t_s a_t_past a_t_aside a_t_text a_t_told a_t_bottoms a_t_planned : Nat) (v_t_pasts : Int32) (v_t_typed : Int32) (v_t_at : Int32) (v_t_kind : Int32) (v_t_from : Int32) (v_t_value : Int32) (v_t_planLength : Int32) (v_t_planAmount : Int32) (v_t_text : Nat → Int32) : va_W := [(a_t, .inr (9, [.ref a_t_s, .ref a_t_past, .ref a_t_aside, .int v_t_pasts, .ref a_t_text, .int v_t_typed, .int v_t_at, .int v_t_kind, .int v_t_from, .int v_t_value, .ref a_t_told, .ref a_t_bottoms, .ref a_t_planned, .int v_t_planLength, .int v_t_planAmount])), (a_t_text, .inl (k.2.1, 200, .inl v_t_text))]
def f_X9_item (fuel : Nat) (v_t_at : Int32) (v_t_from : Int32) (v_t_text : Nat → Int32) : Option (Int32) := (f_X9_isWord fuel v_t_at v_t_from v_t_text 1886151022 4).bind (fun q1 => if q1 = 0 then ((f_X9_isWord fuel v_t_at v_t_from v_t_text 131277443786868 6).bind (fun q3 => if q3 = 0 then ((f_X9_isWord fuel v_t_at v_t_from v_t_text 512736126322 5).bind (fun q5 => if q5 = 0 then ((f_X9_isWord fuel v_t_at v_t_from v_t_text 495874303590 5).bind (fun q7 => if q7 = 0 then ((f_X9_isWord fuel v_t_at v_t_from v_t_text 465491813746 5).bind (fun q9 => if q9 = 0 then ((f_X9_isWord fuel v_t_at v_t_from v_t_text 27707097838019954 7).bind (fun q11 => if q11 = 0 then (some (-1000009)) else (some 5))) else (some 4))) else (some 3))) else (some 2))) else (some 1))) else (some 0))
theorem Y_X9_item : mg_Y yX9_item cX9_item 1 (some .int) 0 := ⟨wm_951, wp_23, wm_11, wm_952, ⟨by decide +kernel, by decide +kernel, by decide +kernel⟩, by decide⟩
set_option maxRecDepth 100000 in
set_option maxHeartbeats 4000000 in
theorem c_X9_item (l : Launch) (k : mg_K) (a_t a_t_s a_t_past a_t_aside a_t_text a_t_told a_t_bottoms a_t_planned : Nat) (v_t_pasts : Int32) (v_t_typed : Int32) (v_t_at : Int32) (v_t_kind : Int32) (v_t_from : Int32) (v_t_value : Int32) (v_t_planLength : Int32) (v_t_planAmount : Int32) (v_t_text : Nat → Int32) (fuel : Nat) (q : Int32) (hf : f_X9_item fuel v_t_at v_t_from v_t_text = some q) : mg_M l yX9_item cX9_item 1 (some .int) 1 k [.ref a_t] (w_X9_item k a_t a_t_s a_t_past a_t_aside a_t_text a_t_told a_t_bottoms a_t_planned v_t_pasts v_t_typed v_t_at v_t_kind v_t_from v_t_value v_t_planLength v_t_planAmount v_t_text) (w_X9_item k a_t a_t_s a_t_past a_t_aside a_t_text a_t_told a_t_bottoms a_t_planned v_t_pasts v_t_typed v_t_at v_t_kind v_t_from v_t_value v_t_planLength v_t_planAmount v_t_text) (some (.int q)) := by
  refine mg_Mi RX9 [(0, .ref a_t)] (by decide +kernel) rfl rfl (Nat.le_of_ble_eq_true rfl) ?_
  intro z A Q hl C E
  subst hl
  unfold f_X9_item at hf
  refine mg_aload_n (pc := 0) C 0 dX9_item_0 rfl rfl ?_
  refine mg_ldc2 (pc := 1) C wm_953 dX9_item_1 ?_
  refine mg_iconst (pc := 4) C dX9_item_4 (v := 4) (by decide) ?_
  obtain ⟨q1, h2, hf⟩ := mg_b hf
  refine mg_callV (pc := 5) C (w2 := w_X9_item k a_t a_t_s a_t_past a_t_aside a_t_text a_t_told a_t_bottoms a_t_planned v_t_pasts v_t_typed v_t_at v_t_kind v_t_from v_t_value v_t_planLength v_t_planAmount v_t_text) (c_X9_isWord z.2.1 k a_t a_t_s a_t_past a_t_aside a_t_text a_t_told a_t_bottoms a_t_planned v_t_pasts v_t_typed v_t_at v_t_kind v_t_from v_t_value v_t_planLength v_t_planAmount v_t_text fuel 1886151022 4 q1 h2) Y_X9_isWord wm_954 (by decide) rfl 0 rfl rfl rfl [0, 1] rfl (by decide) rfl [some 0, some 1] (by decide) rfl (Nat.le_of_ble_eq_true rfl) rfl dX9_item_5 ?_
  refine mg_if_eq (pc := 8) (tgt := 15) C dX9_item_8 (by decide) hf (fun hf => ?_) (fun hf => ?_)
  · refine mg_aload_n (pc := 15) C 0 dX9_item_15 rfl rfl ?_
    refine mg_ldc2 (pc := 16) C wm_959 dX9_item_16 ?_
    refine mg_bipush (pc := 19) C dX9_item_19 (v := 6) (by decide) ?_
    obtain ⟨q3, h4, hf⟩ := mg_b hf
    refine mg_callV (pc := 21) C (w2 := w_X9_item k a_t a_t_s a_t_past a_t_aside a_t_text a_t_told a_t_bottoms a_t_planned v_t_pasts v_t_typed v_t_at v_t_kind v_t_from v_t_value v_t_planLength v_t_planAmount v_t_text) (c_X9_isWord z.2.1 k a_t a_t_s a_t_past a_t_aside a_t_text a_t_told a_t_bottoms a_t_planned v_t_pasts v_t_typed v_t_at v_t_kind v_t_from v_t_value v_t_planLength v_t_planAmount v_t_text fuel 131277443786868 6 q3 h4) Y_X9_isWord wm_954 (by decide) rfl 0 rfl rfl rfl [0, 1] rfl (by decide) rfl [some 0, some 1] (by decide) rfl (Nat.le_of_ble_eq_true rfl) rfl dX9_item_21 ?_
    refine mg_if_eq (pc := 24) (tgt := 31) C dX9_item_24 (by decide) hf (fun hf => ?_) (fun hf => ?_)
    · refine mg_aload_n (pc := 31) C 0 dX9_item_31 rfl rfl ?_
      refine mg_ldc2 (pc := 32) C wm_960 dX9_item_32 ?_
      refine mg_iconst (pc := 35) C dX9_item_35 (v := 5) (by decide) ?_
      obtain ⟨q5, h6, hf⟩ := mg_b hf
      refine mg_callV (pc := 36) C (w2 := w_X9_item k a_t a_t_s a_t_past a_t_aside a_t_text a_t_told a_t_bottoms a_t_planned v_t_pasts v_t_typed v_t_at v_t_kind v_t_from v_t_value v_t_planLength v_t_planAmount v_t_text) (c_X9_isWord z.2.1 k a_t a_t_s a_t_past a_t_aside a_t_text a_t_told a_t_bottoms a_t_planned v_t_pasts v_t_typed v_t_at v_t_kind v_t_from v_t_value v_t_planLength v_t_planAmount v_t_text fuel 512736126322 5 q5 h6) Y_X9_isWord wm_954 (by decide) rfl 0 rfl rfl rfl [0, 1] rfl (by decide) rfl [some 0, some 1] (by decide) rfl (Nat.le_of_ble_eq_true rfl) rfl dX9_item_36 ?_
      refine mg_if_eq (pc := 39) (tgt := 46) C dX9_item_39 (by decide) hf (fun hf => ?_) (fun hf => ?_)
      · refine mg_aload_n (pc := 46) C 0 dX9_item_46 rfl rfl ?_
        refine mg_ldc2 (pc := 47) C wm_961 dX9_item_47 ?_
        refine mg_iconst (pc := 50) C dX9_item_50 (v := 5) (by decide) ?_
        obtain ⟨q7, h8, hf⟩ := mg_b hf
        refine mg_callV (pc := 51) C (w2 := w_X9_item k a_t a_t_s a_t_past a_t_aside a_t_text a_t_told a_t_bottoms a_t_planned v_t_pasts v_t_typed v_t_at v_t_kind v_t_from v_t_value v_t_planLength v_t_planAmount v_t_text) (c_X9_isWord z.2.1 k a_t a_t_s a_t_past a_t_aside a_t_text a_t_told a_t_bottoms a_t_planned v_t_pasts v_t_typed v_t_at v_t_kind v_t_from v_t_value v_t_planLength v_t_planAmount v_t_text fuel 495874303590 5 q7 h8) Y_X9_isWord wm_954 (by decide) rfl 0 rfl rfl rfl [0, 1] rfl (by decide) rfl [some 0, some 1] (by decide) rfl (Nat.le_of_ble_eq_true rfl) rfl dX9_item_51 ?_
        refine mg_if_eq (pc := 54) (tgt := 61) C dX9_item_54 (by decide) hf (fun hf => ?_) (fun hf => ?_)
        · refine mg_aload_n (pc := 61) C 0 dX9_item_61 rfl rfl ?_
          refine mg_ldc2 (pc := 62) C wm_962 dX9_item_62 ?_
          refine mg_iconst (pc := 65) C dX9_item_65 (v := 5) (by decide) ?_
          obtain ⟨q9, h10, hf⟩ := mg_b hf
          refine mg_callV (pc := 66) C (w2 := w_X9_item k a_t a_t_s a_t_past a_t_aside a_t_text a_t_told a_t_bottoms a_t_planned v_t_pasts v_t_typed v_t_at v_t_kind v_t_from v_t_value v_t_planLength v_t_planAmount v_t_text) (c_X9_isWord z.2.1 k a_t a_t_s a_t_past a_t_aside a_t_text a_t_told a_t_bottoms a_t_planned v_t_pasts v_t_typed v_t_at v_t_kind v_t_from v_t_value v_t_planLength v_t_planAmount v_t_text fuel 465491813746 5 q9 h10) Y_X9_isWord wm_954 (by decide) rfl 0 rfl rfl rfl [0, 1] rfl (by decide) rfl [some 0, some 1] (by decide) rfl (Nat.le_of_ble_eq_true rfl) rfl dX9_item_66 ?_
          refine mg_if_eq (pc := 69) (tgt := 76) C dX9_item_69 (by decide) hf (fun hf => ?_) (fun hf => ?_)
          · refine mg_aload_n (pc := 76) C 0 dX9_item_76 rfl rfl ?_
            refine mg_ldc2 (pc := 77) C wm_963 dX9_item_77 ?_
            refine mg_bipush (pc := 80) C dX9_item_80 (v := 7) (by decide) ?_
            obtain ⟨q11, h12, hf⟩ := mg_b hf
            refine mg_callV (pc := 82) C (w2 := w_X9_item k a_t a_t_s a_t_past a_t_aside a_t_text a_t_told a_t_bottoms a_t_planned v_t_pasts v_t_typed v_t_at v_t_kind v_t_from v_t_value v_t_planLength v_t_planAmount v_t_text) (c_X9_isWord z.2.1 k a_t a_t_s a_t_past a_t_aside a_t_text a_t_told a_t_bottoms a_t_planned v_t_pasts v_t_typed v_t_at v_t_kind v_t_from v_t_value v_t_planLength v_t_planAmount v_t_text fuel 27707097838019954 7 q11 h12) Y_X9_isWord wm_954 (by decide) rfl 0 rfl rfl rfl [0, 1] rfl (by decide) rfl [some 0, some 1] (by decide) rfl (Nat.le_of_ble_eq_true rfl) rfl dX9_item_82 ?_
            refine mg_if_eq (pc := 85) (tgt := 92) C dX9_item_85 (by decide) hf (fun hf => ?_) (fun hf => ?_)
            · refine mg_ldc (pc := 92) C wm_964 dX9_item_92 ?_
              obtain rfl := Option.some.inj hf
              exact E _ _ dX9_item_94
            · refine mg_iconst (pc := 88) C dX9_item_88 (v := 5) (by decide) ?_
              refine mg_goto (pc := 89) (tgt := 94) C dX9_item_89 (by decide) ?_
              obtain rfl := Option.some.inj hf
              exact E _ _ dX9_item_94
          · refine mg_iconst (pc := 72) C dX9_item_72 (v := 4) (by decide) ?_
            refine mg_goto (pc := 73) (tgt := 94) C dX9_item_73 (by decide) ?_
            obtain rfl := Option.some.inj hf
            exact E _ _ dX9_item_94
        · refine mg_iconst (pc := 57) C dX9_item_57 (v := 3) (by decide) ?_
          refine mg_goto (pc := 58) (tgt := 94) C dX9_item_58 (by decide) ?_
          obtain rfl := Option.some.inj hf
          exact E _ _ dX9_item_94
      · refine mg_iconst (pc := 42) C dX9_item_42 (v := 2) (by decide) ?_
        refine mg_goto (pc := 43) (tgt := 94) C dX9_item_43 (by decide) ?_
        obtain rfl := Option.some.inj hf
        exact E _ _ dX9_item_94
    · refine mg_iconst (pc := 27) C dX9_item_27 (v := 1) (by decide) ?_
      refine mg_goto (pc := 28) (tgt := 94) C dX9_item_28 (by decide) ?_
      obtain rfl := Option.some.inj hf
      exact E _ _ dX9_item_94
  · refine mg_iconst (pc := 11) C dX9_item_11 (v := 0) (by decide) ?_
    refine mg_goto (pc := 12) (tgt := 94) C dX9_item_12 (by decide) ?_
    obtain rfl := Option.some.inj hf
    exact E _ _ dX9_item_94
abbrev w_X9_numbersOf (k : mg_K) : va_W := []
def f_X9_numbersOf (x0 : Int32) : Option (Int32) := if x0 = 0 then (some 2) else (if 4 ≤ x0 then (if x0 = 4 then (some 3) else (some 4)) else (some 1))
theorem Y_X9_numbersOf : mg_YS yX9_numbersOf cX9_numbersOf 1 (some .int) 1 := ⟨wm_974, wm_11, wm_975, ⟨by decide +kernel, by decide +kernel, by decide +kernel⟩, by decide⟩
set_option maxRecDepth 100000 in
set_option maxHeartbeats 4000000 in
theorem c_X9_numbersOf (l : Launch) (k : mg_K) (x0 : Int32) (q : Int32) (hf : f_X9_numbersOf x0 = some q) : mg_M l yX9_numbersOf cX9_numbersOf 1 (some .int) 0 k [.int x0] (w_X9_numbersOf k) (w_X9_numbersOf k) (some (.int q)) := by
  refine mg_Mi RX9 [(0, .int x0)] (by decide +kernel) rfl rfl (Nat.le_of_ble_eq_true rfl) ?_
  intro z A Q hl C E
  subst hl
  unfold f_X9_numbersOf at hf
  refine mg_iload_n (pc := 0) C 0 dX9_numbersOf_0 rfl rfl ?_
  refine mg_if_ne (pc := 1) (tgt := 8) C dX9_numbersOf_1 (by decide) hf (fun hf => ?_) (fun hf => ?_)
  · refine mg_iload_n (pc := 8) C 0 dX9_numbersOf_8 rfl rfl ?_
    refine mg_iconst (pc := 9) C dX9_numbersOf_9 (v := 4) (by decide) ?_
    refine mg_icmp_ge (pc := 10) (tgt := 17) C dX9_numbersOf_10 (by decide) hf (fun hf => ?_) (fun hf => ?_)
    · refine mg_iload_n (pc := 17) C 0 dX9_numbersOf_17 rfl rfl ?_
      refine mg_iconst (pc := 18) C dX9_numbersOf_18 (v := 4) (by decide) ?_
      refine mg_icmp_ne (pc := 19) (tgt := 26) C dX9_numbersOf_19 (by decide) hf (fun hf => ?_) (fun hf => ?_)
      · refine mg_iconst (pc := 26) C dX9_numbersOf_26 (v := 4) (by decide) ?_
        obtain rfl := Option.some.inj hf
        exact E _ _ dX9_numbersOf_27
      · refine mg_iconst (pc := 22) C dX9_numbersOf_22 (v := 3) (by decide) ?_
        refine mg_goto (pc := 23) (tgt := 27) C dX9_numbersOf_23 (by decide) ?_
        obtain rfl := Option.some.inj hf
        exact E _ _ dX9_numbersOf_27
    · refine mg_iconst (pc := 13) C dX9_numbersOf_13 (v := 1) (by decide) ?_
      refine mg_goto (pc := 14) (tgt := 27) C dX9_numbersOf_14 (by decide) ?_
      obtain rfl := Option.some.inj hf
      exact E _ _ dX9_numbersOf_27
  · refine mg_iconst (pc := 4) C dX9_numbersOf_4 (v := 2) (by decide) ?_
    refine mg_goto (pc := 5) (tgt := 27) C dX9_numbersOf_5 (by decide) ?_
    obtain rfl := Option.some.inj hf
    exact E _ _ dX9_numbersOf_27
abbrev w_X9_boulderAt (k : mg_K) (a_t a_t_s a_t_past a_t_aside a_t_text a_t_told a_t_bottoms a_t_planned : Nat) (v_t_pasts : Int32) (v_t_typed : Int32) (v_t_at : Int32) (v_t_kind : Int32) (v_t_from : Int32) (v_t_value : Int32) (v_t_planLength : Int32) (v_t_planAmount : Int32) (v_t_s : Nat → Int32) : va_W := [(a_t, .inr (9, [.ref a_t_s, .ref a_t_past, .ref a_t_aside, .int v_t_pasts, .ref a_t_text, .int v_t_typed, .int v_t_at, .int v_t_kind, .int v_t_from, .int v_t_value, .ref a_t_told, .ref a_t_bottoms, .ref a_t_planned, .int v_t_planLength, .int v_t_planAmount])), (a_t_s, .inl (k.2.1, 227, .inl v_t_s))]
def f_X9_boulderAt_L6 (v_t_s : Nat → Int32) (x1 : Int32) (x2 : Int32) : Nat → Int32 → Int32 → Option (Int32 × Int32)
  | 0, _, _ => none
  | n_ + 1, x3, x4 => if (v_t_s 33) ≤ x4 then (some ((x3, x4))) else (if mg_ix (34 + (3 * x4)) 227 = true then (if (v_t_s (Int32.toNatClampNeg (34 + (3 * x4)))) = x1 then (if mg_ix ((34 + (3 * x4)) + 1) 227 = true then (if (v_t_s (Int32.toNatClampNeg ((34 + (3 * x4)) + 1))) = x2 then (f_X9_boulderAt_L6 v_t_s x1 x2 n_ x4 (x4 + 1)) else (f_X9_boulderAt_L6 v_t_s x1 x2 n_ x3 (x4 + 1))) else none) else (f_X9_boulderAt_L6 v_t_s x1 x2 n_ x3 (x4 + 1))) else none)
def f_X9_boulderAt (fuel : Nat) (v_t_s : Nat → Int32) (x1 : Int32) (x2 : Int32) : Option (Int32) := (f_X9_boulderAt_L6 v_t_s x1 x2 fuel (-1000009) 0).bind (fun q1 => some q1.1)
theorem Y_X9_boulderAt : mg_Y yX9_boulderAt cX9_boulderAt 5 (some .int) 2 := ⟨wm_986, wp_29, wm_11, wm_987, ⟨by decide +kernel, by decide +kernel, by decide +kernel⟩, by decide⟩
set_option maxRecDepth 100000 in
set_option maxHeartbeats 4000000 in
theorem c_X9_boulderAt (l : Launch) (k : mg_K) (a_t a_t_s a_t_past a_t_aside a_t_text a_t_told a_t_bottoms a_t_planned : Nat) (v_t_pasts : Int32) (v_t_typed : Int32) (v_t_at : Int32) (v_t_kind : Int32) (v_t_from : Int32) (v_t_value : Int32) (v_t_planLength : Int32) (v_t_planAmount : Int32) (v_t_s : Nat → Int32) (fuel : Nat) (x1 : Int32) (x2 : Int32) (q : Int32) (hf : f_X9_boulderAt fuel v_t_s x1 x2 = some q) : mg_M l yX9_boulderAt cX9_boulderAt 5 (some .int) 0 k [.ref a_t, .int x1, .int x2] (w_X9_boulderAt k a_t a_t_s a_t_past a_t_aside a_t_text a_t_told a_t_bottoms a_t_planned v_t_pasts v_t_typed v_t_at v_t_kind v_t_from v_t_value v_t_planLength v_t_planAmount v_t_s) (w_X9_boulderAt k a_t a_t_s a_t_past a_t_aside a_t_text a_t_told a_t_bottoms a_t_planned v_t_pasts v_t_typed v_t_at v_t_kind v_t_from v_t_value v_t_planLength v_t_planAmount v_t_s) (some (.int q)) := by
  refine mg_Mi RX9 [(0, .ref a_t), (1, .int x1), (2, .int x2)] (by decide +kernel) rfl rfl (Nat.le_of_ble_eq_true rfl) ?_
  intro z A Q hl C E
  subst hl
  unfold f_X9_boulderAt at hf
  have L6 : ∀ (x1 : Int32) (x2 : Int32) (n_ : Nat) (x3 : Int32) (x4 : Int32) (q_ : Int32 × Int32), f_X9_boulderAt_L6 v_t_s x1 x2 n_ x3 x4 = some q_ → (mg z k A 5 0 0 Q (w_X9_boulderAt k a_t a_t_s a_t_past a_t_aside a_t_text a_t_told a_t_bottoms a_t_planned v_t_pasts v_t_typed v_t_at v_t_kind v_t_from v_t_value v_t_planLength v_t_planAmount v_t_s) [(3, .int q_.1)] 65 []) → mg z k A 5 0 0 Q (w_X9_boulderAt k a_t a_t_s a_t_past a_t_aside a_t_text a_t_told a_t_bottoms a_t_planned v_t_pasts v_t_typed v_t_at v_t_kind v_t_from v_t_value v_t_planLength v_t_planAmount v_t_s) [(0, .ref a_t), (1, .int x1), (2, .int x2), (3, .int x3), (4, .int x4)] 6 [] := by
    intro x1 x2 n_
    induction n_ with
    | zero => intro x3 x4 q_ hf; exact mg_no (show none = some q_ from hf)
    | succ n_ ih =>
      intro x3 x4 q_ hf X0
      rw [f_X9_boulderAt_L6] at hf
      refine mg_iload (pc := 6) C 4 dX9_boulderAt_6 rfl ?_
      refine mg_aload_n (pc := 8) C 0 dX9_boulderAt_8 rfl rfl ?_
      refine mg_get (pc := 9) C 0 rfl rfl inX9 0 (by decide) wm_874 rfl rfl dX9_boulderAt_9 ?_
      refine mg_bipush (pc := 12) C dX9_boulderAt_12 (v := 33) (by decide) ?_
      refine mg_ialdK (pc := 14) C 1 33 rfl dX9_boulderAt_14 (by decide) (by decide) ?_
      refine mg_icmp_ge (pc := 15) (tgt := 65) C dX9_boulderAt_15 (by decide) hf (fun hf => ?_) (fun hf => ?_)
      · obtain rfl := Option.some.inj hf
        refine mg_lv [3] rfl ?_
        exact X0
      · refine mg_aload_n (pc := 18) C 0 dX9_boulderAt_18 rfl rfl ?_
        refine mg_get (pc := 19) C 0 rfl rfl inX9 0 (by decide) wm_874 rfl rfl dX9_boulderAt_19 ?_
        refine mg_bipush (pc := 22) C dX9_boulderAt_22 (v := 34) (by decide) ?_
        refine mg_iconst (pc := 24) C dX9_boulderAt_24 (v := 3) (by decide) ?_
        refine mg_iload (pc := 25) C 4 dX9_boulderAt_25 rfl ?_
        refine mg_imul (pc := 27) C dX9_boulderAt_27 ?_
        refine mg_iadd (pc := 28) C dX9_boulderAt_28 ?_
        refine mg_iald (pc := 29) C 1 rfl dX9_boulderAt_29 hf (fun hf => ?_)
        refine mg_iload_n (pc := 30) C 1 dX9_boulderAt_30 rfl rfl ?_
        refine mg_icmp_ne (pc := 31) (tgt := 57) C dX9_boulderAt_31 (by decide) hf (fun hf => ?_) (fun hf => ?_)
        · refine mg_iload_n (pc := 57) C 3 dX9_boulderAt_57 rfl rfl ?_
          refine mg_istore_n (pc := 58) C (lv' := [(3, .int x3), (0, .ref a_t), (1, .int x1), (2, .int x2), (4, .int x4)]) dX9_boulderAt_58 rfl (by decide) rfl ?_
          refine mg_iinc (pc := 59) C (c := 1) (lv' := [(4, .int (x4 + 1)), (3, .int x3), (0, .ref a_t), (1, .int x1), (2, .int x2)]) 4 dX9_boulderAt_59 rfl (by decide) (by decide) rfl ?_
          refine mg_goto (pc := 62) (tgt := 6) C dX9_boulderAt_62 (by decide) ?_
          refine mg_lv [2, 3, 4, 1, 0] rfl ?_
          exact ih x3 (x4 + 1) _ hf X0
        · refine mg_aload_n (pc := 34) C 0 dX9_boulderAt_34 rfl rfl ?_
          refine mg_get (pc := 35) C 0 rfl rfl inX9 0 (by decide) wm_874 rfl rfl dX9_boulderAt_35 ?_
          refine mg_bipush (pc := 38) C dX9_boulderAt_38 (v := 34) (by decide) ?_
          refine mg_iconst (pc := 40) C dX9_boulderAt_40 (v := 3) (by decide) ?_
          refine mg_iload (pc := 41) C 4 dX9_boulderAt_41 rfl ?_
          refine mg_imul (pc := 43) C dX9_boulderAt_43 ?_
          refine mg_iadd (pc := 44) C dX9_boulderAt_44 ?_
          refine mg_iconst (pc := 45) C dX9_boulderAt_45 (v := 1) (by decide) ?_
          refine mg_iadd (pc := 46) C dX9_boulderAt_46 ?_
          refine mg_iald (pc := 47) C 1 rfl dX9_boulderAt_47 hf (fun hf => ?_)
          refine mg_iload_n (pc := 48) C 2 dX9_boulderAt_48 rfl rfl ?_
          refine mg_icmp_ne (pc := 49) (tgt := 57) C dX9_boulderAt_49 (by decide) hf (fun hf => ?_) (fun hf => ?_)
          · refine mg_iload_n (pc := 57) C 3 dX9_boulderAt_57 rfl rfl ?_
            refine mg_istore_n (pc := 58) C (lv' := [(3, .int x3), (0, .ref a_t), (1, .int x1), (2, .int x2), (4, .int x4)]) dX9_boulderAt_58 rfl (by decide) rfl ?_
            refine mg_iinc (pc := 59) C (c := 1) (lv' := [(4, .int (x4 + 1)), (3, .int x3), (0, .ref a_t), (1, .int x1), (2, .int x2)]) 4 dX9_boulderAt_59 rfl (by decide) (by decide) rfl ?_
            refine mg_goto (pc := 62) (tgt := 6) C dX9_boulderAt_62 (by decide) ?_
            refine mg_lv [2, 3, 4, 1, 0] rfl ?_
            exact ih x3 (x4 + 1) _ hf X0
          · refine mg_iload (pc := 52) C 4 dX9_boulderAt_52 rfl ?_
            refine mg_goto (pc := 54) (tgt := 58) C dX9_boulderAt_54 (by decide) ?_
            refine mg_istore_n (pc := 58) C (lv' := [(3, .int x4), (0, .ref a_t), (1, .int x1), (2, .int x2), (4, .int x4)]) dX9_boulderAt_58 rfl (by decide) rfl ?_
            refine mg_iinc (pc := 59) C (c := 1) (lv' := [(4, .int (x4 + 1)), (3, .int x4), (0, .ref a_t), (1, .int x1), (2, .int x2)]) 4 dX9_boulderAt_59 rfl (by decide) (by decide) rfl ?_
            refine mg_goto (pc := 62) (tgt := 6) C dX9_boulderAt_62 (by decide) ?_
            refine mg_lv [2, 3, 4, 1, 0] rfl ?_
            exact ih x4 (x4 + 1) _ hf X0
  refine mg_ldc (pc := 0) C wm_964 dX9_boulderAt_0 ?_
  refine mg_istore_n (pc := 2) C (lv' := [(3, .int (-1000009)), (0, .ref a_t), (1, .int x1), (2, .int x2)]) dX9_boulderAt_2 rfl (by decide) rfl ?_
  refine mg_iconst (pc := 3) C dX9_boulderAt_3 (v := 0) (by decide) ?_
  refine mg_istore (pc := 4) C (lv' := [(4, .int 0), (3, .int (-1000009)), (0, .ref a_t), (1, .int x1), (2, .int x2)]) dX9_boulderAt_4 (by decide) rfl ?_
  obtain ⟨q1, h2, hf⟩ := mg_b hf
  refine mg_lv [2, 3, 4, 1, 0] rfl ?_
  refine L6 x1 x2 fuel (-1000009) 0 q1 h2 ?_
  refine mg_iload_n (pc := 65) C 0 dX9_boulderAt_65 rfl rfl ?_
  obtain rfl := Option.some.inj hf
  exact E _ _ dX9_boulderAt_66
abbrev w_X9_isBoulderTold (k : mg_K) (a_t a_t_s a_t_past a_t_aside a_t_text a_t_told a_t_bottoms a_t_planned : Nat) (v_t_pasts : Int32) (v_t_typed : Int32) (v_t_at : Int32) (v_t_kind : Int32) (v_t_from : Int32) (v_t_value : Int32) (v_t_planLength : Int32) (v_t_planAmount : Int32) (v_t_s : Nat → Int32) (v_t_told : Nat → Int32) : va_W := [(a_t, .inr (9, [.ref a_t_s, .ref a_t_past, .ref a_t_aside, .int v_t_pasts, .ref a_t_text, .int v_t_typed, .int v_t_at, .int v_t_kind, .int v_t_from, .int v_t_value, .ref a_t_told, .ref a_t_bottoms, .ref a_t_planned, .int v_t_planLength, .int v_t_planAmount])), (a_t_s, .inl (k.2.1, 227, .inl v_t_s)), (a_t_told, .inl (k.2.1, 4, .inl v_t_told))]
def f_X9_isBoulderTold (fuel : Nat) (v_t_value : Int32) (v_t_s : Nat → Int32) (v_t_told : Nat → Int32) (x1 : Int32) : Option (Int32) := if 2 ≤ x1 then (if x1 = 3 then ((f_X9_in v_t_value 1 50).bind (fun q5 => if q5 &&& 1 = q5 then some q5 else none)) else ((f_X9_in v_t_value 1 200).bind (fun q1 => if q1 = 0 then (some 0) else ((f_X9_boulderAt fuel v_t_s (((v_t_told 1) * (v_t_s 0)) + (v_t_told 0)) v_t_value).bind (fun q3 => if 0 ≤ q3 then (some 0) else (some 1)))))) else (if x1 = 0 then ((f_X9_in v_t_value 0 ((v_t_s 0) - 1)).bind (fun q11 => if q11 &&& 1 = q11 then some q11 else none)) else ((f_X9_in v_t_value 0 ((v_t_s 1) - 1)).bind (fun q8 => if q8 &&& 1 = q8 then some q8 else none)))
theorem Y_X9_isBoulderTold : mg_Y yX9_isBoulderTold cX9_isBoulderTold 2 (some .boolean) 1 := ⟨wm_982, wp_28, wm_11, wm_983, ⟨by decide +kernel, by decide +kernel, by decide +kernel⟩, by decide⟩
set_option maxRecDepth 100000 in
set_option maxHeartbeats 4000000 in
theorem c_X9_isBoulderTold (l : Launch) (k : mg_K) (a_t a_t_s a_t_past a_t_aside a_t_text a_t_told a_t_bottoms a_t_planned : Nat) (v_t_pasts : Int32) (v_t_typed : Int32) (v_t_at : Int32) (v_t_kind : Int32) (v_t_from : Int32) (v_t_value : Int32) (v_t_planLength : Int32) (v_t_planAmount : Int32) (v_t_s : Nat → Int32) (v_t_told : Nat → Int32) (fuel : Nat) (x1 : Int32) (q : Int32) (hf : f_X9_isBoulderTold fuel v_t_value v_t_s v_t_told x1 = some q) : mg_M l yX9_isBoulderTold cX9_isBoulderTold 2 (some .boolean) 1 k [.ref a_t, .int x1] (w_X9_isBoulderTold k a_t a_t_s a_t_past a_t_aside a_t_text a_t_told a_t_bottoms a_t_planned v_t_pasts v_t_typed v_t_at v_t_kind v_t_from v_t_value v_t_planLength v_t_planAmount v_t_s v_t_told) (w_X9_isBoulderTold k a_t a_t_s a_t_past a_t_aside a_t_text a_t_told a_t_bottoms a_t_planned v_t_pasts v_t_typed v_t_at v_t_kind v_t_from v_t_value v_t_planLength v_t_planAmount v_t_s v_t_told) (some (.int q)) := by
  refine mg_Mz RX9 [(0, .ref a_t), (1, .int x1)] (by decide +kernel) rfl rfl (Nat.le_of_ble_eq_true rfl) ?_
  intro z A Q hl C E
  subst hl
  unfold f_X9_isBoulderTold at hf
  refine mg_iload_n (pc := 0) C 1 dX9_isBoulderTold_0 rfl rfl ?_
  refine mg_iconst (pc := 1) C dX9_isBoulderTold_1 (v := 2) (by decide) ?_
  refine mg_icmp_ge (pc := 2) (tgt := 30) C dX9_isBoulderTold_2 (by decide) hf (fun hf => ?_) (fun hf => ?_)
  · refine mg_iload_n (pc := 30) C 1 dX9_isBoulderTold_30 rfl rfl ?_
    refine mg_iconst (pc := 31) C dX9_isBoulderTold_31 (v := 3) (by decide) ?_
    refine mg_icmp_ne (pc := 32) (tgt := 48) C dX9_isBoulderTold_32 (by decide) hf (fun hf => ?_) (fun hf => ?_)
    · refine mg_aload_n (pc := 48) C 0 dX9_isBoulderTold_48 rfl rfl ?_
      refine mg_get (pc := 49) C 0 rfl rfl inX9 9 (by decide) wm_883 rfl rfl dX9_isBoulderTold_49 ?_
      refine mg_iconst (pc := 52) C dX9_isBoulderTold_52 (v := 1) (by decide) ?_
      refine mg_sipush (pc := 53) C dX9_isBoulderTold_53 (v := 200) (by decide) ?_
      obtain ⟨q1, h2, hf⟩ := mg_b hf
      refine mg_callS (pc := 56) C (w2 := w_X9_isBoulderTold k a_t a_t_s a_t_past a_t_aside a_t_text a_t_told a_t_bottoms a_t_planned v_t_pasts v_t_typed v_t_at v_t_kind v_t_from v_t_value v_t_planLength v_t_planAmount v_t_s v_t_told) (c_X9_in z.2.1 k v_t_value 1 200 q1 h2) Y_X9_in wm_924 (by decide) rfl [] rfl (by decide) rfl [none, none, none] (by decide) rfl (Nat.le_of_ble_eq_true rfl) rfl dX9_isBoulderTold_56 ?_
      refine mg_if_eq (pc := 59) (tgt := 97) C dX9_isBoulderTold_59 (by decide) hf (fun hf => ?_) (fun hf => ?_)
      · refine mg_iconst (pc := 97) C dX9_isBoulderTold_97 (v := 0) (by decide) ?_
        obtain rfl := Option.some.inj hf
        exact E mg_n0 _ _ dX9_isBoulderTold_98
      · refine mg_aload_n (pc := 62) C 0 dX9_isBoulderTold_62 rfl rfl ?_
        refine mg_aload_n (pc := 63) C 0 dX9_isBoulderTold_63 rfl rfl ?_
        refine mg_get (pc := 64) C 0 rfl rfl inX9 10 (by decide) wm_884 rfl rfl dX9_isBoulderTold_64 ?_
        refine mg_iconst (pc := 67) C dX9_isBoulderTold_67 (v := 1) (by decide) ?_
        refine mg_ialdK (pc := 68) C 2 1 rfl dX9_isBoulderTold_68 (by decide) (by decide) ?_
        refine mg_aload_n (pc := 69) C 0 dX9_isBoulderTold_69 rfl rfl ?_
        refine mg_get (pc := 70) C 0 rfl rfl inX9 0 (by decide) wm_874 rfl rfl dX9_isBoulderTold_70 ?_
        refine mg_iconst (pc := 73) C dX9_isBoulderTold_73 (v := 0) (by decide) ?_
        refine mg_ialdK (pc := 74) C 1 0 rfl dX9_isBoulderTold_74 (by decide) (by decide) ?_
        refine mg_imul (pc := 75) C dX9_isBoulderTold_75 ?_
        refine mg_aload_n (pc := 76) C 0 dX9_isBoulderTold_76 rfl rfl ?_
        refine mg_get (pc := 77) C 0 rfl rfl inX9 10 (by decide) wm_884 rfl rfl dX9_isBoulderTold_77 ?_
        refine mg_iconst (pc := 80) C dX9_isBoulderTold_80 (v := 0) (by decide) ?_
        refine mg_ialdK (pc := 81) C 2 0 rfl dX9_isBoulderTold_81 (by decide) (by decide) ?_
        refine mg_iadd (pc := 82) C dX9_isBoulderTold_82 ?_
        refine mg_aload_n (pc := 83) C 0 dX9_isBoulderTold_83 rfl rfl ?_
        refine mg_get (pc := 84) C 0 rfl rfl inX9 9 (by decide) wm_883 rfl rfl dX9_isBoulderTold_84 ?_
        obtain ⟨q3, h4, hf⟩ := mg_b hf
        refine mg_callV (pc := 87) C (w2 := w_X9_isBoulderTold k a_t a_t_s a_t_past a_t_aside a_t_text a_t_told a_t_bottoms a_t_planned v_t_pasts v_t_typed v_t_at v_t_kind v_t_from v_t_value v_t_planLength v_t_planAmount v_t_s v_t_told) (c_X9_boulderAt z.2.1 k a_t a_t_s a_t_past a_t_aside a_t_text a_t_told a_t_bottoms a_t_planned v_t_pasts v_t_typed v_t_at v_t_kind v_t_from v_t_value v_t_planLength v_t_planAmount v_t_s fuel (((v_t_told 1) * (v_t_s 0)) + (v_t_told 0)) v_t_value q3 h4) Y_X9_boulderAt wm_984 (by decide) rfl 0 rfl rfl rfl [0, 1] rfl (by decide) rfl [some 0, some 1, none] (by decide) rfl (Nat.le_of_ble_eq_true rfl) rfl dX9_isBoulderTold_87 ?_
        refine mg_if_ge (pc := 90) (tgt := 97) C dX9_isBoulderTold_90 (by decide) hf (fun hf => ?_) (fun hf => ?_)
        · refine mg_iconst (pc := 97) C dX9_isBoulderTold_97 (v := 0) (by decide) ?_
          obtain rfl := Option.some.inj hf
          exact E mg_n0 _ _ dX9_isBoulderTold_98
        · refine mg_iconst (pc := 93) C dX9_isBoulderTold_93 (v := 1) (by decide) ?_
          refine mg_goto (pc := 94) (tgt := 98) C dX9_isBoulderTold_94 (by decide) ?_
          obtain rfl := Option.some.inj hf
          exact E mg_n1 _ _ dX9_isBoulderTold_98
    · refine mg_aload_n (pc := 35) C 0 dX9_isBoulderTold_35 rfl rfl ?_
      refine mg_get (pc := 36) C 0 rfl rfl inX9 9 (by decide) wm_883 rfl rfl dX9_isBoulderTold_36 ?_
      refine mg_iconst (pc := 39) C dX9_isBoulderTold_39 (v := 1) (by decide) ?_
      refine mg_bipush (pc := 40) C dX9_isBoulderTold_40 (v := 50) (by decide) ?_
      obtain ⟨q5, h6, hf⟩ := mg_b hf
      refine mg_callS (pc := 42) C (w2 := w_X9_isBoulderTold k a_t a_t_s a_t_past a_t_aside a_t_text a_t_told a_t_bottoms a_t_planned v_t_pasts v_t_typed v_t_at v_t_kind v_t_from v_t_value v_t_planLength v_t_planAmount v_t_s v_t_told) (c_X9_in z.2.1 k v_t_value 1 50 q5 h6) Y_X9_in wm_924 (by decide) rfl [] rfl (by decide) rfl [none, none, none] (by decide) rfl (Nat.le_of_ble_eq_true rfl) rfl dX9_isBoulderTold_42 ?_
      refine mg_goto (pc := 45) (tgt := 98) C dX9_isBoulderTold_45 (by decide) ?_
      obtain ⟨d7, hf⟩ := mg_ck hf
      obtain rfl := Option.some.inj hf
      exact E (mg_nb d7) _ _ dX9_isBoulderTold_98
  · refine mg_aload_n (pc := 5) C 0 dX9_isBoulderTold_5 rfl rfl ?_
    refine mg_get (pc := 6) C 0 rfl rfl inX9 9 (by decide) wm_883 rfl rfl dX9_isBoulderTold_6 ?_
    refine mg_iconst (pc := 9) C dX9_isBoulderTold_9 (v := 0) (by decide) ?_
    refine mg_aload_n (pc := 10) C 0 dX9_isBoulderTold_10 rfl rfl ?_
    refine mg_get (pc := 11) C 0 rfl rfl inX9 0 (by decide) wm_874 rfl rfl dX9_isBoulderTold_11 ?_
    refine mg_iload_n (pc := 14) C 1 dX9_isBoulderTold_14 rfl rfl ?_
    refine mg_if_ne (pc := 15) (tgt := 22) C dX9_isBoulderTold_15 (by decide) hf (fun hf => ?_) (fun hf => ?_)
    · refine mg_iconst (pc := 22) C dX9_isBoulderTold_22 (v := 1) (by decide) ?_
      refine mg_ialdK (pc := 23) C 1 1 rfl dX9_isBoulderTold_23 (by decide) (by decide) ?_
      refine mg_iconst (pc := 24) C dX9_isBoulderTold_24 (v := 1) (by decide) ?_
      refine mg_isub (pc := 25) C dX9_isBoulderTold_25 ?_
      obtain ⟨q8, h9, hf⟩ := mg_b hf
      refine mg_callS (pc := 26) C (w2 := w_X9_isBoulderTold k a_t a_t_s a_t_past a_t_aside a_t_text a_t_told a_t_bottoms a_t_planned v_t_pasts v_t_typed v_t_at v_t_kind v_t_from v_t_value v_t_planLength v_t_planAmount v_t_s v_t_told) (c_X9_in z.2.1 k v_t_value 0 ((v_t_s 1) - 1) q8 h9) Y_X9_in wm_924 (by decide) rfl [] rfl (by decide) rfl [none, none, none] (by decide) rfl (Nat.le_of_ble_eq_true rfl) rfl dX9_isBoulderTold_26 ?_
      obtain ⟨d10, hf⟩ := mg_ck hf
      obtain rfl := Option.some.inj hf
      exact E (mg_nb d10) _ _ dX9_isBoulderTold_29
    · refine mg_iconst (pc := 18) C dX9_isBoulderTold_18 (v := 0) (by decide) ?_
      refine mg_goto (pc := 19) (tgt := 23) C dX9_isBoulderTold_19 (by decide) ?_
      refine mg_ialdK (pc := 23) C 1 0 rfl dX9_isBoulderTold_23 (by decide) (by decide) ?_
      refine mg_iconst (pc := 24) C dX9_isBoulderTold_24 (v := 1) (by decide) ?_
      refine mg_isub (pc := 25) C dX9_isBoulderTold_25 ?_
      obtain ⟨q11, h12, hf⟩ := mg_b hf
      refine mg_callS (pc := 26) C (w2 := w_X9_isBoulderTold k a_t a_t_s a_t_past a_t_aside a_t_text a_t_told a_t_bottoms a_t_planned v_t_pasts v_t_typed v_t_at v_t_kind v_t_from v_t_value v_t_planLength v_t_planAmount v_t_s v_t_told) (c_X9_in z.2.1 k v_t_value 0 ((v_t_s 0) - 1) q11 h12) Y_X9_in wm_924 (by decide) rfl [] rfl (by decide) rfl [none, none, none] (by decide) rfl (Nat.le_of_ble_eq_true rfl) rfl dX9_isBoulderTold_26 ?_
      obtain ⟨d13, hf⟩ := mg_ck hf
      obtain rfl := Option.some.inj hf
      exact E (mg_nb d13) _ _ dX9_isBoulderTold_29
abbrev w_X9_isTold (k : mg_K) (a_t a_t_s a_t_past a_t_aside a_t_text a_t_told a_t_bottoms a_t_planned : Nat) (v_t_pasts : Int32) (v_t_typed : Int32) (v_t_at : Int32) (v_t_kind : Int32) (v_t_from : Int32) (v_t_value : Int32) (v_t_planLength : Int32) (v_t_planAmount : Int32) (v_t_s : Nat → Int32) (v_t_told : Nat → Int32) : va_W := [(a_t, .inr (9, [.ref a_t_s, .ref a_t_past, .ref a_t_aside, .int v_t_pasts, .ref a_t_text, .int v_t_typed, .int v_t_at, .int v_t_kind, .int v_t_from, .int v_t_value, .ref a_t_told, .ref a_t_bottoms, .ref a_t_planned, .int v_t_planLength, .int v_t_planAmount])), (a_t_s, .inl (k.2.1, 227, .inl v_t_s)), (a_t_told, .inl (k.2.1, 4, .inl v_t_told))]
def f_X9_isTold_J96 (x2 : Int32) (y0 : Int32) (y1 : Int32) : Option (Int32) := if x2 = 0 then ((f_X9_in y0 y1 100).bind (fun q24 => if q24 &&& 1 = q24 then some q24 else none)) else (if x2 = 1 then ((f_X9_in y0 y1 50).bind (fun q21 => if q21 &&& 1 = q21 then some q21 else none)) else ((f_X9_in y0 y1 9).bind (fun q18 => if q18 &&& 1 = q18 then some q18 else none)))
def f_X9_isTold (fuel : Nat) (v_t_value : Int32) (v_t_s : Nat → Int32) (v_t_told : Nat → Int32) (x1 : Int32) (x2 : Int32) : Option (Int32) := if x1 = 0 then ((f_X9_in v_t_value 3 7).bind (fun q2 => if q2 &&& 1 = q2 then some q2 else none)) else if x1 = 1 then ((f_X9_in v_t_value 1 9999).bind (fun q6 => if q6 &&& 1 = q6 then some q6 else none)) else if x1 = 2 then ((f_X9_in v_t_value 0 400).bind (fun q10 => if q10 &&& 1 = q10 then some q10 else none)) else if x1 = 3 then ((f_X9_in v_t_value 0 9999).bind (fun q14 => if q14 &&& 1 = q14 then some q14 else none)) else if x1 = 4 then (if x2 = 0 then (f_X9_isTold_J96 x2 v_t_value 1) else (f_X9_isTold_J96 x2 v_t_value 0)) else ((f_X9_isBoulderTold fuel v_t_value v_t_s v_t_told x2).bind (fun q27 => if q27 &&& 1 = q27 then some q27 else none))
theorem Y_X9_isTold : mg_Y yX9_isTold cX9_isTold 3 (some .boolean) 2 := ⟨wm_978, wp_27, wm_11, wm_979, ⟨by decide +kernel, by decide +kernel, by decide +kernel⟩, by decide⟩
set_option maxRecDepth 100000 in
set_option maxHeartbeats 4000000 in
theorem c_X9_isTold (l : Launch) (k : mg_K) (a_t a_t_s a_t_past a_t_aside a_t_text a_t_told a_t_bottoms a_t_planned : Nat) (v_t_pasts : Int32) (v_t_typed : Int32) (v_t_at : Int32) (v_t_kind : Int32) (v_t_from : Int32) (v_t_value : Int32) (v_t_planLength : Int32) (v_t_planAmount : Int32) (v_t_s : Nat → Int32) (v_t_told : Nat → Int32) (fuel : Nat) (x1 : Int32) (x2 : Int32) (q : Int32) (hf : f_X9_isTold fuel v_t_value v_t_s v_t_told x1 x2 = some q) : mg_M l yX9_isTold cX9_isTold 3 (some .boolean) 2 k [.ref a_t, .int x1, .int x2] (w_X9_isTold k a_t a_t_s a_t_past a_t_aside a_t_text a_t_told a_t_bottoms a_t_planned v_t_pasts v_t_typed v_t_at v_t_kind v_t_from v_t_value v_t_planLength v_t_planAmount v_t_s v_t_told) (w_X9_isTold k a_t a_t_s a_t_past a_t_aside a_t_text a_t_told a_t_bottoms a_t_planned v_t_pasts v_t_typed v_t_at v_t_kind v_t_from v_t_value v_t_planLength v_t_planAmount v_t_s v_t_told) (some (.int q)) := by
  refine mg_Mz RX9 [(0, .ref a_t), (1, .int x1), (2, .int x2)] (by decide +kernel) rfl rfl (Nat.le_of_ble_eq_true rfl) ?_
  intro z A Q hl C E
  subst hl
  unfold f_X9_isTold at hf
  have J96 : ∀ (x2 : Int32) (y0 : Int32) (y1 : Int32), f_X9_isTold_J96 x2 y0 y1 = some q → mg z k A 3 0 0 Q (w_X9_isTold k a_t a_t_s a_t_past a_t_aside a_t_text a_t_told a_t_bottoms a_t_planned v_t_pasts v_t_typed v_t_at v_t_kind v_t_from v_t_value v_t_planLength v_t_planAmount v_t_s v_t_told) [(2, .int x2)] 96 [.int y1, .int y0] := by
    intro x2 y0 y1 hf
    unfold f_X9_isTold_J96 at hf
    refine mg_iload_n (pc := 96) C 0 dX9_isTold_96 rfl rfl ?_
    refine mg_if_ne (pc := 97) (tgt := 105) C dX9_isTold_97 (by decide) hf (fun hf => ?_) (fun hf => ?_)
    · refine mg_iload_n (pc := 105) C 0 dX9_isTold_105 rfl rfl ?_
      refine mg_iconst (pc := 106) C dX9_isTold_106 (v := 1) (by decide) ?_
      refine mg_icmp_ne (pc := 107) (tgt := 115) C dX9_isTold_107 (by decide) hf (fun hf => ?_) (fun hf => ?_)
      · refine mg_bipush (pc := 115) C dX9_isTold_115 (v := 9) (by decide) ?_
        obtain ⟨q18, h19, hf⟩ := mg_b hf
        refine mg_callS (pc := 117) C (w2 := w_X9_isTold k a_t a_t_s a_t_past a_t_aside a_t_text a_t_told a_t_bottoms a_t_planned v_t_pasts v_t_typed v_t_at v_t_kind v_t_from v_t_value v_t_planLength v_t_planAmount v_t_s v_t_told) (c_X9_in z.2.1 k y0 y1 9 q18 h19) Y_X9_in wm_924 (by decide) rfl [] rfl (by decide) rfl [none, none, none] (by decide) rfl (Nat.le_of_ble_eq_true rfl) rfl dX9_isTold_117 ?_
        obtain ⟨d20, hf⟩ := mg_ck hf
        obtain rfl := Option.some.inj hf
        exact E (mg_nb d20) _ _ dX9_isTold_120
      · refine mg_bipush (pc := 110) C dX9_isTold_110 (v := 50) (by decide) ?_
        refine mg_goto (pc := 112) (tgt := 117) C dX9_isTold_112 (by decide) ?_
        obtain ⟨q21, h22, hf⟩ := mg_b hf
        refine mg_callS (pc := 117) C (w2 := w_X9_isTold k a_t a_t_s a_t_past a_t_aside a_t_text a_t_told a_t_bottoms a_t_planned v_t_pasts v_t_typed v_t_at v_t_kind v_t_from v_t_value v_t_planLength v_t_planAmount v_t_s v_t_told) (c_X9_in z.2.1 k y0 y1 50 q21 h22) Y_X9_in wm_924 (by decide) rfl [] rfl (by decide) rfl [none, none, none] (by decide) rfl (Nat.le_of_ble_eq_true rfl) rfl dX9_isTold_117 ?_
        obtain ⟨d23, hf⟩ := mg_ck hf
        obtain rfl := Option.some.inj hf
        exact E (mg_nb d23) _ _ dX9_isTold_120
    · refine mg_bipush (pc := 100) C dX9_isTold_100 (v := 100) (by decide) ?_
      refine mg_goto (pc := 102) (tgt := 117) C dX9_isTold_102 (by decide) ?_
      obtain ⟨q24, h25, hf⟩ := mg_b hf
      refine mg_callS (pc := 117) C (w2 := w_X9_isTold k a_t a_t_s a_t_past a_t_aside a_t_text a_t_told a_t_bottoms a_t_planned v_t_pasts v_t_typed v_t_at v_t_kind v_t_from v_t_value v_t_planLength v_t_planAmount v_t_s v_t_told) (c_X9_in z.2.1 k y0 y1 100 q24 h25) Y_X9_in wm_924 (by decide) rfl [] rfl (by decide) rfl [none, none, none] (by decide) rfl (Nat.le_of_ble_eq_true rfl) rfl dX9_isTold_117 ?_
      obtain ⟨d26, hf⟩ := mg_ck hf
      obtain rfl := Option.some.inj hf
      exact E (mg_nb d26) _ _ dX9_isTold_120
  refine mg_iload_n (pc := 0) C 1 dX9_isTold_0 rfl rfl ?_
  refine mg_cs hf (fun e1 hf => ?_) (fun e1 hf => ?_)
  · refine mg_tableIn (pc := 1) (off := 35) (tgt := 36) C 0 e1 dX9_isTold_1 (by decide) (by decide) (by decide) (by decide) ?_
    refine mg_aload_n (pc := 36) C 0 dX9_isTold_36 rfl rfl ?_
    refine mg_get (pc := 37) C 0 rfl rfl inX9 9 (by decide) wm_883 rfl rfl dX9_isTold_37 ?_
    refine mg_iconst (pc := 40) C dX9_isTold_40 (v := 3) (by decide) ?_
    refine mg_bipush (pc := 41) C dX9_isTold_41 (v := 7) (by decide) ?_
    obtain ⟨q2, h3, hf⟩ := mg_b hf
    refine mg_callS (pc := 43) C (w2 := w_X9_isTold k a_t a_t_s a_t_past a_t_aside a_t_text a_t_told a_t_bottoms a_t_planned v_t_pasts v_t_typed v_t_at v_t_kind v_t_from v_t_value v_t_planLength v_t_planAmount v_t_s v_t_told) (c_X9_in z.2.1 k v_t_value 3 7 q2 h3) Y_X9_in wm_924 (by decide) rfl [] rfl (by decide) rfl [none, none, none] (by decide) rfl (Nat.le_of_ble_eq_true rfl) rfl dX9_isTold_43 ?_
    obtain ⟨d4, hf⟩ := mg_ck hf
    obtain rfl := Option.some.inj hf
    exact E (mg_nb d4) _ _ dX9_isTold_46
  refine mg_cs hf (fun e5 hf => ?_) (fun e5 hf => ?_)
  · refine mg_tableIn (pc := 1) (off := 46) (tgt := 47) C 1 e5 dX9_isTold_1 (by decide) (by decide) (by decide) (by decide) ?_
    refine mg_aload_n (pc := 47) C 0 dX9_isTold_47 rfl rfl ?_
    refine mg_get (pc := 48) C 0 rfl rfl inX9 9 (by decide) wm_883 rfl rfl dX9_isTold_48 ?_
    refine mg_iconst (pc := 51) C dX9_isTold_51 (v := 1) (by decide) ?_
    refine mg_sipush (pc := 52) C dX9_isTold_52 (v := 9999) (by decide) ?_
    obtain ⟨q6, h7, hf⟩ := mg_b hf
    refine mg_callS (pc := 55) C (w2 := w_X9_isTold k a_t a_t_s a_t_past a_t_aside a_t_text a_t_told a_t_bottoms a_t_planned v_t_pasts v_t_typed v_t_at v_t_kind v_t_from v_t_value v_t_planLength v_t_planAmount v_t_s v_t_told) (c_X9_in z.2.1 k v_t_value 1 9999 q6 h7) Y_X9_in wm_924 (by decide) rfl [] rfl (by decide) rfl [none, none, none] (by decide) rfl (Nat.le_of_ble_eq_true rfl) rfl dX9_isTold_55 ?_
    obtain ⟨d8, hf⟩ := mg_ck hf
    obtain rfl := Option.some.inj hf
    exact E (mg_nb d8) _ _ dX9_isTold_58
  refine mg_cs hf (fun e9 hf => ?_) (fun e9 hf => ?_)
  · refine mg_tableIn (pc := 1) (off := 58) (tgt := 59) C 2 e9 dX9_isTold_1 (by decide) (by decide) (by decide) (by decide) ?_
    refine mg_aload_n (pc := 59) C 0 dX9_isTold_59 rfl rfl ?_
    refine mg_get (pc := 60) C 0 rfl rfl inX9 9 (by decide) wm_883 rfl rfl dX9_isTold_60 ?_
    refine mg_iconst (pc := 63) C dX9_isTold_63 (v := 0) (by decide) ?_
    refine mg_sipush (pc := 64) C dX9_isTold_64 (v := 400) (by decide) ?_
    obtain ⟨q10, h11, hf⟩ := mg_b hf
    refine mg_callS (pc := 67) C (w2 := w_X9_isTold k a_t a_t_s a_t_past a_t_aside a_t_text a_t_told a_t_bottoms a_t_planned v_t_pasts v_t_typed v_t_at v_t_kind v_t_from v_t_value v_t_planLength v_t_planAmount v_t_s v_t_told) (c_X9_in z.2.1 k v_t_value 0 400 q10 h11) Y_X9_in wm_924 (by decide) rfl [] rfl (by decide) rfl [none, none, none] (by decide) rfl (Nat.le_of_ble_eq_true rfl) rfl dX9_isTold_67 ?_
    obtain ⟨d12, hf⟩ := mg_ck hf
    obtain rfl := Option.some.inj hf
    exact E (mg_nb d12) _ _ dX9_isTold_70
  refine mg_cs hf (fun e13 hf => ?_) (fun e13 hf => ?_)
  · refine mg_tableIn (pc := 1) (off := 70) (tgt := 71) C 3 e13 dX9_isTold_1 (by decide) (by decide) (by decide) (by decide) ?_
    refine mg_aload_n (pc := 71) C 0 dX9_isTold_71 rfl rfl ?_
    refine mg_get (pc := 72) C 0 rfl rfl inX9 9 (by decide) wm_883 rfl rfl dX9_isTold_72 ?_
    refine mg_iconst (pc := 75) C dX9_isTold_75 (v := 0) (by decide) ?_
    refine mg_sipush (pc := 76) C dX9_isTold_76 (v := 9999) (by decide) ?_
    obtain ⟨q14, h15, hf⟩ := mg_b hf
    refine mg_callS (pc := 79) C (w2 := w_X9_isTold k a_t a_t_s a_t_past a_t_aside a_t_text a_t_told a_t_bottoms a_t_planned v_t_pasts v_t_typed v_t_at v_t_kind v_t_from v_t_value v_t_planLength v_t_planAmount v_t_s v_t_told) (c_X9_in z.2.1 k v_t_value 0 9999 q14 h15) Y_X9_in wm_924 (by decide) rfl [] rfl (by decide) rfl [none, none, none] (by decide) rfl (Nat.le_of_ble_eq_true rfl) rfl dX9_isTold_79 ?_
    obtain ⟨d16, hf⟩ := mg_ck hf
    obtain rfl := Option.some.inj hf
    exact E (mg_nb d16) _ _ dX9_isTold_82
  refine mg_cs hf (fun e17 hf => ?_) (fun e17 hf => ?_)
  · refine mg_tableIn (pc := 1) (off := 82) (tgt := 83) C 4 e17 dX9_isTold_1 (by decide) (by decide) (by decide) (by decide) ?_
    refine mg_aload_n (pc := 83) C 0 dX9_isTold_83 rfl rfl ?_
    refine mg_get (pc := 84) C 0 rfl rfl inX9 9 (by decide) wm_883 rfl rfl dX9_isTold_84 ?_
    refine mg_iload_n (pc := 87) C 2 dX9_isTold_87 rfl rfl ?_
    refine mg_if_ne (pc := 88) (tgt := 95) C dX9_isTold_88 (by decide) hf (fun hf => ?_) (fun hf => ?_)
    · refine mg_iconst (pc := 95) C dX9_isTold_95 (v := 0) (by decide) ?_
      refine mg_lv [2] rfl ?_
      exact J96 x2 v_t_value 0 hf
    · refine mg_iconst (pc := 91) C dX9_isTold_91 (v := 1) (by decide) ?_
      refine mg_goto (pc := 92) (tgt := 96) C dX9_isTold_92 (by decide) ?_
      refine mg_lv [2] rfl ?_
      exact J96 x2 v_t_value 1 hf
  refine mg_tableOut (pc := 1) (tgt := 121) C dX9_isTold_1 (by have e1_ := mg_ne e1 (i := 0) (by decide); have e5_ := mg_ne e5 (i := 1) (by decide); have e9_ := mg_ne e9 (i := 2) (by decide); have e13_ := mg_ne e13 (i := 3) (by decide); have e17_ := mg_ne e17 (i := 4) (by decide); omega) (by decide) ?_
  refine mg_aload_n (pc := 121) C 0 dX9_isTold_121 rfl rfl ?_
  refine mg_iload_n (pc := 122) C 2 dX9_isTold_122 rfl rfl ?_
  obtain ⟨q27, h28, hf⟩ := mg_b hf
  refine mg_callV (pc := 123) C (w2 := w_X9_isTold k a_t a_t_s a_t_past a_t_aside a_t_text a_t_told a_t_bottoms a_t_planned v_t_pasts v_t_typed v_t_at v_t_kind v_t_from v_t_value v_t_planLength v_t_planAmount v_t_s v_t_told) (c_X9_isBoulderTold z.2.1 k a_t a_t_s a_t_past a_t_aside a_t_text a_t_told a_t_bottoms a_t_planned v_t_pasts v_t_typed v_t_at v_t_kind v_t_from v_t_value v_t_planLength v_t_planAmount v_t_s v_t_told fuel x2 q27 h28) Y_X9_isBoulderTold wm_980 (by decide) rfl 0 rfl rfl rfl [0, 1, 2] rfl (by decide) rfl [some 0, some 1, some 2] (by decide) rfl (Nat.le_of_ble_eq_true rfl) rfl dX9_isTold_123 ?_
  obtain ⟨d29, hf⟩ := mg_ck hf
  obtain rfl := Option.some.inj hf
  exact E (mg_nb d29) _ _ dX9_isTold_126
abbrev w_X9_putsBoulder (k : mg_K) (a_t a_t_s a_t_past a_t_aside a_t_text a_t_told a_t_bottoms a_t_planned : Nat) (v_t_pasts : Int32) (v_t_typed : Int32) (v_t_at : Int32) (v_t_kind : Int32) (v_t_from : Int32) (v_t_value : Int32) (v_t_planLength : Int32) (v_t_planAmount : Int32) (v_t_s : Nat → Int32) : va_W := [(a_t, .inr (9, [.ref a_t_s, .ref a_t_past, .ref a_t_aside, .int v_t_pasts, .ref a_t_text, .int v_t_typed, .int v_t_at, .int v_t_kind, .int v_t_from, .int v_t_value, .ref a_t_told, .ref a_t_bottoms, .ref a_t_planned, .int v_t_planLength, .int v_t_planAmount])), (a_t_s, .inl (k.2.1, 227, .inl v_t_s))]
def f_X9_putsBoulder_L60 (x4 : Int32) : Nat → Int32 → (Nat → Int32) → Option (Int32 × (Nat → Int32))
  | 0, _, _ => none
  | n_ + 1, x5, v_t_s => if 3 ≤ x5 then (some ((x5, v_t_s))) else (if mg_ix (((34 + (3 * x4)) - 3) + x5) 227 = true then (if mg_ix ((34 + (3 * x4)) + x5) 227 = true then (f_X9_putsBoulder_L60 x4 n_ (x5 + 1) (upd v_t_s (Int32.toNatClampNeg ((34 + (3 * x4)) + x5)) (v_t_s (Int32.toNatClampNeg (((34 + (3 * x4)) - 3) + x5))))) else none) else none)
def f_X9_putsBoulder_L9 (fuel : Nat) (x1 : Int32) (x2 : Int32) : Nat → Int32 → (Nat → Int32) → Option (Int32 × (Nat → Int32))
  | 0, _, _ => none
  | n_ + 1, x4, v_t_s => if x4 ≤ 0 then (some ((x4, v_t_s))) else (if mg_ix ((34 + (3 * x4)) - 3) 227 = true then (if mg_ix ((34 + (3 * x4)) - 2) 227 = true then (if ((1000 * (v_t_s (Int32.toNatClampNeg ((34 + (3 * x4)) - 3)))) + (v_t_s (Int32.toNatClampNeg ((34 + (3 * x4)) - 2)))) ≤ ((1000 * x1) + x2) then (some ((x4, v_t_s))) else ((f_X9_putsBoulder_L60 x4 fuel 0 v_t_s).bind (fun q1 => f_X9_putsBoulder_L9 fuel x1 x2 n_ (x4 + (-1)) q1.2))) else none) else none)
def f_X9_putsBoulder_J110 (v_t_s : Nat → Int32) (x1 : Int32) (x2 : Int32) (x3 : Int32) (x4 : Int32) : Option (Int32 × (Nat → Int32)) := if mg_ix (34 + (3 * x4)) 227 = true then (if mg_ix ((34 + (3 * x4)) + 1) 227 = true then (if mg_ix ((34 + (3 * x4)) + 2) 227 = true then (some (x4, upd (upd (upd (upd v_t_s (Int32.toNatClampNeg (34 + (3 * x4))) x1) (Int32.toNatClampNeg ((34 + (3 * x4)) + 1)) x2) (Int32.toNatClampNeg ((34 + (3 * x4)) + 2)) x3) 33 (((upd (upd (upd v_t_s (Int32.toNatClampNeg (34 + (3 * x4))) x1) (Int32.toNatClampNeg ((34 + (3 * x4)) + 1)) x2) (Int32.toNatClampNeg ((34 + (3 * x4)) + 2)) x3) 33) + 1))) else none) else none) else none
def f_X9_putsBoulder (fuel : Nat) (v_t_s : Nat → Int32) (x1 : Int32) (x2 : Int32) (x3 : Int32) : Option (Int32 × (Nat → Int32)) := (f_X9_putsBoulder_L9 fuel x1 x2 fuel (v_t_s 33) v_t_s).bind (fun q3 => f_X9_putsBoulder_J110 q3.2 x1 x2 x3 q3.1)
theorem Y_X9_putsBoulder : mg_Y yX9_putsBoulder cX9_putsBoulder 6 (some .int) 3 := ⟨wm_998, wp_32, wm_11, wm_999, ⟨by decide +kernel, by decide +kernel, by decide +kernel⟩, by decide⟩
set_option maxRecDepth 100000 in
set_option maxHeartbeats 4000000 in
theorem c_X9_putsBoulder (l : Launch) (k : mg_K) (a_t a_t_s a_t_past a_t_aside a_t_text a_t_told a_t_bottoms a_t_planned : Nat) (v_t_pasts : Int32) (v_t_typed : Int32) (v_t_at : Int32) (v_t_kind : Int32) (v_t_from : Int32) (v_t_value : Int32) (v_t_planLength : Int32) (v_t_planAmount : Int32) (v_t_s : Nat → Int32) (fuel : Nat) (x1 : Int32) (x2 : Int32) (x3 : Int32) (q : Int32 × (Nat → Int32)) (hf : f_X9_putsBoulder fuel v_t_s x1 x2 x3 = some q) : mg_M l yX9_putsBoulder cX9_putsBoulder 6 (some .int) 0 k [.ref a_t, .int x1, .int x2, .int x3] (w_X9_putsBoulder k a_t a_t_s a_t_past a_t_aside a_t_text a_t_told a_t_bottoms a_t_planned v_t_pasts v_t_typed v_t_at v_t_kind v_t_from v_t_value v_t_planLength v_t_planAmount v_t_s) (w_X9_putsBoulder k a_t a_t_s a_t_past a_t_aside a_t_text a_t_told a_t_bottoms a_t_planned v_t_pasts v_t_typed v_t_at v_t_kind v_t_from v_t_value v_t_planLength v_t_planAmount q.2) (some (.int q.1)) := by
  refine mg_Mi RX9 [(0, .ref a_t), (1, .int x1), (2, .int x2), (3, .int x3)] (by decide +kernel) rfl rfl (Nat.le_of_ble_eq_true rfl) ?_
  intro z A Q hl C E
  subst hl
  unfold f_X9_putsBoulder at hf
  have L9 : ∀ (x1 : Int32) (x2 : Int32) (x3 : Int32) (n_ : Nat) (x4 : Int32) (v_t_s : Nat → Int32) (q_ : Int32 × (Nat → Int32)), f_X9_putsBoulder_L9 fuel x1 x2 n_ x4 v_t_s = some q_ → (mg z k A 6 0 0 Q (w_X9_putsBoulder k a_t a_t_s a_t_past a_t_aside a_t_text a_t_told a_t_bottoms a_t_planned v_t_pasts v_t_typed v_t_at v_t_kind v_t_from v_t_value v_t_planLength v_t_planAmount q_.2) [(0, .ref a_t), (1, .int x1), (2, .int x2), (3, .int x3), (4, .int q_.1)] 110 []) → mg z k A 6 0 0 Q (w_X9_putsBoulder k a_t a_t_s a_t_past a_t_aside a_t_text a_t_told a_t_bottoms a_t_planned v_t_pasts v_t_typed v_t_at v_t_kind v_t_from v_t_value v_t_planLength v_t_planAmount v_t_s) [(0, .ref a_t), (1, .int x1), (2, .int x2), (3, .int x3), (4, .int x4)] 9 [] := by
    intro x1 x2 x3 n_
    induction n_ with
    | zero => intro x4 v_t_s q_ hf; exact mg_no (show none = some q_ from hf)
    | succ n_ ih =>
      intro x4 v_t_s q_ hf X0
      rw [f_X9_putsBoulder_L9] at hf
      have L60 : ∀ (x4 : Int32) (n_ : Nat) (x5 : Int32) (v_t_s : Nat → Int32) (q_ : Int32 × (Nat → Int32)), f_X9_putsBoulder_L60 x4 n_ x5 v_t_s = some q_ → (mg z k A 6 0 0 Q (w_X9_putsBoulder k a_t a_t_s a_t_past a_t_aside a_t_text a_t_told a_t_bottoms a_t_planned v_t_pasts v_t_typed v_t_at v_t_kind v_t_from v_t_value v_t_planLength v_t_planAmount q_.2) [(0, .ref a_t), (1, .int x1), (2, .int x2), (3, .int x3), (4, .int x4)] 104 []) → mg z k A 6 0 0 Q (w_X9_putsBoulder k a_t a_t_s a_t_past a_t_aside a_t_text a_t_told a_t_bottoms a_t_planned v_t_pasts v_t_typed v_t_at v_t_kind v_t_from v_t_value v_t_planLength v_t_planAmount v_t_s) [(0, .ref a_t), (1, .int x1), (2, .int x2), (3, .int x3), (4, .int x4), (5, .int x5)] 60 [] := by
        intro x4 n_
        induction n_ with
        | zero => intro x5 v_t_s q_ hf; exact mg_no (show none = some q_ from hf)
        | succ n_ ih =>
          intro x5 v_t_s q_ hf X0
          rw [f_X9_putsBoulder_L60] at hf
          refine mg_iload (pc := 60) C 5 dX9_putsBoulder_60 rfl ?_
          refine mg_iconst (pc := 62) C dX9_putsBoulder_62 (v := 3) (by decide) ?_
          refine mg_icmp_ge (pc := 63) (tgt := 104) C dX9_putsBoulder_63 (by decide) hf (fun hf => ?_) (fun hf => ?_)
          · obtain rfl := Option.some.inj hf
            refine mg_lv [0, 1, 2, 3, 4] rfl ?_
            exact X0
          · refine mg_aload_n (pc := 66) C 0 dX9_putsBoulder_66 rfl rfl ?_
            refine mg_get (pc := 67) C 0 rfl rfl inX9 0 (by decide) wm_874 rfl rfl dX9_putsBoulder_67 ?_
            refine mg_bipush (pc := 70) C dX9_putsBoulder_70 (v := 34) (by decide) ?_
            refine mg_iconst (pc := 72) C dX9_putsBoulder_72 (v := 3) (by decide) ?_
            refine mg_iload (pc := 73) C 4 dX9_putsBoulder_73 rfl ?_
            refine mg_imul (pc := 75) C dX9_putsBoulder_75 ?_
            refine mg_iadd (pc := 76) C dX9_putsBoulder_76 ?_
            refine mg_iload (pc := 77) C 5 dX9_putsBoulder_77 rfl ?_
            refine mg_iadd (pc := 79) C dX9_putsBoulder_79 ?_
            refine mg_aload_n (pc := 80) C 0 dX9_putsBoulder_80 rfl rfl ?_
            refine mg_get (pc := 81) C 0 rfl rfl inX9 0 (by decide) wm_874 rfl rfl dX9_putsBoulder_81 ?_
            refine mg_bipush (pc := 84) C dX9_putsBoulder_84 (v := 34) (by decide) ?_
            refine mg_iconst (pc := 86) C dX9_putsBoulder_86 (v := 3) (by decide) ?_
            refine mg_iload (pc := 87) C 4 dX9_putsBoulder_87 rfl ?_
            refine mg_imul (pc := 89) C dX9_putsBoulder_89 ?_
            refine mg_iadd (pc := 90) C dX9_putsBoulder_90 ?_
            refine mg_iconst (pc := 91) C dX9_putsBoulder_91 (v := 3) (by decide) ?_
            refine mg_isub (pc := 92) C dX9_putsBoulder_92 ?_
            refine mg_iload (pc := 93) C 5 dX9_putsBoulder_93 rfl ?_
            refine mg_iadd (pc := 95) C dX9_putsBoulder_95 ?_
            refine mg_iald (pc := 96) C 1 rfl dX9_putsBoulder_96 hf (fun hf => ?_)
            refine mg_iast (pc := 97) C (w2 := w_X9_putsBoulder k a_t a_t_s a_t_past a_t_aside a_t_text a_t_told a_t_bottoms a_t_planned v_t_pasts v_t_typed v_t_at v_t_kind v_t_from v_t_value v_t_planLength v_t_planAmount (upd v_t_s (Int32.toNatClampNeg ((34 + (3 * x4)) + x5)) (v_t_s (Int32.toNatClampNeg (((34 + (3 * x4)) - 3) + x5))))) 1 rfl dX9_putsBoulder_97 hf rfl (fun hf => ?_)
            refine mg_iinc (pc := 98) C (c := 1) (lv' := [(5, .int (x5 + 1)), (0, .ref a_t), (1, .int x1), (2, .int x2), (3, .int x3), (4, .int x4)]) 5 dX9_putsBoulder_98 rfl (by decide) (by decide) rfl ?_
            refine mg_goto (pc := 101) (tgt := 60) C dX9_putsBoulder_101 (by decide) ?_
            refine mg_lv [1, 2, 3, 4, 5, 0] rfl ?_
            exact ih (x5 + 1) (upd v_t_s (Int32.toNatClampNeg ((34 + (3 * x4)) + x5)) (v_t_s (Int32.toNatClampNeg (((34 + (3 * x4)) - 3) + x5)))) _ hf X0
      refine mg_iload (pc := 9) C 4 dX9_putsBoulder_9 rfl ?_
      refine mg_if_le (pc := 11) (tgt := 110) C dX9_putsBoulder_11 (by decide) hf (fun hf => ?_) (fun hf => ?_)
      · obtain rfl := Option.some.inj hf
        exact X0
      · refine mg_sipush (pc := 14) C dX9_putsBoulder_14 (v := 1000) (by decide) ?_
        refine mg_aload_n (pc := 17) C 0 dX9_putsBoulder_17 rfl rfl ?_
        refine mg_get (pc := 18) C 0 rfl rfl inX9 0 (by decide) wm_874 rfl rfl dX9_putsBoulder_18 ?_
        refine mg_bipush (pc := 21) C dX9_putsBoulder_21 (v := 34) (by decide) ?_
        refine mg_iconst (pc := 23) C dX9_putsBoulder_23 (v := 3) (by decide) ?_
        refine mg_iload (pc := 24) C 4 dX9_putsBoulder_24 rfl ?_
        refine mg_imul (pc := 26) C dX9_putsBoulder_26 ?_
        refine mg_iadd (pc := 27) C dX9_putsBoulder_27 ?_
        refine mg_iconst (pc := 28) C dX9_putsBoulder_28 (v := 3) (by decide) ?_
        refine mg_isub (pc := 29) C dX9_putsBoulder_29 ?_
        refine mg_iald (pc := 30) C 1 rfl dX9_putsBoulder_30 hf (fun hf => ?_)
        refine mg_imul (pc := 31) C dX9_putsBoulder_31 ?_
        refine mg_aload_n (pc := 32) C 0 dX9_putsBoulder_32 rfl rfl ?_
        refine mg_get (pc := 33) C 0 rfl rfl inX9 0 (by decide) wm_874 rfl rfl dX9_putsBoulder_33 ?_
        refine mg_bipush (pc := 36) C dX9_putsBoulder_36 (v := 34) (by decide) ?_
        refine mg_iconst (pc := 38) C dX9_putsBoulder_38 (v := 3) (by decide) ?_
        refine mg_iload (pc := 39) C 4 dX9_putsBoulder_39 rfl ?_
        refine mg_imul (pc := 41) C dX9_putsBoulder_41 ?_
        refine mg_iadd (pc := 42) C dX9_putsBoulder_42 ?_
        refine mg_iconst (pc := 43) C dX9_putsBoulder_43 (v := 2) (by decide) ?_
        refine mg_isub (pc := 44) C dX9_putsBoulder_44 ?_
        refine mg_iald (pc := 45) C 1 rfl dX9_putsBoulder_45 hf (fun hf => ?_)
        refine mg_iadd (pc := 46) C dX9_putsBoulder_46 ?_
        refine mg_sipush (pc := 47) C dX9_putsBoulder_47 (v := 1000) (by decide) ?_
        refine mg_iload_n (pc := 50) C 1 dX9_putsBoulder_50 rfl rfl ?_
        refine mg_imul (pc := 51) C dX9_putsBoulder_51 ?_
        refine mg_iload_n (pc := 52) C 2 dX9_putsBoulder_52 rfl rfl ?_
        refine mg_iadd (pc := 53) C dX9_putsBoulder_53 ?_
        refine mg_icmp_le (pc := 54) (tgt := 110) C dX9_putsBoulder_54 (by decide) hf (fun hf => ?_) (fun hf => ?_)
        · obtain rfl := Option.some.inj hf
          exact X0
        · refine mg_iconst (pc := 57) C dX9_putsBoulder_57 (v := 0) (by decide) ?_
          refine mg_istore (pc := 58) C (lv' := [(5, .int 0), (0, .ref a_t), (1, .int x1), (2, .int x2), (3, .int x3), (4, .int x4)]) dX9_putsBoulder_58 (by decide) rfl ?_
          obtain ⟨q1, h2, hf⟩ := mg_b hf
          refine mg_lv [1, 2, 3, 4, 5, 0] rfl ?_
          refine L60 x4 fuel 0 v_t_s q1 h2 ?_
          refine mg_iinc (pc := 104) C (c := (-1)) (lv' := [(4, .int (x4 + (-1))), (0, .ref a_t), (1, .int x1), (2, .int x2), (3, .int x3)]) 4 dX9_putsBoulder_104 rfl (by decide) (by decide) rfl ?_
          refine mg_goto (pc := 107) (tgt := 9) C dX9_putsBoulder_107 (by decide) ?_
          refine mg_lv [1, 2, 3, 4, 0] rfl ?_
          exact ih (x4 + (-1)) q1.2 _ hf X0
  have J110 : ∀ (x1 : Int32) (x2 : Int32) (x3 : Int32) (x4 : Int32) (v_t_s : Nat → Int32), f_X9_putsBoulder_J110 v_t_s x1 x2 x3 x4 = some q → mg z k A 6 0 0 Q (w_X9_putsBoulder k a_t a_t_s a_t_past a_t_aside a_t_text a_t_told a_t_bottoms a_t_planned v_t_pasts v_t_typed v_t_at v_t_kind v_t_from v_t_value v_t_planLength v_t_planAmount v_t_s) [(0, .ref a_t), (1, .int x1), (2, .int x2), (3, .int x3), (4, .int x4)] 110 [] := by
    intro x1 x2 x3 x4 v_t_s hf
    unfold f_X9_putsBoulder_J110 at hf
    refine mg_aload_n (pc := 110) C 0 dX9_putsBoulder_110 rfl rfl ?_
    refine mg_get (pc := 111) C 0 rfl rfl inX9 0 (by decide) wm_874 rfl rfl dX9_putsBoulder_111 ?_
    refine mg_bipush (pc := 114) C dX9_putsBoulder_114 (v := 34) (by decide) ?_
    refine mg_iconst (pc := 116) C dX9_putsBoulder_116 (v := 3) (by decide) ?_
    refine mg_iload (pc := 117) C 4 dX9_putsBoulder_117 rfl ?_
    refine mg_imul (pc := 119) C dX9_putsBoulder_119 ?_
    refine mg_iadd (pc := 120) C dX9_putsBoulder_120 ?_
    refine mg_iload_n (pc := 121) C 1 dX9_putsBoulder_121 rfl rfl ?_
    refine mg_iast (pc := 122) C (w2 := w_X9_putsBoulder k a_t a_t_s a_t_past a_t_aside a_t_text a_t_told a_t_bottoms a_t_planned v_t_pasts v_t_typed v_t_at v_t_kind v_t_from v_t_value v_t_planLength v_t_planAmount (upd v_t_s (Int32.toNatClampNeg (34 + (3 * x4))) x1)) 1 rfl dX9_putsBoulder_122 hf rfl (fun hf => ?_)
    refine mg_aload_n (pc := 123) C 0 dX9_putsBoulder_123 rfl rfl ?_
    refine mg_get (pc := 124) C 0 rfl rfl inX9 0 (by decide) wm_874 rfl rfl dX9_putsBoulder_124 ?_
    refine mg_bipush (pc := 127) C dX9_putsBoulder_127 (v := 34) (by decide) ?_
    refine mg_iconst (pc := 129) C dX9_putsBoulder_129 (v := 3) (by decide) ?_
    refine mg_iload (pc := 130) C 4 dX9_putsBoulder_130 rfl ?_
    refine mg_imul (pc := 132) C dX9_putsBoulder_132 ?_
    refine mg_iadd (pc := 133) C dX9_putsBoulder_133 ?_
    refine mg_iconst (pc := 134) C dX9_putsBoulder_134 (v := 1) (by decide) ?_
    refine mg_iadd (pc := 135) C dX9_putsBoulder_135 ?_
    refine mg_iload_n (pc := 136) C 2 dX9_putsBoulder_136 rfl rfl ?_
    refine mg_iast (pc := 137) C (w2 := w_X9_putsBoulder k a_t a_t_s a_t_past a_t_aside a_t_text a_t_told a_t_bottoms a_t_planned v_t_pasts v_t_typed v_t_at v_t_kind v_t_from v_t_value v_t_planLength v_t_planAmount (upd (upd v_t_s (Int32.toNatClampNeg (34 + (3 * x4))) x1) (Int32.toNatClampNeg ((34 + (3 * x4)) + 1)) x2)) 1 rfl dX9_putsBoulder_137 hf rfl (fun hf => ?_)
    refine mg_aload_n (pc := 138) C 0 dX9_putsBoulder_138 rfl rfl ?_
    refine mg_get (pc := 139) C 0 rfl rfl inX9 0 (by decide) wm_874 rfl rfl dX9_putsBoulder_139 ?_
    refine mg_bipush (pc := 142) C dX9_putsBoulder_142 (v := 34) (by decide) ?_
    refine mg_iconst (pc := 144) C dX9_putsBoulder_144 (v := 3) (by decide) ?_
    refine mg_iload (pc := 145) C 4 dX9_putsBoulder_145 rfl ?_
    refine mg_imul (pc := 147) C dX9_putsBoulder_147 ?_
    refine mg_iadd (pc := 148) C dX9_putsBoulder_148 ?_
    refine mg_iconst (pc := 149) C dX9_putsBoulder_149 (v := 2) (by decide) ?_
    refine mg_iadd (pc := 150) C dX9_putsBoulder_150 ?_
    refine mg_iload_n (pc := 151) C 3 dX9_putsBoulder_151 rfl rfl ?_
    refine mg_iast (pc := 152) C (w2 := w_X9_putsBoulder k a_t a_t_s a_t_past a_t_aside a_t_text a_t_told a_t_bottoms a_t_planned v_t_pasts v_t_typed v_t_at v_t_kind v_t_from v_t_value v_t_planLength v_t_planAmount (upd (upd (upd v_t_s (Int32.toNatClampNeg (34 + (3 * x4))) x1) (Int32.toNatClampNeg ((34 + (3 * x4)) + 1)) x2) (Int32.toNatClampNeg ((34 + (3 * x4)) + 2)) x3)) 1 rfl dX9_putsBoulder_152 hf rfl (fun hf => ?_)
    refine mg_aload_n (pc := 153) C 0 dX9_putsBoulder_153 rfl rfl ?_
    refine mg_get (pc := 154) C 0 rfl rfl inX9 0 (by decide) wm_874 rfl rfl dX9_putsBoulder_154 ?_
    refine mg_bipush (pc := 157) C dX9_putsBoulder_157 (v := 33) (by decide) ?_
    refine mg_dup2 (pc := 159) C dX9_putsBoulder_159 rfl rfl ?_
    refine mg_ialdK (pc := 160) C 1 33 rfl dX9_putsBoulder_160 (by decide) (by decide) ?_
    refine mg_iconst (pc := 161) C dX9_putsBoulder_161 (v := 1) (by decide) ?_
    refine mg_iadd (pc := 162) C dX9_putsBoulder_162 ?_
    refine mg_iastK (pc := 163) C (w2 := w_X9_putsBoulder k a_t a_t_s a_t_past a_t_aside a_t_text a_t_told a_t_bottoms a_t_planned v_t_pasts v_t_typed v_t_at v_t_kind v_t_from v_t_value v_t_planLength v_t_planAmount (upd (upd (upd (upd v_t_s (Int32.toNatClampNeg (34 + (3 * x4))) x1) (Int32.toNatClampNeg ((34 + (3 * x4)) + 1)) x2) (Int32.toNatClampNeg ((34 + (3 * x4)) + 2)) x3) 33 (((upd (upd (upd v_t_s (Int32.toNatClampNeg (34 + (3 * x4))) x1) (Int32.toNatClampNeg ((34 + (3 * x4)) + 1)) x2) (Int32.toNatClampNeg ((34 + (3 * x4)) + 2)) x3) 33) + 1))) 1 33 rfl dX9_putsBoulder_163 (by decide) (by decide) rfl ?_
    refine mg_iload (pc := 164) C 4 dX9_putsBoulder_164 rfl ?_
    obtain rfl := Option.some.inj hf
    exact E _ _ dX9_putsBoulder_166
  refine mg_aload_n (pc := 0) C 0 dX9_putsBoulder_0 rfl rfl ?_
  refine mg_get (pc := 1) C 0 rfl rfl inX9 0 (by decide) wm_874 rfl rfl dX9_putsBoulder_1 ?_
  refine mg_bipush (pc := 4) C dX9_putsBoulder_4 (v := 33) (by decide) ?_
  refine mg_ialdK (pc := 6) C 1 33 rfl dX9_putsBoulder_6 (by decide) (by decide) ?_
  refine mg_istore (pc := 7) C (lv' := [(4, .int (v_t_s 33)), (0, .ref a_t), (1, .int x1), (2, .int x2), (3, .int x3)]) dX9_putsBoulder_7 (by decide) rfl ?_
  obtain ⟨q3, h4, hf⟩ := mg_b hf
  refine mg_lv [1, 2, 3, 4, 0] rfl ?_
  refine L9 x1 x2 x3 fuel (v_t_s 33) v_t_s q3 h4 ?_
  exact J110 x1 x2 x3 q3.1 q3.2 hf
abbrev w_X9_putsLayer (k : mg_K) (a_t a_t_s a_t_past a_t_aside a_t_text a_t_told a_t_bottoms a_t_planned : Nat) (v_t_pasts : Int32) (v_t_typed : Int32) (v_t_at : Int32) (v_t_kind : Int32) (v_t_from : Int32) (v_t_value : Int32) (v_t_planLength : Int32) (v_t_planAmount : Int32) (v_t_s : Nat → Int32) : va_W := [(a_t, .inr (9, [.ref a_t_s, .ref a_t_past, .ref a_t_aside, .int v_t_pasts, .ref a_t_text, .int v_t_typed, .int v_t_at, .int v_t_kind, .int v_t_from, .int v_t_value, .ref a_t_told, .ref a_t_bottoms, .ref a_t_planned, .int v_t_planLength, .int v_t_planAmount])), (a_t_s, .inl (k.2.1, 227, .inl v_t_s))]
def f_X9_putsLayer (v_t_s : Nat → Int32) (x1 : Int32) (x2 : Int32) (x3 : Int32) : Option ((Nat → Int32)) := if mg_ix (9 + (3 * (v_t_s 8))) 227 = true then (if mg_ix ((9 + (3 * (v_t_s 8))) + 1) 227 = true then (if mg_ix ((9 + (3 * (v_t_s 8))) + 2) 227 = true then (some (upd (upd (upd (upd v_t_s (Int32.toNatClampNeg (9 + (3 * (v_t_s 8)))) x1) (Int32.toNatClampNeg ((9 + (3 * (v_t_s 8))) + 1)) x2) (Int32.toNatClampNeg ((9 + (3 * (v_t_s 8))) + 2)) x3) 8 (((upd (upd (upd v_t_s (Int32.toNatClampNeg (9 + (3 * (v_t_s 8)))) x1) (Int32.toNatClampNeg ((9 + (3 * (v_t_s 8))) + 1)) x2) (Int32.toNatClampNeg ((9 + (3 * (v_t_s 8))) + 2)) x3) 8) + 1))) else none) else none) else none
theorem Y_X9_putsLayer : mg_Y yX9_putsLayer cX9_putsLayer 5 none 3 := ⟨wm_994, wp_31, wm_11, wm_995, ⟨by decide +kernel, by decide +kernel, by decide +kernel⟩, by decide⟩
set_option maxRecDepth 100000 in
set_option maxHeartbeats 4000000 in
theorem c_X9_putsLayer (l : Launch) (k : mg_K) (a_t a_t_s a_t_past a_t_aside a_t_text a_t_told a_t_bottoms a_t_planned : Nat) (v_t_pasts : Int32) (v_t_typed : Int32) (v_t_at : Int32) (v_t_kind : Int32) (v_t_from : Int32) (v_t_value : Int32) (v_t_planLength : Int32) (v_t_planAmount : Int32) (v_t_s : Nat → Int32) (x1 : Int32) (x2 : Int32) (x3 : Int32) (q : (Nat → Int32)) (hf : f_X9_putsLayer v_t_s x1 x2 x3 = some q) : mg_M l yX9_putsLayer cX9_putsLayer 5 none 0 k [.ref a_t, .int x1, .int x2, .int x3] (w_X9_putsLayer k a_t a_t_s a_t_past a_t_aside a_t_text a_t_told a_t_bottoms a_t_planned v_t_pasts v_t_typed v_t_at v_t_kind v_t_from v_t_value v_t_planLength v_t_planAmount v_t_s) (w_X9_putsLayer k a_t a_t_s a_t_past a_t_aside a_t_text a_t_told a_t_bottoms a_t_planned v_t_pasts v_t_typed v_t_at v_t_kind v_t_from v_t_value v_t_planLength v_t_planAmount q) none := by
  refine mg_Mv RX9 [(0, .ref a_t), (1, .int x1), (2, .int x2), (3, .int x3)] (by decide +kernel) rfl rfl (Nat.le_of_ble_eq_true rfl) ?_
  intro z A Q hl C E
  subst hl
  unfold f_X9_putsLayer at hf
  refine mg_bipush (pc := 0) C dX9_putsLayer_0 (v := 9) (by decide) ?_
  refine mg_iconst (pc := 2) C dX9_putsLayer_2 (v := 3) (by decide) ?_
  refine mg_aload_n (pc := 3) C 0 dX9_putsLayer_3 rfl rfl ?_
  refine mg_get (pc := 4) C 0 rfl rfl inX9 0 (by decide) wm_874 rfl rfl dX9_putsLayer_4 ?_
  refine mg_bipush (pc := 7) C dX9_putsLayer_7 (v := 8) (by decide) ?_
  refine mg_ialdK (pc := 9) C 1 8 rfl dX9_putsLayer_9 (by decide) (by decide) ?_
  refine mg_imul (pc := 10) C dX9_putsLayer_10 ?_
  refine mg_iadd (pc := 11) C dX9_putsLayer_11 ?_
  refine mg_istore (pc := 12) C (lv' := [(4, .int (9 + (3 * (v_t_s 8)))), (0, .ref a_t), (1, .int x1), (2, .int x2), (3, .int x3)]) dX9_putsLayer_12 (by decide) rfl ?_
  refine mg_aload_n (pc := 14) C 1 dX9_putsLayer_14 rfl rfl ?_
  refine mg_get (pc := 15) C 0 rfl rfl inX9 0 (by decide) wm_874 rfl rfl dX9_putsLayer_15 ?_
  refine mg_iload (pc := 18) C 0 dX9_putsLayer_18 rfl ?_
  refine mg_iload_n (pc := 20) C 2 dX9_putsLayer_20 rfl rfl ?_
  refine mg_iast (pc := 21) C (w2 := w_X9_putsLayer k a_t a_t_s a_t_past a_t_aside a_t_text a_t_told a_t_bottoms a_t_planned v_t_pasts v_t_typed v_t_at v_t_kind v_t_from v_t_value v_t_planLength v_t_planAmount (upd v_t_s (Int32.toNatClampNeg (9 + (3 * (v_t_s 8)))) x1)) 1 rfl dX9_putsLayer_21 hf rfl (fun hf => ?_)
  refine mg_aload_n (pc := 22) C 1 dX9_putsLayer_22 rfl rfl ?_
  refine mg_get (pc := 23) C 0 rfl rfl inX9 0 (by decide) wm_874 rfl rfl dX9_putsLayer_23 ?_
  refine mg_iload (pc := 26) C 0 dX9_putsLayer_26 rfl ?_
  refine mg_iconst (pc := 28) C dX9_putsLayer_28 (v := 1) (by decide) ?_
  refine mg_iadd (pc := 29) C dX9_putsLayer_29 ?_
  refine mg_iload_n (pc := 30) C 3 dX9_putsLayer_30 rfl rfl ?_
  refine mg_iast (pc := 31) C (w2 := w_X9_putsLayer k a_t a_t_s a_t_past a_t_aside a_t_text a_t_told a_t_bottoms a_t_planned v_t_pasts v_t_typed v_t_at v_t_kind v_t_from v_t_value v_t_planLength v_t_planAmount (upd (upd v_t_s (Int32.toNatClampNeg (9 + (3 * (v_t_s 8)))) x1) (Int32.toNatClampNeg ((9 + (3 * (v_t_s 8))) + 1)) x2)) 1 rfl dX9_putsLayer_31 hf rfl (fun hf => ?_)
  refine mg_aload_n (pc := 32) C 1 dX9_putsLayer_32 rfl rfl ?_
  refine mg_get (pc := 33) C 0 rfl rfl inX9 0 (by decide) wm_874 rfl rfl dX9_putsLayer_33 ?_
  refine mg_iload (pc := 36) C 0 dX9_putsLayer_36 rfl ?_
  refine mg_iconst (pc := 38) C dX9_putsLayer_38 (v := 2) (by decide) ?_
  refine mg_iadd (pc := 39) C dX9_putsLayer_39 ?_
  refine mg_iload_n (pc := 40) C 4 dX9_putsLayer_40 rfl rfl ?_
  refine mg_iast (pc := 41) C (w2 := w_X9_putsLayer k a_t a_t_s a_t_past a_t_aside a_t_text a_t_told a_t_bottoms a_t_planned v_t_pasts v_t_typed v_t_at v_t_kind v_t_from v_t_value v_t_planLength v_t_planAmount (upd (upd (upd v_t_s (Int32.toNatClampNeg (9 + (3 * (v_t_s 8)))) x1) (Int32.toNatClampNeg ((9 + (3 * (v_t_s 8))) + 1)) x2) (Int32.toNatClampNeg ((9 + (3 * (v_t_s 8))) + 2)) x3)) 1 rfl dX9_putsLayer_41 hf rfl (fun hf => ?_)
  refine mg_aload_n (pc := 42) C 1 dX9_putsLayer_42 rfl rfl ?_
  refine mg_get (pc := 43) C 0 rfl rfl inX9 0 (by decide) wm_874 rfl rfl dX9_putsLayer_43 ?_
  refine mg_bipush (pc := 46) C dX9_putsLayer_46 (v := 8) (by decide) ?_
  refine mg_dup2 (pc := 48) C dX9_putsLayer_48 rfl rfl ?_
  refine mg_ialdK (pc := 49) C 1 8 rfl dX9_putsLayer_49 (by decide) (by decide) ?_
  refine mg_iconst (pc := 50) C dX9_putsLayer_50 (v := 1) (by decide) ?_
  refine mg_iadd (pc := 51) C dX9_putsLayer_51 ?_
  refine mg_iastK (pc := 52) C (w2 := w_X9_putsLayer k a_t a_t_s a_t_past a_t_aside a_t_text a_t_told a_t_bottoms a_t_planned v_t_pasts v_t_typed v_t_at v_t_kind v_t_from v_t_value v_t_planLength v_t_planAmount (upd (upd (upd (upd v_t_s (Int32.toNatClampNeg (9 + (3 * (v_t_s 8)))) x1) (Int32.toNatClampNeg ((9 + (3 * (v_t_s 8))) + 1)) x2) (Int32.toNatClampNeg ((9 + (3 * (v_t_s 8))) + 2)) x3) 8 (((upd (upd (upd v_t_s (Int32.toNatClampNeg (9 + (3 * (v_t_s 8)))) x1) (Int32.toNatClampNeg ((9 + (3 * (v_t_s 8))) + 1)) x2) (Int32.toNatClampNeg ((9 + (3 * (v_t_s 8))) + 2)) x3) 8) + 1))) 1 8 rfl dX9_putsLayer_52 (by decide) (by decide) rfl ?_
  obtain rfl := Option.some.inj hf
  exact E _ _ dX9_putsLayer_53
abbrev w_X9_puts (k : mg_K) (a_t a_t_s a_t_past a_t_aside a_t_text a_t_told a_t_bottoms a_t_planned : Nat) (v_t_pasts : Int32) (v_t_typed : Int32) (v_t_at : Int32) (v_t_kind : Int32) (v_t_from : Int32) (v_t_value : Int32) (v_t_planLength : Int32) (v_t_planAmount : Int32) (v_t_s : Nat → Int32) (v_t_told : Nat → Int32) : va_W := [(a_t, .inr (9, [.ref a_t_s, .ref a_t_past, .ref a_t_aside, .int v_t_pasts, .ref a_t_text, .int v_t_typed, .int v_t_at, .int v_t_kind, .int v_t_from, .int v_t_value, .ref a_t_told, .ref a_t_bottoms, .ref a_t_planned, .int v_t_planLength, .int v_t_planAmount])), (a_t_s, .inl (k.2.1, 227, .inl v_t_s)), (a_t_told, .inl (k.2.1, 4, .inl v_t_told))]
def f_X9_puts (fuel : Nat) (v_t_s : Nat → Int32) (v_t_told : Nat → Int32) (x1 : Int32) : Option ((Nat → Int32)) := if x1 = 0 then (some (upd (upd v_t_s 0 (v_t_told 0)) 1 (v_t_told 1))) else (if x1 = 4 then ((f_X9_putsLayer v_t_s (v_t_told 0) (v_t_told 1) (v_t_told 2)).bind (fun q3 => some q3)) else (if x1 = 5 then ((f_X9_putsBoulder fuel v_t_s (((v_t_told 1) * (v_t_s 0)) + (v_t_told 0)) (v_t_told 2) (v_t_told 3)).bind (fun q1 => some q1.2)) else (if x1 = 1 then (some (upd v_t_s 5 (v_t_told 0))) else (if x1 = 2 then (some (upd v_t_s 6 (v_t_told 0))) else (some (upd v_t_s 7 (v_t_told 0)))))))
theorem Y_X9_puts : mg_Y yX9_puts cX9_puts 3 none 1 := ⟨wm_990, wp_30, wm_11, wm_991, ⟨by decide +kernel, by decide +kernel, by decide +kernel⟩, by decide⟩
set_option maxRecDepth 100000 in
set_option maxHeartbeats 4000000 in
theorem c_X9_puts (l : Launch) (k : mg_K) (a_t a_t_s a_t_past a_t_aside a_t_text a_t_told a_t_bottoms a_t_planned : Nat) (v_t_pasts : Int32) (v_t_typed : Int32) (v_t_at : Int32) (v_t_kind : Int32) (v_t_from : Int32) (v_t_value : Int32) (v_t_planLength : Int32) (v_t_planAmount : Int32) (v_t_s : Nat → Int32) (v_t_told : Nat → Int32) (fuel : Nat) (x1 : Int32) (q : (Nat → Int32)) (hf : f_X9_puts fuel v_t_s v_t_told x1 = some q) : mg_M l yX9_puts cX9_puts 3 none 1 k [.ref a_t, .int x1] (w_X9_puts k a_t a_t_s a_t_past a_t_aside a_t_text a_t_told a_t_bottoms a_t_planned v_t_pasts v_t_typed v_t_at v_t_kind v_t_from v_t_value v_t_planLength v_t_planAmount v_t_s v_t_told) (w_X9_puts k a_t a_t_s a_t_past a_t_aside a_t_text a_t_told a_t_bottoms a_t_planned v_t_pasts v_t_typed v_t_at v_t_kind v_t_from v_t_value v_t_planLength v_t_planAmount q v_t_told) none := by
  refine mg_Mv RX9 [(0, .ref a_t), (1, .int x1)] (by decide +kernel) rfl rfl (Nat.le_of_ble_eq_true rfl) ?_
  intro z A Q hl C E
  subst hl
  unfold f_X9_puts at hf
  refine mg_iload_n (pc := 0) C 1 dX9_puts_0 rfl rfl ?_
  refine mg_if_ne (pc := 1) (tgt := 31) C dX9_puts_1 (by decide) hf (fun hf => ?_) (fun hf => ?_)
  · refine mg_iload_n (pc := 31) C 1 dX9_puts_31 rfl rfl ?_
    refine mg_iconst (pc := 32) C dX9_puts_32 (v := 4) (by decide) ?_
    refine mg_icmp_ne (pc := 33) (tgt := 61) C dX9_puts_33 (by decide) hf (fun hf => ?_) (fun hf => ?_)
    · refine mg_iload_n (pc := 61) C 1 dX9_puts_61 rfl rfl ?_
      refine mg_iconst (pc := 62) C dX9_puts_62 (v := 5) (by decide) ?_
      refine mg_icmp_ne (pc := 63) (tgt := 106) C dX9_puts_63 (by decide) hf (fun hf => ?_) (fun hf => ?_)
      · refine mg_aload_n (pc := 106) C 0 dX9_puts_106 rfl rfl ?_
        refine mg_get (pc := 107) C 0 rfl rfl inX9 0 (by decide) wm_874 rfl rfl dX9_puts_107 ?_
        refine mg_iload_n (pc := 110) C 1 dX9_puts_110 rfl rfl ?_
        refine mg_iconst (pc := 111) C dX9_puts_111 (v := 1) (by decide) ?_
        refine mg_icmp_ne (pc := 112) (tgt := 119) C dX9_puts_112 (by decide) hf (fun hf => ?_) (fun hf => ?_)
        · refine mg_iload_n (pc := 119) C 1 dX9_puts_119 rfl rfl ?_
          refine mg_iconst (pc := 120) C dX9_puts_120 (v := 2) (by decide) ?_
          refine mg_icmp_ne (pc := 121) (tgt := 129) C dX9_puts_121 (by decide) hf (fun hf => ?_) (fun hf => ?_)
          · refine mg_bipush (pc := 129) C dX9_puts_129 (v := 7) (by decide) ?_
            refine mg_aload_n (pc := 131) C 0 dX9_puts_131 rfl rfl ?_
            refine mg_get (pc := 132) C 0 rfl rfl inX9 10 (by decide) wm_884 rfl rfl dX9_puts_132 ?_
            refine mg_iconst (pc := 135) C dX9_puts_135 (v := 0) (by decide) ?_
            refine mg_ialdK (pc := 136) C 2 0 rfl dX9_puts_136 (by decide) (by decide) ?_
            refine mg_iastK (pc := 137) C (w2 := w_X9_puts k a_t a_t_s a_t_past a_t_aside a_t_text a_t_told a_t_bottoms a_t_planned v_t_pasts v_t_typed v_t_at v_t_kind v_t_from v_t_value v_t_planLength v_t_planAmount (upd v_t_s 7 (v_t_told 0)) v_t_told) 1 7 rfl dX9_puts_137 (by decide) (by decide) rfl ?_
            obtain rfl := Option.some.inj hf
            exact E _ _ dX9_puts_138
          · refine mg_bipush (pc := 124) C dX9_puts_124 (v := 6) (by decide) ?_
            refine mg_goto (pc := 126) (tgt := 131) C dX9_puts_126 (by decide) ?_
            refine mg_aload_n (pc := 131) C 0 dX9_puts_131 rfl rfl ?_
            refine mg_get (pc := 132) C 0 rfl rfl inX9 10 (by decide) wm_884 rfl rfl dX9_puts_132 ?_
            refine mg_iconst (pc := 135) C dX9_puts_135 (v := 0) (by decide) ?_
            refine mg_ialdK (pc := 136) C 2 0 rfl dX9_puts_136 (by decide) (by decide) ?_
            refine mg_iastK (pc := 137) C (w2 := w_X9_puts k a_t a_t_s a_t_past a_t_aside a_t_text a_t_told a_t_bottoms a_t_planned v_t_pasts v_t_typed v_t_at v_t_kind v_t_from v_t_value v_t_planLength v_t_planAmount (upd v_t_s 6 (v_t_told 0)) v_t_told) 1 6 rfl dX9_puts_137 (by decide) (by decide) rfl ?_
            obtain rfl := Option.some.inj hf
            exact E _ _ dX9_puts_138
        · refine mg_iconst (pc := 115) C dX9_puts_115 (v := 5) (by decide) ?_
          refine mg_goto (pc := 116) (tgt := 131) C dX9_puts_116 (by decide) ?_
          refine mg_aload_n (pc := 131) C 0 dX9_puts_131 rfl rfl ?_
          refine mg_get (pc := 132) C 0 rfl rfl inX9 10 (by decide) wm_884 rfl rfl dX9_puts_132 ?_
          refine mg_iconst (pc := 135) C dX9_puts_135 (v := 0) (by decide) ?_
          refine mg_ialdK (pc := 136) C 2 0 rfl dX9_puts_136 (by decide) (by decide) ?_
          refine mg_iastK (pc := 137) C (w2 := w_X9_puts k a_t a_t_s a_t_past a_t_aside a_t_text a_t_told a_t_bottoms a_t_planned v_t_pasts v_t_typed v_t_at v_t_kind v_t_from v_t_value v_t_planLength v_t_planAmount (upd v_t_s 5 (v_t_told 0)) v_t_told) 1 5 rfl dX9_puts_137 (by decide) (by decide) rfl ?_
          obtain rfl := Option.some.inj hf
          exact E _ _ dX9_puts_138
      · refine mg_aload_n (pc := 66) C 0 dX9_puts_66 rfl rfl ?_
        refine mg_aload_n (pc := 67) C 0 dX9_puts_67 rfl rfl ?_
        refine mg_get (pc := 68) C 0 rfl rfl inX9 10 (by decide) wm_884 rfl rfl dX9_puts_68 ?_
        refine mg_iconst (pc := 71) C dX9_puts_71 (v := 1) (by decide) ?_
        refine mg_ialdK (pc := 72) C 2 1 rfl dX9_puts_72 (by decide) (by decide) ?_
        refine mg_aload_n (pc := 73) C 0 dX9_puts_73 rfl rfl ?_
        refine mg_get (pc := 74) C 0 rfl rfl inX9 0 (by decide) wm_874 rfl rfl dX9_puts_74 ?_
        refine mg_iconst (pc := 77) C dX9_puts_77 (v := 0) (by decide) ?_
        refine mg_ialdK (pc := 78) C 1 0 rfl dX9_puts_78 (by decide) (by decide) ?_
        refine mg_imul (pc := 79) C dX9_puts_79 ?_
        refine mg_aload_n (pc := 80) C 0 dX9_puts_80 rfl rfl ?_
        refine mg_get (pc := 81) C 0 rfl rfl inX9 10 (by decide) wm_884 rfl rfl dX9_puts_81 ?_
        refine mg_iconst (pc := 84) C dX9_puts_84 (v := 0) (by decide) ?_
        refine mg_ialdK (pc := 85) C 2 0 rfl dX9_puts_85 (by decide) (by decide) ?_
        refine mg_iadd (pc := 86) C dX9_puts_86 ?_
        refine mg_aload_n (pc := 87) C 0 dX9_puts_87 rfl rfl ?_
        refine mg_get (pc := 88) C 0 rfl rfl inX9 10 (by decide) wm_884 rfl rfl dX9_puts_88 ?_
        refine mg_iconst (pc := 91) C dX9_puts_91 (v := 2) (by decide) ?_
        refine mg_ialdK (pc := 92) C 2 2 rfl dX9_puts_92 (by decide) (by decide) ?_
        refine mg_aload_n (pc := 93) C 0 dX9_puts_93 rfl rfl ?_
        refine mg_get (pc := 94) C 0 rfl rfl inX9 10 (by decide) wm_884 rfl rfl dX9_puts_94 ?_
        refine mg_iconst (pc := 97) C dX9_puts_97 (v := 3) (by decide) ?_
        refine mg_ialdK (pc := 98) C 2 3 rfl dX9_puts_98 (by decide) (by decide) ?_
        obtain ⟨q1, h2, hf⟩ := mg_b hf
        refine mg_callV (pc := 99) C (w2 := w_X9_puts k a_t a_t_s a_t_past a_t_aside a_t_text a_t_told a_t_bottoms a_t_planned v_t_pasts v_t_typed v_t_at v_t_kind v_t_from v_t_value v_t_planLength v_t_planAmount q1.2 v_t_told) (c_X9_putsBoulder z.2.1 k a_t a_t_s a_t_past a_t_aside a_t_text a_t_told a_t_bottoms a_t_planned v_t_pasts v_t_typed v_t_at v_t_kind v_t_from v_t_value v_t_planLength v_t_planAmount v_t_s fuel (((v_t_told 1) * (v_t_s 0)) + (v_t_told 0)) (v_t_told 2) (v_t_told 3) q1 h2) Y_X9_putsBoulder wm_996 (by decide) rfl 0 rfl rfl rfl [0, 1] rfl (by decide) rfl [some 0, some 1, none] (by decide) rfl (Nat.le_of_ble_eq_true rfl) rfl dX9_puts_99 ?_
        refine mg_istore_n (pc := 102) C (lv' := [(2, .int q1.1), (0, .ref a_t), (1, .int x1)]) dX9_puts_102 rfl (by decide) rfl ?_
        refine mg_goto (pc := 103) (tgt := 138) C dX9_puts_103 (by decide) ?_
        obtain rfl := Option.some.inj hf
        exact E _ _ dX9_puts_138
    · refine mg_aload_n (pc := 36) C 0 dX9_puts_36 rfl rfl ?_
      refine mg_aload_n (pc := 37) C 0 dX9_puts_37 rfl rfl ?_
      refine mg_get (pc := 38) C 0 rfl rfl inX9 10 (by decide) wm_884 rfl rfl dX9_puts_38 ?_
      refine mg_iconst (pc := 41) C dX9_puts_41 (v := 0) (by decide) ?_
      refine mg_ialdK (pc := 42) C 2 0 rfl dX9_puts_42 (by decide) (by decide) ?_
      refine mg_aload_n (pc := 43) C 0 dX9_puts_43 rfl rfl ?_
      refine mg_get (pc := 44) C 0 rfl rfl inX9 10 (by decide) wm_884 rfl rfl dX9_puts_44 ?_
      refine mg_iconst (pc := 47) C dX9_puts_47 (v := 1) (by decide) ?_
      refine mg_ialdK (pc := 48) C 2 1 rfl dX9_puts_48 (by decide) (by decide) ?_
      refine mg_aload_n (pc := 49) C 0 dX9_puts_49 rfl rfl ?_
      refine mg_get (pc := 50) C 0 rfl rfl inX9 10 (by decide) wm_884 rfl rfl dX9_puts_50 ?_
      refine mg_iconst (pc := 53) C dX9_puts_53 (v := 2) (by decide) ?_
      refine mg_ialdK (pc := 54) C 2 2 rfl dX9_puts_54 (by decide) (by decide) ?_
      obtain ⟨q3, h4, hf⟩ := mg_b hf
      refine mg_callV (pc := 55) C (w2 := w_X9_puts k a_t a_t_s a_t_past a_t_aside a_t_text a_t_told a_t_bottoms a_t_planned v_t_pasts v_t_typed v_t_at v_t_kind v_t_from v_t_value v_t_planLength v_t_planAmount q3 v_t_told) (c_X9_putsLayer z.2.1 k a_t a_t_s a_t_past a_t_aside a_t_text a_t_told a_t_bottoms a_t_planned v_t_pasts v_t_typed v_t_at v_t_kind v_t_from v_t_value v_t_planLength v_t_planAmount v_t_s (v_t_told 0) (v_t_told 1) (v_t_told 2) q3 h4) Y_X9_putsLayer wm_992 (by decide) rfl 0 rfl rfl rfl [0, 1] rfl (by decide) rfl [some 0, some 1, none] (by decide) rfl (Nat.le_of_ble_eq_true rfl) rfl dX9_puts_55 ?_
      refine mg_goto (pc := 58) (tgt := 138) C dX9_puts_58 (by decide) ?_
      obtain rfl := Option.some.inj hf
      exact E _ _ dX9_puts_138
  · refine mg_aload_n (pc := 4) C 0 dX9_puts_4 rfl rfl ?_
    refine mg_get (pc := 5) C 0 rfl rfl inX9 0 (by decide) wm_874 rfl rfl dX9_puts_5 ?_
    refine mg_iconst (pc := 8) C dX9_puts_8 (v := 0) (by decide) ?_
    refine mg_aload_n (pc := 9) C 0 dX9_puts_9 rfl rfl ?_
    refine mg_get (pc := 10) C 0 rfl rfl inX9 10 (by decide) wm_884 rfl rfl dX9_puts_10 ?_
    refine mg_iconst (pc := 13) C dX9_puts_13 (v := 0) (by decide) ?_
    refine mg_ialdK (pc := 14) C 2 0 rfl dX9_puts_14 (by decide) (by decide) ?_
    refine mg_iastK (pc := 15) C (w2 := w_X9_puts k a_t a_t_s a_t_past a_t_aside a_t_text a_t_told a_t_bottoms a_t_planned v_t_pasts v_t_typed v_t_at v_t_kind v_t_from v_t_value v_t_planLength v_t_planAmount (upd v_t_s 0 (v_t_told 0)) v_t_told) 1 0 rfl dX9_puts_15 (by decide) (by decide) rfl ?_
    refine mg_aload_n (pc := 16) C 0 dX9_puts_16 rfl rfl ?_
    refine mg_get (pc := 17) C 0 rfl rfl inX9 0 (by decide) wm_874 rfl rfl dX9_puts_17 ?_
    refine mg_iconst (pc := 20) C dX9_puts_20 (v := 1) (by decide) ?_
    refine mg_aload_n (pc := 21) C 0 dX9_puts_21 rfl rfl ?_
    refine mg_get (pc := 22) C 0 rfl rfl inX9 10 (by decide) wm_884 rfl rfl dX9_puts_22 ?_
    refine mg_iconst (pc := 25) C dX9_puts_25 (v := 1) (by decide) ?_
    refine mg_ialdK (pc := 26) C 2 1 rfl dX9_puts_26 (by decide) (by decide) ?_
    refine mg_iastK (pc := 27) C (w2 := w_X9_puts k a_t a_t_s a_t_past a_t_aside a_t_text a_t_told a_t_bottoms a_t_planned v_t_pasts v_t_typed v_t_at v_t_kind v_t_from v_t_value v_t_planLength v_t_planAmount (upd (upd v_t_s 0 (v_t_told 0)) 1 (v_t_told 1)) v_t_told) 1 1 rfl dX9_puts_27 (by decide) (by decide) rfl ?_
    refine mg_goto (pc := 28) (tgt := 138) C dX9_puts_28 (by decide) ?_
    obtain rfl := Option.some.inj hf
    exact E _ _ dX9_puts_138
abbrev w_X9_mayBegin (k : mg_K) (a_t a_t_s a_t_past a_t_aside a_t_text a_t_told a_t_bottoms a_t_planned : Nat) (v_t_pasts : Int32) (v_t_typed : Int32) (v_t_at : Int32) (v_t_kind : Int32) (v_t_from : Int32) (v_t_value : Int32) (v_t_planLength : Int32) (v_t_planAmount : Int32) (v_t_s : Nat → Int32) : va_W := [(a_t, .inr (9, [.ref a_t_s, .ref a_t_past, .ref a_t_aside, .int v_t_pasts, .ref a_t_text, .int v_t_typed, .int v_t_at, .int v_t_kind, .int v_t_from, .int v_t_value, .ref a_t_told, .ref a_t_bottoms, .ref a_t_planned, .int v_t_planLength, .int v_t_planAmount])), (a_t_s, .inl (k.2.1, 227, .inl v_t_s))]
def f_X9_mayBegin_J37 (v_t_s : Nat → Int32) (x1 : Int32) : Option (Int32) := if x1 = 5 then (if 10 ≤ (v_t_s 33) then (some 0) else (some 1)) else (some 1)
def f_X9_mayBegin_J20 (v_t_s : Nat → Int32) (x1 : Int32) : Option (Int32) := if x1 = 4 then (if 8 ≤ (v_t_s 8) then (some 0) else (f_X9_mayBegin_J37 v_t_s x1)) else (f_X9_mayBegin_J37 v_t_s x1)
def f_X9_mayBegin (v_t_kind : Int32) (v_t_s : Nat → Int32) (x1 : Int32) (x2 : Int32) : Option (Int32) := if v_t_kind = 1 then (if x1 < 0 then (some 0) else (if x1 = 0 then (if x2 = 0 then (f_X9_mayBegin_J20 v_t_s x1) else (some 0)) else (f_X9_mayBegin_J20 v_t_s x1))) else (some 0)
theorem Y_X9_mayBegin : mg_Y yX9_mayBegin cX9_mayBegin 3 (some .boolean) 2 := ⟨wm_967, wp_25, wm_11, wm_968, ⟨by decide +kernel, by decide +kernel, by decide +kernel⟩, by decide⟩
set_option maxRecDepth 100000 in
set_option maxHeartbeats 4000000 in
theorem c_X9_mayBegin (l : Launch) (k : mg_K) (a_t a_t_s a_t_past a_t_aside a_t_text a_t_told a_t_bottoms a_t_planned : Nat) (v_t_pasts : Int32) (v_t_typed : Int32) (v_t_at : Int32) (v_t_kind : Int32) (v_t_from : Int32) (v_t_value : Int32) (v_t_planLength : Int32) (v_t_planAmount : Int32) (v_t_s : Nat → Int32) (x1 : Int32) (x2 : Int32) (q : Int32) (hf : f_X9_mayBegin v_t_kind v_t_s x1 x2 = some q) : mg_M l yX9_mayBegin cX9_mayBegin 3 (some .boolean) 0 k [.ref a_t, .int x1, .int x2] (w_X9_mayBegin k a_t a_t_s a_t_past a_t_aside a_t_text a_t_told a_t_bottoms a_t_planned v_t_pasts v_t_typed v_t_at v_t_kind v_t_from v_t_value v_t_planLength v_t_planAmount v_t_s) (w_X9_mayBegin k a_t a_t_s a_t_past a_t_aside a_t_text a_t_told a_t_bottoms a_t_planned v_t_pasts v_t_typed v_t_at v_t_kind v_t_from v_t_value v_t_planLength v_t_planAmount v_t_s) (some (.int q)) := by
  refine mg_Mz RX9 [(0, .ref a_t), (1, .int x1), (2, .int x2)] (by decide +kernel) rfl rfl (Nat.le_of_ble_eq_true rfl) ?_
  intro z A Q hl C E
  subst hl
  unfold f_X9_mayBegin at hf
  have J37 : ∀ (x1 : Int32), f_X9_mayBegin_J37 v_t_s x1 = some q → mg z k A 3 0 0 Q (w_X9_mayBegin k a_t a_t_s a_t_past a_t_aside a_t_text a_t_told a_t_bottoms a_t_planned v_t_pasts v_t_typed v_t_at v_t_kind v_t_from v_t_value v_t_planLength v_t_planAmount v_t_s) [(0, .ref a_t), (1, .int x1)] 37 [] := by
    intro x1 hf
    unfold f_X9_mayBegin_J37 at hf
    refine mg_iload_n (pc := 37) C 1 dX9_mayBegin_37 rfl rfl ?_
    refine mg_iconst (pc := 38) C dX9_mayBegin_38 (v := 5) (by decide) ?_
    refine mg_icmp_ne (pc := 39) (tgt := 54) C dX9_mayBegin_39 (by decide) hf (fun hf => ?_) (fun hf => ?_)
    · refine mg_iconst (pc := 54) C dX9_mayBegin_54 (v := 1) (by decide) ?_
      refine mg_goto (pc := 55) (tgt := 59) C dX9_mayBegin_55 (by decide) ?_
      obtain rfl := Option.some.inj hf
      exact E mg_n1 _ _ dX9_mayBegin_59
    · refine mg_aload_n (pc := 42) C 0 dX9_mayBegin_42 rfl rfl ?_
      refine mg_get (pc := 43) C 0 rfl rfl inX9 0 (by decide) wm_874 rfl rfl dX9_mayBegin_43 ?_
      refine mg_bipush (pc := 46) C dX9_mayBegin_46 (v := 33) (by decide) ?_
      refine mg_ialdK (pc := 48) C 1 33 rfl dX9_mayBegin_48 (by decide) (by decide) ?_
      refine mg_bipush (pc := 49) C dX9_mayBegin_49 (v := 10) (by decide) ?_
      refine mg_icmp_ge (pc := 51) (tgt := 58) C dX9_mayBegin_51 (by decide) hf (fun hf => ?_) (fun hf => ?_)
      · refine mg_iconst (pc := 58) C dX9_mayBegin_58 (v := 0) (by decide) ?_
        obtain rfl := Option.some.inj hf
        exact E mg_n0 _ _ dX9_mayBegin_59
      · refine mg_iconst (pc := 54) C dX9_mayBegin_54 (v := 1) (by decide) ?_
        refine mg_goto (pc := 55) (tgt := 59) C dX9_mayBegin_55 (by decide) ?_
        obtain rfl := Option.some.inj hf
        exact E mg_n1 _ _ dX9_mayBegin_59
  have J20 : ∀ (x1 : Int32), f_X9_mayBegin_J20 v_t_s x1 = some q → mg z k A 3 0 0 Q (w_X9_mayBegin k a_t a_t_s a_t_past a_t_aside a_t_text a_t_told a_t_bottoms a_t_planned v_t_pasts v_t_typed v_t_at v_t_kind v_t_from v_t_value v_t_planLength v_t_planAmount v_t_s) [(0, .ref a_t), (1, .int x1)] 20 [] := by
    intro x1 hf
    unfold f_X9_mayBegin_J20 at hf
    refine mg_iload_n (pc := 20) C 1 dX9_mayBegin_20 rfl rfl ?_
    refine mg_iconst (pc := 21) C dX9_mayBegin_21 (v := 4) (by decide) ?_
    refine mg_icmp_ne (pc := 22) (tgt := 37) C dX9_mayBegin_22 (by decide) hf (fun hf => ?_) (fun hf => ?_)
    · exact J37 x1 hf
    · refine mg_aload_n (pc := 25) C 0 dX9_mayBegin_25 rfl rfl ?_
      refine mg_get (pc := 26) C 0 rfl rfl inX9 0 (by decide) wm_874 rfl rfl dX9_mayBegin_26 ?_
      refine mg_bipush (pc := 29) C dX9_mayBegin_29 (v := 8) (by decide) ?_
      refine mg_ialdK (pc := 31) C 1 8 rfl dX9_mayBegin_31 (by decide) (by decide) ?_
      refine mg_bipush (pc := 32) C dX9_mayBegin_32 (v := 8) (by decide) ?_
      refine mg_icmp_ge (pc := 34) (tgt := 58) C dX9_mayBegin_34 (by decide) hf (fun hf => ?_) (fun hf => ?_)
      · refine mg_iconst (pc := 58) C dX9_mayBegin_58 (v := 0) (by decide) ?_
        obtain rfl := Option.some.inj hf
        exact E mg_n0 _ _ dX9_mayBegin_59
      · exact J37 x1 hf
  refine mg_aload_n (pc := 0) C 0 dX9_mayBegin_0 rfl rfl ?_
  refine mg_get (pc := 1) C 0 rfl rfl inX9 7 (by decide) wm_881 rfl rfl dX9_mayBegin_1 ?_
  refine mg_iconst (pc := 4) C dX9_mayBegin_4 (v := 1) (by decide) ?_
  refine mg_icmp_ne (pc := 5) (tgt := 58) C dX9_mayBegin_5 (by decide) hf (fun hf => ?_) (fun hf => ?_)
  · refine mg_iconst (pc := 58) C dX9_mayBegin_58 (v := 0) (by decide) ?_
    obtain rfl := Option.some.inj hf
    exact E mg_n0 _ _ dX9_mayBegin_59
  · refine mg_iload_n (pc := 8) C 1 dX9_mayBegin_8 rfl rfl ?_
    refine mg_if_lt (pc := 9) (tgt := 58) C dX9_mayBegin_9 (by decide) hf (fun hf => ?_) (fun hf => ?_)
    · refine mg_iconst (pc := 58) C dX9_mayBegin_58 (v := 0) (by decide) ?_
      obtain rfl := Option.some.inj hf
      exact E mg_n0 _ _ dX9_mayBegin_59
    · refine mg_iload_n (pc := 12) C 1 dX9_mayBegin_12 rfl rfl ?_
      refine mg_if_ne (pc := 13) (tgt := 20) C dX9_mayBegin_13 (by decide) hf (fun hf => ?_) (fun hf => ?_)
      · refine mg_lv [0, 1] rfl ?_
        exact J20 x1 hf
      · refine mg_iload_n (pc := 16) C 2 dX9_mayBegin_16 rfl rfl ?_
        refine mg_if_ne (pc := 17) (tgt := 58) C dX9_mayBegin_17 (by decide) hf (fun hf => ?_) (fun hf => ?_)
        · refine mg_iconst (pc := 58) C dX9_mayBegin_58 (v := 0) (by decide) ?_
          obtain rfl := Option.some.inj hf
          exact E mg_n0 _ _ dX9_mayBegin_59
        · refine mg_lv [0, 1] rfl ?_
          exact J20 x1 hf
abbrev w_X9_isRead (k : mg_K) (a_t a_t_s a_t_past a_t_aside a_t_text a_t_told a_t_bottoms a_t_planned : Nat) (v_t_pasts : Int32) (v_t_typed : Int32) (v_t_at : Int32) (v_t_kind : Int32) (v_t_from : Int32) (v_t_value : Int32) (v_t_planLength : Int32) (v_t_planAmount : Int32) (v_t_s : Nat → Int32) (v_t_text : Nat → Int32) (v_t_told : Nat → Int32) : va_W := [(a_t, .inr (9, [.ref a_t_s, .ref a_t_past, .ref a_t_aside, .int v_t_pasts, .ref a_t_text, .int v_t_typed, .int v_t_at, .int v_t_kind, .int v_t_from, .int v_t_value, .ref a_t_told, .ref a_t_bottoms, .ref a_t_planned, .int v_t_planLength, .int v_t_planAmount])), (a_t_s, .inl (k.2.1, 227, .inl v_t_s)), (a_t_text, .inl (k.2.1, 200, .inl v_t_text)), (a_t_told, .inl (k.2.1, 4, .inl v_t_told))]
def f_X9_isRead_L10 (fuel : Nat) (v_t_typed : Int32) (v_t_s : Nat → Int32) (v_t_text : Nat → Int32) (x1 : Int32) (x2 : Int32) : Nat → Int32 → Int32 → Int32 → Int32 → Int32 → Int32 → (Nat → Int32) → Option (Int32 × Int32 × Int32 × Int32 × Int32 × Int32 × (Nat → Int32))
  | 0, _, _, _, _, _, _, _ => none
  | n_ + 1, x3, x4, v_t_at, v_t_kind, v_t_from, v_t_value, v_t_told => if x2 ≤ x4 then (some ((x3, x4, v_t_at, v_t_kind, v_t_from, v_t_value, v_t_told))) else (if x3 = 0 then (some ((x3, x4, v_t_at, v_t_kind, v_t_from, v_t_value, v_t_told))) else ((f_X9_token fuel v_t_typed v_t_at v_t_value v_t_text).bind (fun q3 => if q3.2.1 = 2 then ((f_X9_isTold fuel q3.2.2.2 v_t_s v_t_told x1 x4).bind (fun q5 => if q5 = 0 then (if mg_ix x4 4 = true then (f_X9_isRead_L10 fuel v_t_typed v_t_s v_t_text x1 x2 n_ 0 (x4 + 1) q3.1 q3.2.1 q3.2.2.1 q3.2.2.2 (upd v_t_told (Int32.toNatClampNeg x4) q3.2.2.2)) else none) else (if mg_ix x4 4 = true then (f_X9_isRead_L10 fuel v_t_typed v_t_s v_t_text x1 x2 n_ 1 (x4 + 1) q3.1 q3.2.1 q3.2.2.1 q3.2.2.2 (upd v_t_told (Int32.toNatClampNeg x4) q3.2.2.2)) else none))) else (if mg_ix x4 4 = true then (f_X9_isRead_L10 fuel v_t_typed v_t_s v_t_text x1 x2 n_ 0 (x4 + 1) q3.1 q3.2.1 q3.2.2.1 q3.2.2.2 (upd v_t_told (Int32.toNatClampNeg x4) q3.2.2.2)) else none))))
def f_X9_isRead_J65 (fuel : Nat) (v_t_typed : Int32) (v_t_at : Int32) (v_t_kind : Int32) (v_t_from : Int32) (v_t_value : Int32) (v_t_s : Nat → Int32) (v_t_text : Nat → Int32) (v_t_told : Nat → Int32) (x1 : Int32) (x3 : Int32) : Option (Int32 × Int32 × Int32 × Int32 × Int32 × (Nat → Int32) × (Nat → Int32)) := if x3 = 0 then (if x3 = 0 then (if x3 &&& 1 = x3 then some (x3, v_t_at, v_t_kind, v_t_from, v_t_value, v_t_s, v_t_told) else none) else ((f_X9_puts fuel v_t_s v_t_told x1).bind (fun q10 => if x3 &&& 1 = x3 then some (x3, v_t_at, v_t_kind, v_t_from, v_t_value, q10, v_t_told) else none))) else ((f_X9_token fuel v_t_typed v_t_at v_t_value v_t_text).bind (fun q13 => if q13.2.1 = 3 then ((f_X9_puts fuel v_t_s v_t_told x1).bind (fun q15 => some (1, q13.1, q13.2.1, q13.2.2.1, q13.2.2.2, q15, v_t_told))) else (some (0, q13.1, q13.2.1, q13.2.2.1, q13.2.2.2, v_t_s, v_t_told))))
def f_X9_isRead (fuel : Nat) (v_t_typed : Int32) (v_t_at : Int32) (v_t_kind : Int32) (v_t_from : Int32) (v_t_value : Int32) (v_t_s : Nat → Int32) (v_t_text : Nat → Int32) (v_t_told : Nat → Int32) (x1 : Int32) : Option (Int32 × Int32 × Int32 × Int32 × Int32 × (Nat → Int32) × (Nat → Int32)) := (f_X9_numbersOf x1).bind (fun q1 => (f_X9_isRead_L10 fuel v_t_typed v_t_s v_t_text x1 q1 fuel 1 0 v_t_at v_t_kind v_t_from v_t_value v_t_told).bind (fun q7 => f_X9_isRead_J65 fuel v_t_typed q7.2.2.1 q7.2.2.2.1 q7.2.2.2.2.1 q7.2.2.2.2.2.1 v_t_s v_t_text q7.2.2.2.2.2.2 x1 q7.1))
theorem Y_X9_isRead : mg_Y yX9_isRead cX9_isRead 5 (some .boolean) 1 := ⟨wm_971, wp_26, wm_11, wm_972, ⟨by decide +kernel, by decide +kernel, by decide +kernel⟩, by decide⟩
set_option maxRecDepth 100000 in
set_option maxHeartbeats 4000000 in
theorem c_X9_isRead (l : Launch) (k : mg_K) (a_t a_t_s a_t_past a_t_aside a_t_text a_t_told a_t_bottoms a_t_planned : Nat) (v_t_pasts : Int32) (v_t_typed : Int32) (v_t_at : Int32) (v_t_kind : Int32) (v_t_from : Int32) (v_t_value : Int32) (v_t_planLength : Int32) (v_t_planAmount : Int32) (v_t_s : Nat → Int32) (v_t_text : Nat → Int32) (v_t_told : Nat → Int32) (fuel : Nat) (x1 : Int32) (q : Int32 × Int32 × Int32 × Int32 × Int32 × (Nat → Int32) × (Nat → Int32)) (hf : f_X9_isRead fuel v_t_typed v_t_at v_t_kind v_t_from v_t_value v_t_s v_t_text v_t_told x1 = some q) : mg_M l yX9_isRead cX9_isRead 5 (some .boolean) 3 k [.ref a_t, .int x1] (w_X9_isRead k a_t a_t_s a_t_past a_t_aside a_t_text a_t_told a_t_bottoms a_t_planned v_t_pasts v_t_typed v_t_at v_t_kind v_t_from v_t_value v_t_planLength v_t_planAmount v_t_s v_t_text v_t_told) (w_X9_isRead k a_t a_t_s a_t_past a_t_aside a_t_text a_t_told a_t_bottoms a_t_planned v_t_pasts v_t_typed q.2.1 q.2.2.1 q.2.2.2.1 q.2.2.2.2.1 v_t_planLength v_t_planAmount q.2.2.2.2.2.1 v_t_text q.2.2.2.2.2.2) (some (.int q.1)) := by
  refine mg_Mz RX9 [(0, .ref a_t), (1, .int x1)] (by decide +kernel) rfl rfl (Nat.le_of_ble_eq_true rfl) ?_
  intro z A Q hl C E
  subst hl
  unfold f_X9_isRead at hf
  have L10 : ∀ (x1 : Int32) (x2 : Int32) (v_t_s : Nat → Int32) (n_ : Nat) (x3 : Int32) (x4 : Int32) (v_t_at : Int32) (v_t_kind : Int32) (v_t_from : Int32) (v_t_value : Int32) (v_t_told : Nat → Int32) (q_ : Int32 × Int32 × Int32 × Int32 × Int32 × Int32 × (Nat → Int32)), f_X9_isRead_L10 fuel v_t_typed v_t_s v_t_text x1 x2 n_ x3 x4 v_t_at v_t_kind v_t_from v_t_value v_t_told = some q_ → (mg z k A 5 0 0 Q (w_X9_isRead k a_t a_t_s a_t_past a_t_aside a_t_text a_t_told a_t_bottoms a_t_planned v_t_pasts v_t_typed q_.2.2.1 q_.2.2.2.1 q_.2.2.2.2.1 q_.2.2.2.2.2.1 v_t_planLength v_t_planAmount v_t_s v_t_text q_.2.2.2.2.2.2) [(0, .ref a_t), (1, .int x1), (3, .int q_.1)] 65 []) → mg z k A 5 0 0 Q (w_X9_isRead k a_t a_t_s a_t_past a_t_aside a_t_text a_t_told a_t_bottoms a_t_planned v_t_pasts v_t_typed v_t_at v_t_kind v_t_from v_t_value v_t_planLength v_t_planAmount v_t_s v_t_text v_t_told) [(0, .ref a_t), (1, .int x1), (2, .int x2), (3, .int x3), (4, .int x4)] 10 [] := by
    intro x1 x2 v_t_s n_
    induction n_ with
    | zero => intro x3 x4 v_t_at v_t_kind v_t_from v_t_value v_t_told q_ hf; exact mg_no (show none = some q_ from hf)
    | succ n_ ih =>
      intro x3 x4 v_t_at v_t_kind v_t_from v_t_value v_t_told q_ hf X0
      rw [f_X9_isRead_L10] at hf
      refine mg_iload (pc := 10) C 4 dX9_isRead_10 rfl ?_
      refine mg_iload_n (pc := 12) C 2 dX9_isRead_12 rfl rfl ?_
      refine mg_icmp_ge (pc := 13) (tgt := 65) C dX9_isRead_13 (by decide) hf (fun hf => ?_) (fun hf => ?_)
      · obtain rfl := Option.some.inj hf
        refine mg_lv [0, 1, 3] rfl ?_
        exact X0
      · refine mg_iload_n (pc := 16) C 3 dX9_isRead_16 rfl rfl ?_
        refine mg_if_eq (pc := 17) (tgt := 65) C dX9_isRead_17 (by decide) hf (fun hf => ?_) (fun hf => ?_)
        · obtain rfl := Option.some.inj hf
          refine mg_lv [0, 1, 3] rfl ?_
          exact X0
        · refine mg_aload_n (pc := 20) C 0 dX9_isRead_20 rfl rfl ?_
          obtain ⟨q3, h4, hf⟩ := mg_b hf
          refine mg_callV (pc := 21) C (w2 := w_X9_isRead k a_t a_t_s a_t_past a_t_aside a_t_text a_t_told a_t_bottoms a_t_planned v_t_pasts v_t_typed q3.1 q3.2.1 q3.2.2.1 q3.2.2.2 v_t_planLength v_t_planAmount v_t_s v_t_text v_t_told) (c_X9_token z.2.1 k a_t a_t_s a_t_past a_t_aside a_t_text a_t_told a_t_bottoms a_t_planned v_t_pasts v_t_typed v_t_at v_t_kind v_t_from v_t_value v_t_planLength v_t_planAmount v_t_text fuel q3 h4) Y_X9_token wm_941 (by decide) rfl 0 rfl rfl rfl [0, 2] rfl (by decide) rfl [some 0, none, some 1, none] (by decide) rfl (Nat.le_of_ble_eq_true rfl) rfl dX9_isRead_21 ?_
          refine mg_aload_n (pc := 24) C 0 dX9_isRead_24 rfl rfl ?_
          refine mg_get (pc := 25) C 0 rfl rfl inX9 7 (by decide) wm_881 rfl rfl dX9_isRead_25 ?_
          refine mg_iconst (pc := 28) C dX9_isRead_28 (v := 2) (by decide) ?_
          refine mg_icmp_ne (pc := 29) (tgt := 46) C dX9_isRead_29 (by decide) hf (fun hf => ?_) (fun hf => ?_)
          · refine mg_iconst (pc := 46) C dX9_isRead_46 (v := 0) (by decide) ?_
            refine mg_istore_n (pc := 47) C (lv' := [(3, .int 0), (0, .ref a_t), (1, .int x1), (2, .int x2), (4, .int x4)]) dX9_isRead_47 rfl (by decide) rfl ?_
            refine mg_aload_n (pc := 48) C 1 dX9_isRead_48 rfl rfl ?_
            refine mg_get (pc := 49) C 0 rfl rfl inX9 10 (by decide) wm_884 rfl rfl dX9_isRead_49 ?_
            refine mg_iload (pc := 52) C 4 dX9_isRead_52 rfl ?_
            refine mg_aload_n (pc := 54) C 1 dX9_isRead_54 rfl rfl ?_
            refine mg_get (pc := 55) C 0 rfl rfl inX9 9 (by decide) wm_883 rfl rfl dX9_isRead_55 ?_
            refine mg_iast (pc := 58) C (w2 := w_X9_isRead k a_t a_t_s a_t_past a_t_aside a_t_text a_t_told a_t_bottoms a_t_planned v_t_pasts v_t_typed q3.1 q3.2.1 q3.2.2.1 q3.2.2.2 v_t_planLength v_t_planAmount v_t_s v_t_text (upd v_t_told (Int32.toNatClampNeg x4) q3.2.2.2)) 3 rfl dX9_isRead_58 hf rfl (fun hf => ?_)
            refine mg_iinc (pc := 59) C (c := 1) (lv' := [(4, .int (x4 + 1)), (3, .int 0), (0, .ref a_t), (1, .int x1), (2, .int x2)]) 4 dX9_isRead_59 rfl (by decide) (by decide) rfl ?_
            refine mg_goto (pc := 62) (tgt := 10) C dX9_isRead_62 (by decide) ?_
            refine mg_lv [2, 3, 4, 1, 0] rfl ?_
            exact ih 0 (x4 + 1) q3.1 q3.2.1 q3.2.2.1 q3.2.2.2 (upd v_t_told (Int32.toNatClampNeg x4) q3.2.2.2) _ hf X0
          · refine mg_aload_n (pc := 32) C 0 dX9_isRead_32 rfl rfl ?_
            refine mg_iload_n (pc := 33) C 1 dX9_isRead_33 rfl rfl ?_
            refine mg_iload (pc := 34) C 4 dX9_isRead_34 rfl ?_
            obtain ⟨q5, h6, hf⟩ := mg_b hf
            refine mg_callV (pc := 36) C (w2 := w_X9_isRead k a_t a_t_s a_t_past a_t_aside a_t_text a_t_told a_t_bottoms a_t_planned v_t_pasts v_t_typed q3.1 q3.2.1 q3.2.2.1 q3.2.2.2 v_t_planLength v_t_planAmount v_t_s v_t_text v_t_told) (c_X9_isTold z.2.1 k a_t a_t_s a_t_past a_t_aside a_t_text a_t_told a_t_bottoms a_t_planned v_t_pasts v_t_typed q3.1 q3.2.1 q3.2.2.1 q3.2.2.2 v_t_planLength v_t_planAmount v_t_s v_t_told fuel x1 x4 q5 h6) Y_X9_isTold wm_976 (by decide) rfl 0 rfl rfl rfl [0, 1, 3] rfl (by decide) rfl [some 0, some 1, none, some 2] (by decide) rfl (Nat.le_of_ble_eq_true rfl) rfl dX9_isRead_36 ?_
            refine mg_if_eq (pc := 39) (tgt := 46) C dX9_isRead_39 (by decide) hf (fun hf => ?_) (fun hf => ?_)
            · refine mg_iconst (pc := 46) C dX9_isRead_46 (v := 0) (by decide) ?_
              refine mg_istore_n (pc := 47) C (lv' := [(3, .int 0), (0, .ref a_t), (1, .int x1), (2, .int x2), (4, .int x4)]) dX9_isRead_47 rfl (by decide) rfl ?_
              refine mg_aload_n (pc := 48) C 1 dX9_isRead_48 rfl rfl ?_
              refine mg_get (pc := 49) C 0 rfl rfl inX9 10 (by decide) wm_884 rfl rfl dX9_isRead_49 ?_
              refine mg_iload (pc := 52) C 4 dX9_isRead_52 rfl ?_
              refine mg_aload_n (pc := 54) C 1 dX9_isRead_54 rfl rfl ?_
              refine mg_get (pc := 55) C 0 rfl rfl inX9 9 (by decide) wm_883 rfl rfl dX9_isRead_55 ?_
              refine mg_iast (pc := 58) C (w2 := w_X9_isRead k a_t a_t_s a_t_past a_t_aside a_t_text a_t_told a_t_bottoms a_t_planned v_t_pasts v_t_typed q3.1 q3.2.1 q3.2.2.1 q3.2.2.2 v_t_planLength v_t_planAmount v_t_s v_t_text (upd v_t_told (Int32.toNatClampNeg x4) q3.2.2.2)) 3 rfl dX9_isRead_58 hf rfl (fun hf => ?_)
              refine mg_iinc (pc := 59) C (c := 1) (lv' := [(4, .int (x4 + 1)), (3, .int 0), (0, .ref a_t), (1, .int x1), (2, .int x2)]) 4 dX9_isRead_59 rfl (by decide) (by decide) rfl ?_
              refine mg_goto (pc := 62) (tgt := 10) C dX9_isRead_62 (by decide) ?_
              refine mg_lv [2, 3, 4, 1, 0] rfl ?_
              exact ih 0 (x4 + 1) q3.1 q3.2.1 q3.2.2.1 q3.2.2.2 (upd v_t_told (Int32.toNatClampNeg x4) q3.2.2.2) _ hf X0
            · refine mg_iconst (pc := 42) C dX9_isRead_42 (v := 1) (by decide) ?_
              refine mg_goto (pc := 43) (tgt := 47) C dX9_isRead_43 (by decide) ?_
              refine mg_istore_n (pc := 47) C (lv' := [(3, .int 1), (0, .ref a_t), (1, .int x1), (2, .int x2), (4, .int x4)]) dX9_isRead_47 rfl (by decide) rfl ?_
              refine mg_aload_n (pc := 48) C 1 dX9_isRead_48 rfl rfl ?_
              refine mg_get (pc := 49) C 0 rfl rfl inX9 10 (by decide) wm_884 rfl rfl dX9_isRead_49 ?_
              refine mg_iload (pc := 52) C 4 dX9_isRead_52 rfl ?_
              refine mg_aload_n (pc := 54) C 1 dX9_isRead_54 rfl rfl ?_
              refine mg_get (pc := 55) C 0 rfl rfl inX9 9 (by decide) wm_883 rfl rfl dX9_isRead_55 ?_
              refine mg_iast (pc := 58) C (w2 := w_X9_isRead k a_t a_t_s a_t_past a_t_aside a_t_text a_t_told a_t_bottoms a_t_planned v_t_pasts v_t_typed q3.1 q3.2.1 q3.2.2.1 q3.2.2.2 v_t_planLength v_t_planAmount v_t_s v_t_text (upd v_t_told (Int32.toNatClampNeg x4) q3.2.2.2)) 3 rfl dX9_isRead_58 hf rfl (fun hf => ?_)
              refine mg_iinc (pc := 59) C (c := 1) (lv' := [(4, .int (x4 + 1)), (3, .int 1), (0, .ref a_t), (1, .int x1), (2, .int x2)]) 4 dX9_isRead_59 rfl (by decide) (by decide) rfl ?_
              refine mg_goto (pc := 62) (tgt := 10) C dX9_isRead_62 (by decide) ?_
              refine mg_lv [2, 3, 4, 1, 0] rfl ?_
              exact ih 1 (x4 + 1) q3.1 q3.2.1 q3.2.2.1 q3.2.2.2 (upd v_t_told (Int32.toNatClampNeg x4) q3.2.2.2) _ hf X0
  have J65 : ∀ (x1 : Int32) (x3 : Int32) (v_t_at : Int32) (v_t_kind : Int32) (v_t_from : Int32) (v_t_value : Int32) (v_t_s : Nat → Int32) (v_t_told : Nat → Int32), f_X9_isRead_J65 fuel v_t_typed v_t_at v_t_kind v_t_from v_t_value v_t_s v_t_text v_t_told x1 x3 = some q → mg z k A 5 0 0 Q (w_X9_isRead k a_t a_t_s a_t_past a_t_aside a_t_text a_t_told a_t_bottoms a_t_planned v_t_pasts v_t_typed v_t_at v_t_kind v_t_from v_t_value v_t_planLength v_t_planAmount v_t_s v_t_text v_t_told) [(0, .ref a_t), (1, .int x1), (3, .int x3)] 65 [] := by
    intro x1 x3 v_t_at v_t_kind v_t_from v_t_value v_t_s v_t_told hf
    unfold f_X9_isRead_J65 at hf
    refine mg_iload_n (pc := 65) C 2 dX9_isRead_65 rfl rfl ?_
    refine mg_if_eq (pc := 66) (tgt := 87) C dX9_isRead_66 (by decide) hf (fun hf => ?_) (fun hf => ?_)
    · refine mg_iload_n (pc := 87) C 2 dX9_isRead_87 rfl rfl ?_
      refine mg_if_eq (pc := 88) (tgt := 96) C dX9_isRead_88 (by decide) hf (fun hf => ?_) (fun hf => ?_)
      · refine mg_iload_n (pc := 96) C 2 dX9_isRead_96 rfl rfl ?_
        obtain ⟨d9, hf⟩ := mg_ck hf
        obtain rfl := Option.some.inj hf
        exact E (mg_nb d9) _ _ dX9_isRead_97
      · refine mg_aload_n (pc := 91) C 0 dX9_isRead_91 rfl rfl ?_
        refine mg_iload_n (pc := 92) C 1 dX9_isRead_92 rfl rfl ?_
        obtain ⟨q10, h11, hf⟩ := mg_b hf
        refine mg_callV (pc := 93) C (w2 := w_X9_isRead k a_t a_t_s a_t_past a_t_aside a_t_text a_t_told a_t_bottoms a_t_planned v_t_pasts v_t_typed v_t_at v_t_kind v_t_from v_t_value v_t_planLength v_t_planAmount q10 v_t_text v_t_told) (c_X9_puts z.2.1 k a_t a_t_s a_t_past a_t_aside a_t_text a_t_told a_t_bottoms a_t_planned v_t_pasts v_t_typed v_t_at v_t_kind v_t_from v_t_value v_t_planLength v_t_planAmount v_t_s v_t_told fuel x1 q10 h11) Y_X9_puts wm_988 (by decide) rfl 0 rfl rfl rfl [0, 1, 3] rfl (by decide) rfl [some 0, some 1, none, some 2] (by decide) rfl (Nat.le_of_ble_eq_true rfl) rfl dX9_isRead_93 ?_
        refine mg_iload_n (pc := 96) C 2 dX9_isRead_96 rfl rfl ?_
        obtain ⟨d12, hf⟩ := mg_ck hf
        obtain rfl := Option.some.inj hf
        exact E (mg_nb d12) _ _ dX9_isRead_97
    · refine mg_aload_n (pc := 69) C 0 dX9_isRead_69 rfl rfl ?_
      obtain ⟨q13, h14, hf⟩ := mg_b hf
      refine mg_callV (pc := 70) C (w2 := w_X9_isRead k a_t a_t_s a_t_past a_t_aside a_t_text a_t_told a_t_bottoms a_t_planned v_t_pasts v_t_typed q13.1 q13.2.1 q13.2.2.1 q13.2.2.2 v_t_planLength v_t_planAmount v_t_s v_t_text v_t_told) (c_X9_token z.2.1 k a_t a_t_s a_t_past a_t_aside a_t_text a_t_told a_t_bottoms a_t_planned v_t_pasts v_t_typed v_t_at v_t_kind v_t_from v_t_value v_t_planLength v_t_planAmount v_t_text fuel q13 h14) Y_X9_token wm_941 (by decide) rfl 0 rfl rfl rfl [0, 2] rfl (by decide) rfl [some 0, none, some 1, none] (by decide) rfl (Nat.le_of_ble_eq_true rfl) rfl dX9_isRead_70 ?_
      refine mg_aload_n (pc := 73) C 0 dX9_isRead_73 rfl rfl ?_
      refine mg_get (pc := 74) C 0 rfl rfl inX9 7 (by decide) wm_881 rfl rfl dX9_isRead_74 ?_
      refine mg_iconst (pc := 77) C dX9_isRead_77 (v := 3) (by decide) ?_
      refine mg_icmp_ne (pc := 78) (tgt := 85) C dX9_isRead_78 (by decide) hf (fun hf => ?_) (fun hf => ?_)
      · refine mg_iconst (pc := 85) C dX9_isRead_85 (v := 0) (by decide) ?_
        refine mg_istore_n (pc := 86) C (lv' := [(3, .int 0), (0, .ref a_t), (1, .int x1)]) dX9_isRead_86 rfl (by decide) rfl ?_
        refine mg_iload_n (pc := 87) C 0 dX9_isRead_87 rfl rfl ?_
        refine mg_if_eqT (pc := 88) (tgt := 96) C (by decide) dX9_isRead_88 (by decide) ?_
        refine mg_iload_n (pc := 96) C 0 dX9_isRead_96 rfl rfl ?_
        obtain rfl := Option.some.inj hf
        exact E mg_n0 _ _ dX9_isRead_97
      · refine mg_iconst (pc := 81) C dX9_isRead_81 (v := 1) (by decide) ?_
        refine mg_goto (pc := 82) (tgt := 86) C dX9_isRead_82 (by decide) ?_
        refine mg_istore_n (pc := 86) C (lv' := [(3, .int 1), (0, .ref a_t), (1, .int x1)]) dX9_isRead_86 rfl (by decide) rfl ?_
        refine mg_iload_n (pc := 87) C 0 dX9_isRead_87 rfl rfl ?_
        refine mg_if_eqF (pc := 88) (tgt := 96) C (by decide) dX9_isRead_88 (by decide) ?_
        refine mg_aload_n (pc := 91) C 1 dX9_isRead_91 rfl rfl ?_
        refine mg_iload_n (pc := 92) C 2 dX9_isRead_92 rfl rfl ?_
        obtain ⟨q15, h16, hf⟩ := mg_b hf
        refine mg_callV (pc := 93) C (w2 := w_X9_isRead k a_t a_t_s a_t_past a_t_aside a_t_text a_t_told a_t_bottoms a_t_planned v_t_pasts v_t_typed q13.1 q13.2.1 q13.2.2.1 q13.2.2.2 v_t_planLength v_t_planAmount q15 v_t_text v_t_told) (c_X9_puts z.2.1 k a_t a_t_s a_t_past a_t_aside a_t_text a_t_told a_t_bottoms a_t_planned v_t_pasts v_t_typed q13.1 q13.2.1 q13.2.2.1 q13.2.2.2 v_t_planLength v_t_planAmount v_t_s v_t_told fuel x1 q15 h16) Y_X9_puts wm_988 (by decide) rfl 0 rfl rfl rfl [0, 1, 3] rfl (by decide) rfl [some 0, some 1, none, some 2] (by decide) rfl (Nat.le_of_ble_eq_true rfl) rfl dX9_isRead_93 ?_
        refine mg_iload_n (pc := 96) C 0 dX9_isRead_96 rfl rfl ?_
        obtain rfl := Option.some.inj hf
        exact E mg_n1 _ _ dX9_isRead_97
  refine mg_iload_n (pc := 0) C 1 dX9_isRead_0 rfl rfl ?_
  obtain ⟨q1, h2, hf⟩ := mg_b hf
  refine mg_callS (pc := 1) C (w2 := w_X9_isRead k a_t a_t_s a_t_past a_t_aside a_t_text a_t_told a_t_bottoms a_t_planned v_t_pasts v_t_typed v_t_at v_t_kind v_t_from v_t_value v_t_planLength v_t_planAmount v_t_s v_t_text v_t_told) (c_X9_numbersOf z.2.1 k x1 q1 h2) Y_X9_numbersOf wm_973 (by decide) rfl [] rfl (by decide) rfl [none, none, none, none] (by decide) rfl (Nat.le_of_ble_eq_true rfl) rfl dX9_isRead_1 ?_
  refine mg_istore_n (pc := 4) C (lv' := [(2, .int q1), (0, .ref a_t), (1, .int x1)]) dX9_isRead_4 rfl (by decide) rfl ?_
  refine mg_iconst (pc := 5) C dX9_isRead_5 (v := 1) (by decide) ?_
  refine mg_istore_n (pc := 6) C (lv' := [(3, .int 1), (2, .int q1), (0, .ref a_t), (1, .int x1)]) dX9_isRead_6 rfl (by decide) rfl ?_
  refine mg_iconst (pc := 7) C dX9_isRead_7 (v := 0) (by decide) ?_
  refine mg_istore (pc := 8) C (lv' := [(4, .int 0), (3, .int 1), (2, .int q1), (0, .ref a_t), (1, .int x1)]) dX9_isRead_8 (by decide) rfl ?_
  obtain ⟨q7, h8, hf⟩ := mg_b hf
  refine mg_lv [3, 4, 2, 1, 0] rfl ?_
  refine L10 x1 q1 v_t_s fuel 1 0 v_t_at v_t_kind v_t_from v_t_value v_t_told q7 h8 ?_
  exact J65 x1 q7.1 q7.2.2.1 q7.2.2.2.1 q7.2.2.2.2.1 q7.2.2.2.2.2.1 v_t_s q7.2.2.2.2.2.2 hf
