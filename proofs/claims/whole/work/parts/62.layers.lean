/-! layers, another caisson -/
theorem putL {s lv : Nat → Int32} {nl : Nat} (hR : LR s nl lv) (hn : nl < 8) {t : Nat} (ht : 1 ≤ t ∧ t ≤ 100) (y z : Int32) : ∃ lv' s' : Nat → Int32, f_X2_addBelow (s 8) lv (zI t) y z = some (s' 8, lv') ∧ f_X9_putsLayer s (zI t) y z = some s' ∧ LR s' (nl + 1) lv' ∧ ∀ k, k < 8 ∨ 33 ≤ k → s' k = s k := by
  obtain ⟨h8, _, hv, hth⟩ := id hR
  have hins := c_ins (N := 24) (cap := 8) (m := nl) (at_ := nl) (by omega) (by omega) (by omega) (by omega) (by omega) lv (lts s nl + zI t) y z
  have e1 : f_X2_addBelow (s 8) lv (zI t) y z = some (zI ((nl + 1 : Nat) : Int), upd (upd (upd (va_cpy lv lv (3 * nl) (3 * nl + 3) (3 * (min nl (8 - 1) - nl))) (3 * nl) (lts s nl + zI t)) (3 * nl + 1) y) (3 * nl + 2) z) := by
    unfold f_X2_addBelow
    rw [h8]
    simp (disch := omega) only [mt_eq0]
    by_cases c : nl = 0
    · subst c
      rw [if_pos rfl]
      rw [show lts s 0 = 0 from rfl] at hins
      erw [hins]
      rfl
    · rw [if_neg c, mt_m1 (by omega), show (0 : Int32) = zI ((0 : Nat) : Int) from rfl, c_get (by omega) (by omega) (by omega) (by omega), Option.bind_some, Nat.add_zero, (hv (nl - 1) (by omega)).1, show nl - 1 + 1 = nl by omega]
      erw [hins]
      rw [Option.bind_some, show min nl (8 - 1) + 1 = nl + 1 by omega]
  refine ⟨upd (upd (upd (va_cpy lv lv (3 * nl) (3 * nl + 3) (3 * (min nl (8 - 1) - nl))) (3 * nl) (lts s nl + zI t)) (3 * nl + 1) y) (3 * nl + 2) z, upd (upd (upd (upd s (9 + 3 * nl) (zI t)) (9 + 3 * nl + 1) y) (9 + 3 * nl + 2) z) 8 (zI ((nl + 1 : Nat) : Int)), ?_, ?_, ?_, ?_⟩
  · rw [e1, up_eq]
  · unfold f_X9_putsLayer
    rw [h8, mt_93, mt_p1, mt_p2, if_pos (mt_ixn (by omega) (by omega)), if_pos (mt_ixn (by omega) (by omega)), if_pos (mt_ixn (by omega) (by omega)), mt_cln (by omega), mt_cln (by omega), mt_cln (by omega), up_ne (by omega), up_ne (by omega), up_ne (by omega), h8, mt_s1]
  · have hl : ∀ i, i ≤ nl → lts (upd (upd (upd (upd s (9 + 3 * nl) (zI t)) (9 + 3 * nl + 1) y) (9 + 3 * nl + 2) z) 8 (zI ((nl + 1 : Nat) : Int))) i = lts s i := by
      intro i hi
      apply lts_c
      intro k hk
      rw [up_ne (by omega), up_ne (by omega), up_ne (by omega), up_ne (by omega)]
    refine ⟨up_eq _ _ _, by omega, ?_, ?_⟩
    · intro i hi
      by_cases c : i = nl
      · subst c
        refine ⟨?_, ?_, ?_⟩
        · rw [up_ne (by omega), up_ne (by omega), up_eq]
          show _ = lts _ i + _
          rw [hl i (by omega), up_ne (by omega), up_ne (by omega), up_ne (by omega), up_eq]
        · rw [up_ne (by omega), up_eq, up_ne (by omega), up_ne (by omega), up_eq]
        · rw [up_eq, up_ne (by omega), up_eq]
      · rw [hl (i + 1) (by omega)]
        have hc : ∀ k, k < 3 * nl → va_cpy lv lv (3 * nl) (3 * nl + 3) (3 * (min nl (8 - 1) - nl)) k = lv k := by
          intro k hk
          unfold va_cpy
          rw [if_neg (by omega)]
        refine ⟨?_, ?_, ?_⟩
        · rw [up_ne (by omega), up_ne (by omega), up_ne (by omega), hc _ (by omega)]
          exact (hv i (by omega)).1
        · rw [up_ne (by omega), up_ne (by omega), up_ne (by omega), hc _ (by omega), up_ne (by omega), up_ne (by omega), up_ne (by omega), up_ne (by omega)]
          exact (hv i (by omega)).2.1
        · rw [up_ne (by omega), up_ne (by omega), up_ne (by omega), hc _ (by omega), up_ne (by omega), up_ne (by omega), up_ne (by omega), up_ne (by omega)]
          exact (hv i (by omega)).2.2
    · intro i hi
      by_cases c : i = nl
      · subst c
        rw [up_ne (by omega), up_ne (by omega), up_ne (by omega), up_eq]
        exact ⟨t, rfl, ht⟩
      · rw [up_ne (by omega), up_ne (by omega), up_ne (by omega), up_ne (by omega)]
        exact hth i (by omega)
  · intro k hk
    rw [up_ne (by omega), up_ne (by omega), up_ne (by omega), up_ne (by omega)]
theorem m_addLayer {v : sv_T} {s past : Nat → Int32} {nx ct ps : Int32} {sv : Nat → sv_T} {fuel : Nat} (hf : 5000 ≤ fuel) (h : SRE v s) (hH : HR nx ct sv ps past) (aside : Nat → Int32) (x y z : Int32) : TS (fun q : sv_T => (v.1, v.2.1, v.2.2.1, v.2.2.2.1, v.2.2.2.2.1, v.2.2.2.2.2.1, v.2.2.2.2.2.2.1, v.2.2.2.2.2.2.2.1, q.2.2.2.2.2.2.2.2.1, q.2.2.2.2.2.2.2.2.2.1, v.2.2.2.2.2.2.2.2.2.2.1, v.2.2.2.2.2.2.2.2.2.2.2.1, v.2.2.2.2.2.2.2.2.2.2.2.2.1, v.2.2.2.2.2.2.2.2.2.2.2.2.2.1, v.2.2.2.2.2.2.2.2.2.2.2.2.2.2.1, v.2.2.2.2.2.2.2.2.2.2.2.2.2.2.2.1, v.2.2.2.2.2.2.2.2.2.2.2.2.2.2.2.2)) (f_X8_addLayer v nx ct sv x y z) (f_X9_addLayer fuel ps aside past s x y z) := by
  have hS := h
  obtain ⟨W, L, nl, nb, nr, D, a, b, bal, bv, lv, lub, bot, rv, rfl, hG, hP, hw, hQW, hR, hB, hQB, hA, hQA, hU, hT, hQT, hRR⟩ := h
  obtain ⟨nx', ct', ps', sv', past', e1, e2, hH'⟩ := push hf hS hH aside
  unfold f_X8_addLayer f_X9_addLayer
  rw [fI_in, fI_in, fI_in]
  have hnl := hR.2.1
  dsimp only
  rcases mt_win x 1 100 (l := 1) (h := 100) rfl rfl (by omega) (by omega) with ⟨t, rfl, h1, h2, e⟩ | e
  · rw [e, Option.bind_some, if_neg n10, Option.bind_some, if_neg n10]
    rcases mt_win y 0 50 (l := 0) (h := 50) rfl rfl (by omega) (by omega) with ⟨m, rfl, h3, h4, e⟩ | e
    · rw [e, Option.bind_some, if_neg n10, Option.bind_some, if_neg n10]
      rcases mt_win z 0 9 (l := 0) (h := 9) rfl rfl (by omega) (by omega) with ⟨o, rfl, h5, h6, e⟩ | e
      · rw [e, Option.bind_some, if_neg n10, Option.bind_some, if_neg n10]
        unfold f_X7_isFull
        have c1 : (s 8 < 8) = (nl < 8) := by rw [hR.1, show (8 : Int32) = zI ((8 : Nat) : Int) from rfl, mt_ltn (by omega) (by omega)]
        have c2 : (s 8 = 8) = (nl = 8) := by rw [hR.1, show (8 : Int32) = zI ((8 : Nat) : Int) from rfl, mt_eqn (by omega) (by omega)]
        simp only [c1, c2]
        by_cases c : nl = 8
        · rw [if_neg (by omega), if_pos c, Option.bind_some, if_neg n10]; exact TS_stay rfl hS hH
        · obtain ⟨lv', s', f1, f2, f3, f4⟩ := putL hR (by omega) ⟨h1, h2⟩ (zI m) (zI o)
          rw [if_pos (show nl < 8 by omega), if_neg c, Option.bind_some, if_pos rfl, e1, Option.bind_some, f1, Option.bind_some, r_hold hf, Option.bind_some, f2, Option.bind_some, e2, Option.bind_some]
          refine ⟨_, _, rfl, rfl, rfl, ?_, hH'⟩
          show SRE (s 0, s 1, s 5, s 7, s 6, bal, s 33, bv, s' 8, lv', lub, s 2, s 3, s 4, bot, s 166, rv) s'
          exact ⟨W, L, nl + 1, nb, nr, D, a, b, ⟨bal, bv, lv', lub, bot, rv, by rw [f4 0 (by omega), f4 1 (by omega), f4 2 (by omega), f4 3 (by omega), f4 4 (by omega), f4 5 (by omega), f4 6 (by omega), f4 7 (by omega), f4 33 (by omega), f4 166 (by omega)], GR_c (f4 _ (by omega)) (f4 _ (by omega)) hG, PR_c (f4 _ (by omega)) (f4 _ (by omega)) (f4 _ (by omega)) hP, WR_c (f4 _ (by omega)) hw, QW_c (f4 _ (by omega)) hQW, f3, BR_c (fun k _ _ => f4 _ (by omega)) hB, QB_c hB.2.1 (fun k _ _ => f4 _ (by omega)) hQB, AR_c (fun k _ _ => f4 _ (by omega)) hA, QA_c (fun k _ _ => f4 _ (by omega)) hQA, UR_c (fun k _ _ => f4 _ (by omega)) hU, TR_c (fun k _ _ => f4 _ (by omega)) hT, QT_c (fun k _ _ => f4 _ (by omega)) hQT, RR_c (fun k _ _ => f4 _ (by omega)) hRR⟩⟩
      · rw [e]; exact TS_stay rfl hS hH
    · rw [e]; exact TS_stay rfl hS hH
  · rw [e]; exact TS_stay rfl hS hH
def rsz (s : Nat → Int32) (x y : Int32) : Nat → Int32 := fun j => if 64 ≤ j ∧ j < 166 then 0 else upd (upd (upd (upd (upd (upd s 0 x) 1 y) 2 0) 3 0) 4 0) 33 0 j
theorem rsz_z {s : Nat → Int32} {x y : Int32} {j : Nat} (h : 64 ≤ j ∧ j < 166) : rsz s x y j = 0 := if_pos h
theorem rsz_e {s : Nat → Int32} {x y : Int32} {j : Nat} (h : (5 ≤ j ∧ j < 33) ∨ (34 ≤ j ∧ j < 64) ∨ 166 ≤ j) : rsz s x y j = s j := by
  unfold rsz
  rw [if_neg (by omega), up_ne (by omega), up_ne (by omega), up_ne (by omega), up_ne (by omega), up_ne (by omega), up_ne (by omega)]
theorem SR_rsz {s bal bv lv lub bot rv : Nat → Int32} {W L nl nb nr D : Nat} {a b : Int} (h : SR (s 0, s 1, s 5, s 7, s 6, bal, s 33, bv, s 8, lv, lub, s 2, s 3, s 4, bot, s 166, rv) s W L nl nb nr D a b) {n m : Nat} (hn : 3 ≤ n ∧ n ≤ 7) (hm : 3 ≤ m ∧ m ≤ 7) (bal0 bv0 lub0 bot0 : Nat → Int32) : SR (zI n, zI m, s 5, s 7, s 6, (fun j => if j < 49 then 0 else bal0 j), 0, bv0, s 8, lv, (fun j => if j < 4 then 0 else lub0 j), 0, 0, 0, (fun j => if j < 49 then 0 else bot0 j), s 166, rv) (rsz s (zI n) (zI m)) n m nl 0 nr 0 0 0 := by
  obtain ⟨bal', bv', lv', lub', bot', rv', hv, hG, hP, hw, hQW, hR, hB, hQB, hA, hQA, hU, hT, hQT, hRR⟩ := h
  simp only [Prod.mk.injEq, true_and] at hv
  obtain ⟨rfl, rfl, rfl, rfl, rfl, rfl⟩ := hv
  refine ⟨_, bv0, _, _, _, _, rfl, ⟨rfl, rfl, hn, hm⟩, ⟨rfl, by omega, rfl, by omega, rfl, by omega⟩, WR_c (rsz_e (by omega)) hw, QW_c (rsz_e (by omega)) hQW, LR_c (fun k _ _ => rsz_e (by omega)) hR, ⟨rfl, by omega, fun k hk => absurd hk (by omega)⟩, ⟨fun i hi => absurd hi (by omega), fun i hi => absurd hi (by omega)⟩, ?_, ?_, ?_, ?_, ?_, RR_c (fun k _ _ => rsz_e (by omega)) hRR⟩
  · intro k hk
    rw [rsz_z (by omega)]
    exact if_pos hk
  · intro k hk
    rw [rsz_z (by omega)]
    exact ⟨0, rfl, by omega, fun _ => rfl⟩
  · intro k hk
    rw [rsz_z (by omega)]
    exact if_pos hk
  · intro k hk
    rw [rsz_z (by omega)]
    exact if_pos hk
  · intro k hk
    rw [rsz_z (by omega)]
    exact ⟨0, rfl, by omega⟩
theorem m_resize {v : sv_T} {s past : Nat → Int32} {nx ct ps : Int32} {sv : Nat → sv_T} {fuel : Nat} (hf : 5000 ≤ fuel) (h : SRE v s) (hH : HR nx ct sv ps past) (aside : Nat → Int32) (x y : Int32) : TS (fun q : sv_T => (q.1, q.2.1, v.2.2.1, v.2.2.2.1, v.2.2.2.2.1, q.2.2.2.2.2.1, q.2.2.2.2.2.2.1, v.2.2.2.2.2.2.2.1, v.2.2.2.2.2.2.2.2.1, v.2.2.2.2.2.2.2.2.2.1, q.2.2.2.2.2.2.2.2.2.2.1, q.2.2.2.2.2.2.2.2.2.2.2.1, q.2.2.2.2.2.2.2.2.2.2.2.2.1, q.2.2.2.2.2.2.2.2.2.2.2.2.2.1, q.2.2.2.2.2.2.2.2.2.2.2.2.2.2.1, v.2.2.2.2.2.2.2.2.2.2.2.2.2.2.2.1, v.2.2.2.2.2.2.2.2.2.2.2.2.2.2.2.2)) (f_X8_resize fuel v nx ct sv x y) (f_X9_resize fuel ps aside past s x y) := by
  have hS := h
  obtain ⟨W, L, nl, nb, nr, D, a, b, hsr⟩ := h
  obtain ⟨bal, bv, lv, lub, bot, rv, rfl, hG, hP, hw, hQW, hR, hB, hQB, hA, hQA, hU, hT, hQT, hRR⟩ := id hsr
  obtain ⟨nx', ct', ps', sv', past', e1, e2, hH'⟩ := push hf hS hH aside
  unfold f_X8_resize f_X9_resize
  rw [fI_in, fI_in]
  dsimp only
  rcases mt_win x 3 7 (l := 3) (h := 7) rfl rfl (by omega) (by omega) with ⟨n, rfl, h1, h2, e⟩ | e
  · rw [e, Option.bind_some, if_neg n10, Option.bind_some, if_neg n10]
    rcases mt_win y 3 7 (l := 3) (h := 7) rfl rfl (by omega) (by omega) with ⟨m, rfl, h3, h4, e⟩ | e
    · rw [e, Option.bind_some, if_neg n10, Option.bind_some, if_neg n10, e1, Option.bind_some, mt_X5_replaceCaisson hf, Option.bind_some, r_hold hf, Option.bind_some]
      have hfl := mt_fillo (F := f_X9_resize_L73) (N := 166) (o := 0) (g := fun _ => 0) (fun n a => by rw [f_X9_resize_L73, if_pos (by decide)]) (fun n i a hi => by
        rw [f_X9_resize_L73, if_neg (by rw [show (166 : Int32) = zI ((166 : Nat) : Int) from rfl, mt_len (by omega) (by omega)]; omega), if_pos (mt_ixn (by omega) (by omega)), mt_cln (by omega), mt_s1, Nat.zero_add]) 102 fuel 64 (upd (upd (upd (upd (upd (upd s 0 (zI n)) 1 (zI m)) 2 0) 3 0) 4 0) 33 0) (by omega) (by omega)
      rw [show zI ((64 : Nat) : Int) = 64 from rfl] at hfl
      rw [hfl, Option.bind_some, e2, Option.bind_some]
      refine ⟨_, _, rfl, rfl, rfl, ?_, hH'⟩
      refine SRE_c (s := rsz s (zI n) (zI m)) ?_ ⟨n, m, nl, 0, nr, 0, 0, 0, SR_rsz hsr ⟨h1, h2⟩ ⟨h3, h4⟩ bal bv lub bot⟩
      intro k hk
      unfold rsz
      rfl
    · rw [e]; exact TS_stay rfl hS hH
  · rw [e]; exact TS_stay rfl hS hH
theorem t_addLayer : MT_addLayer Cpl := by
  intro fuel hf c r x1 x2 x3 h
  obtain ⟨q1, q2, e1, e2, e3, e4, e5⟩ := m_addLayer hf h.1 h.2.1 _ x1 x2 x3
  exact ⟨q1, q2, e1, e2, e3, e4, e5, h.2.2.1, h.2.2.2⟩
theorem t_resize : MT_resize Cpl := by
  intro fuel hf c r x1 x2 h
  obtain ⟨q1, q2, e1, e2, e3, e4, e5⟩ := m_resize hf h.1 h.2.1 _ x1 x2
  exact ⟨q1, q2, e1, e2, e3, e4, e5, h.2.2.1, h.2.2.2⟩
