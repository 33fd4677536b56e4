/-! records; calls that change the site -/
def TS (g : sv_T → sv_T) (A : Option (Int32 × sv_T × Int32 × Int32 × (Nat → sv_T))) (B : Option (Int32 × Int32 × (Nat → Int32) × (Nat → Int32) × (Nat → Int32))) : Prop := ∃ q1 q2, A = some q1 ∧ B = some q2 ∧ q1.1 = q2.1 ∧ SRE (g q1.2.1) q2.2.2.2.2 ∧ HR q1.2.2.1 q1.2.2.2.1 q1.2.2.2.2 q2.2.1 q2.2.2.2.1
theorem TS_stay {g : sv_T → sv_T} {v : sv_T} {s past aside : Nat → Int32} {nx ct ps x : Int32} {sv : Nat → sv_T} (hg : g v = v) (h : SRE v s) (hH : HR nx ct sv ps past) : TS g (some (x, v, nx, ct, sv)) (some (x, ps, aside, past, s)) := ⟨_, _, rfl, rfl, rfl, by rw [hg]; exact h, hH⟩
theorem mt_min {m n : Nat} (hm : m < 2147483648) (hn : n < 2147483648) : mg_mn (zI m) (zI n) = zI ((min m n : Nat) : Int) := by
  unfold mg_mn
  simp (disch := omega) only [mt_ltn]
  by_cases h : n < m
  · rw [if_pos h, Nat.min_eq_right (by omega)]
  · rw [if_neg h, Nat.min_eq_left (by omega)]
theorem mt_sbn {m n : Nat} (h : n ≤ m) : zI m - zI n = zI ((m - n : Nat) : Int) := by
  rw [zI_sub]; congr 1; omega
theorem mt_33 (i : Nat) : zI ((3 * i : Nat) : Int) + 3 = zI ((3 * i + 3 : Nat) : Int) := mt_p _ 3
theorem c_ins {N cap m at_ : Nat} (hc : 1 ≤ cap) (hN : 3 * cap ≤ N) (hN2 : N < 1000) (hm : m < 1000) (ha : at_ ≤ min m (cap - 1)) (vs : Nat → Int32) (x y z : Int32) : f_X7_insert N (zI cap) (zI m) vs (zI at_) x y z = some (zI ((min m (cap - 1) + 1 : Nat) : Int), upd (upd (upd (va_cpy vs vs (3 * at_) (3 * at_ + 3) (3 * (min m (cap - 1) - at_))) (3 * at_) x) (3 * at_ + 1) y) (3 * at_ + 2) z) := by
  unfold f_X7_insert
  rw [mt_m1 hc, mt_min (by omega) (by omega), if_neg (mt_ge0 (by omega)), if_pos (by rw [mt_len (by omega) (by omega)]; omega), mt_sbn ha, mt_31, mt_32, mt_3, mt_3, mt_33, if_pos (mt_cp (by omega) (by omega) (by omega) (by omega)), if_pos (mt_ixn (by omega) (by omega)), if_pos (mt_ixn (by omega) (by omega)), if_pos (mt_ixn (by omega) (by omega)), mt_s1, mt_cln (by omega), mt_cln (by omega), mt_cln (by omega), mt_cln (by omega), mt_cln (by omega)]
theorem mt_167 (i : Nat) : 167 + 3 * zI i = zI ((167 + 3 * i : Nat) : Int) := by
  rw [show (3 : Int32) = zI 3 from rfl, show (167 : Int32) = zI 167 from rfl, zI_mul, zI_add]; congr 1
theorem r_rec56 {s : Nat → Int32} {m : Nat} (h : s 166 = zI m) (hm : m < 20) (x y : Int32) : ∃ s', f_X9_records_J56 s x y = some s' ∧ (∀ j, j < 166 → s' j = s j) ∧ s' 166 = zI ((m + 1 : Nat) : Int) ∧ s' (167 + 3 * m) = x ∧ s' (167 + 3 * m + 1) = y ∧ s' (167 + 3 * m + 2) = s 2 ∧ ∀ j, 166 < j → j < 167 + 3 * m → s' j = s j := by
  unfold f_X9_records_J56
  rw [h, mt_167, mt_p1, mt_p2, if_pos (mt_ixn (by omega) (by omega)), if_pos (mt_ixn (by omega) (by omega)), if_pos (mt_ixn (by omega) (by omega)), mt_cln (by omega), mt_cln (by omega), mt_cln (by omega)]
  refine ⟨_, rfl, ?_, ?_, ?_, ?_, ?_, ?_⟩
  · intro j hj
    rw [up_ne (by omega), up_ne (by omega), up_ne (by omega), up_ne (by omega)]
  · rw [up_eq, up_ne (by omega), up_ne (by omega), up_ne (by omega), h, mt_s1]
  · rw [up_ne (by omega), up_ne (by omega), up_ne (by omega), up_eq]
  · rw [up_ne (by omega), up_ne (by omega), up_eq]
  · rw [up_ne (by omega), up_eq, up_ne (by omega), up_ne (by omega)]
  · intro j hj1 hj2
    rw [up_ne (by omega), up_ne (by omega), up_ne (by omega), up_ne (by omega)]
theorem r_rec {s : Nat → Int32} {m fuel : Nat} (hf : 5000 ≤ fuel) (h : s 166 = zI m) (hm : m ≤ 20) (x y : Int32) : ∃ s', f_X9_records fuel s x y = some s' ∧ (∀ j, j < 166 → s' j = s j) ∧ s' 166 = zI ((min m 19 + 1 : Nat) : Int) ∧ s' (167 + 3 * min m 19) = x ∧ s' (167 + 3 * min m 19 + 1) = y ∧ s' (167 + 3 * min m 19 + 2) = s 2 ∧ ∀ j, 166 < j → j < 167 + 3 * min m 19 → s' j = s (j + 3 * (m - min m 19)) := by
  unfold f_X9_records
  rw [h, show (20 : Int32) = zI ((20 : Nat) : Int) from rfl]
  simp (disch := omega) only [mt_eqn]
  by_cases c : m = 20
  · subst c
    rw [if_pos rfl]
    have e := mt_shift (F := f_X9_records_L17) (N := 224) (d := 3) (by omega) 167 (fun n a => by rw [f_X9_records_L17, if_pos (by decide)]) (fun n i a hi0 hi => by
      rw [f_X9_records_L17, if_neg (by rw [show (224 : Int32) = zI ((224 : Nat) : Int) from rfl, mt_len (by omega) (by omega)]; omega), show (3 : Int32) = zI ((3 : Nat) : Int) from rfl, mt_p, if_pos (mt_ixn (by omega) (by omega)), if_pos (mt_ixn (by omega) (by omega)), mt_cln (by omega), mt_cln (by omega), mt_s1]) 57 fuel 167 s (by omega) (by omega) (by omega)
    rw [show zI ((167 : Nat) : Int) = 167 from rfl] at e
    rw [e, Option.bind_some]
    dsimp only
    rw [if_neg (by omega), h]
    obtain ⟨s', e1, e2, e3, e4, e5, e6, e7⟩ := r_rec56 (s := upd (fun j => if 167 ≤ j ∧ j < 224 then s (j + 3) else s j) 166 (zI ((20 : Nat) : Int) - 1)) (m := 19) (by rw [up_eq]; decide) (by omega) x y
    refine ⟨s', e1, ?_, e3, e4, e5, ?_, ?_⟩
    · intro j hj
      rw [e2 j hj, up_ne (by omega)]
      rw [if_neg (by omega)]
    · rw [show min 20 19 = 19 by omega, e6, up_ne (by omega)]
      rw [if_neg (by omega)]
    · intro j hj1 hj2
      rw [e7 j hj1 hj2, up_ne (by omega)]
      rw [if_pos (by omega)]
      congr 1
  · rw [if_neg c]
    obtain ⟨s', e1, e2, e3, e4, e5, e6, e7⟩ := r_rec56 h (by omega) x y
    rw [show min m 19 = m by omega]
    refine ⟨s', e1, e2, e3, e4, e5, e6, ?_⟩
    intro j hj1 hj2
    rw [e7 j hj1 hj2]
    congr 1; omega
theorem recs {v : sv_T} {s : Nat → Int32} {fuel : Nat} (hf : 5000 ≤ fuel) (h : SRE v s) (x y : Int32) : ∃ (rc : Int32) (rv' s' : Nat → Int32), f_X8_writeRecord v x y = some (v.1, v.2.1, v.2.2.1, v.2.2.2.1, v.2.2.2.2.1, v.2.2.2.2.2.1, v.2.2.2.2.2.2.1, v.2.2.2.2.2.2.2.1, v.2.2.2.2.2.2.2.2.1, v.2.2.2.2.2.2.2.2.2.1, v.2.2.2.2.2.2.2.2.2.2.1, v.2.2.2.2.2.2.2.2.2.2.2.1, v.2.2.2.2.2.2.2.2.2.2.2.2.1, v.2.2.2.2.2.2.2.2.2.2.2.2.2.1, v.2.2.2.2.2.2.2.2.2.2.2.2.2.2.1, rc, rv') ∧ f_X9_records fuel s x y = some s' ∧ (∀ j, j < 166 → s' j = s j) ∧ SRE (v.1, v.2.1, v.2.2.1, v.2.2.2.1, v.2.2.2.2.1, v.2.2.2.2.2.1, v.2.2.2.2.2.2.1, v.2.2.2.2.2.2.2.1, v.2.2.2.2.2.2.2.2.1, v.2.2.2.2.2.2.2.2.2.1, v.2.2.2.2.2.2.2.2.2.2.1, v.2.2.2.2.2.2.2.2.2.2.2.1, v.2.2.2.2.2.2.2.2.2.2.2.2.1, v.2.2.2.2.2.2.2.2.2.2.2.2.2.1, v.2.2.2.2.2.2.2.2.2.2.2.2.2.2.1, rc, rv') s' := by
  obtain ⟨W, L, nl, nb, nr, D, a, b, bal, bv, lv, lub, bot, rv, rfl, hG, hP, hw, hQW, hR, hB, hQB, hA, hQA, hU, hT, hQT, hRR⟩ := h
  dsimp only
  obtain ⟨hr1, hr2, hr3⟩ := hRR
  obtain ⟨s', e1, e2, e3, e4, e5, e6, e7⟩ := r_rec hf hr1 hr2 x y
  have hi := c_ins (N := 60) (cap := 20) (m := nr) (at_ := 0) (by omega) (by omega) (by omega) (by omega) (by omega) rv x y (s 2)
  refine ⟨zI ((min nr 19 + 1 : Nat) : Int), upd (upd (upd (va_cpy rv rv (3 * 0) (3 * 0 + 3) (3 * (min nr (20 - 1) - 0))) (3 * 0) x) (3 * 0 + 1) y) (3 * 0 + 2) (s 2), s', ?_, e1, e2, W, L, nl, nb, min nr 19 + 1, D, a, b, bal, bv, lv, lub, bot, upd (upd (upd (va_cpy rv rv (3 * 0) (3 * 0 + 3) (3 * (min nr (20 - 1) - 0))) (3 * 0) x) (3 * 0 + 1) y) (3 * 0 + 2) (s 2), ?_, GR_c (e2 _ (by omega)) (e2 _ (by omega)) hG, PR_c (e2 _ (by omega)) (e2 _ (by omega)) (e2 _ (by omega)) hP, WR_c (e2 _ (by omega)) hw, QW_c (e2 _ (by omega)) hQW, LR_c (fun k _ _ => e2 _ (by omega)) hR, BR_c (fun k _ _ => e2 _ (by omega)) hB, QB_c hB.2.1 (fun k _ _ => e2 _ (by omega)) hQB, AR_c (fun k _ _ => e2 _ (by omega)) hA, QA_c (fun k _ _ => e2 _ (by omega)) hQA, UR_c (fun k _ _ => e2 _ (by omega)) hU, TR_c (fun k _ _ => e2 _ (by omega)) hT, QT_c (fun k _ _ => e2 _ (by omega)) hQT, ?_⟩
  · unfold f_X8_writeRecord
    dsimp only
    rw [hr1]
    rw [show zI ((20 : Nat) : Int) = 20 from rfl, show zI ((0 : Nat) : Int) = 0 from rfl] at hi
    rw [hi, Option.bind_some]
  · rw [e3, e2 0 (by omega), e2 1 (by omega), e2 2 (by omega), e2 3 (by omega), e2 4 (by omega), e2 5 (by omega), e2 6 (by omega), e2 7 (by omega), e2 8 (by omega), e2 33 (by omega)]
  · refine ⟨e3, by omega, ?_⟩
    intro i p hi1 hp
    by_cases ci : i = 0
    · subst ci
      rw [show min nr 19 + 1 - 1 - 0 = min nr 19 by omega]
      rcases (show p = 0 ∨ p = 1 ∨ p = 2 by omega) with rfl | rfl | rfl
      · rw [show 167 + 3 * min nr 19 + 0 = 167 + 3 * min nr 19 from rfl, e4, up_ne (by omega), up_ne (by omega)]
        exact up_eq _ _ _
      · rw [e5, up_ne (by omega)]
        exact up_eq _ _ _
      · rw [e6]
        exact up_eq _ _ _
    · rw [e7 _ (by omega) (by omega), up_ne (by omega), up_ne (by omega), up_ne (by omega)]
      unfold va_cpy
      rw [if_pos (by omega), show 3 * 0 + (3 * i + p - (3 * 0 + 3)) = 3 * (i - 1) + p by omega, hr3 (i - 1) p (by omega) hp]
      congr 1; omega
theorem m_setWeight {v : sv_T} {s past : Nat → Int32} {nx ct ps : Int32} {sv : Nat → sv_T} {fuel : Nat} (hf : 5000 ≤ fuel) (h : SRE v s) (hH : HR nx ct sv ps past) (aside : Nat → Int32) (x : Int32) : TS (fun q : sv_T => (v.1, v.2.1, q.2.2.1, v.2.2.2.1, v.2.2.2.2.1, v.2.2.2.2.2.1, v.2.2.2.2.2.2.1, v.2.2.2.2.2.2.2.1, v.2.2.2.2.2.2.2.2.1, v.2.2.2.2.2.2.2.2.2.1, v.2.2.2.2.2.2.2.2.2.2.1, v.2.2.2.2.2.2.2.2.2.2.2.1, v.2.2.2.2.2.2.2.2.2.2.2.2.1, v.2.2.2.2.2.2.2.2.2.2.2.2.2.1, v.2.2.2.2.2.2.2.2.2.2.2.2.2.2.1, v.2.2.2.2.2.2.2.2.2.2.2.2.2.2.2.1, v.2.2.2.2.2.2.2.2.2.2.2.2.2.2.2.2)) (f_X8_setWeight v nx ct sv x) (f_X9_setWeight fuel ps aside past s x) := by
  have hS := h
  obtain ⟨W, L, nl, nb, nr, D, a, b, bal, bv, lv, lub, bot, rv, rfl, hG, hP, hw, hQW, hR, hB, hQB, hA, hQA, hU, hT, hQT, hRR⟩ := h
  obtain ⟨nx', ct', ps', sv', past', e1, e2, hH'⟩ := push hf hS hH aside
  unfold f_X8_setWeight f_X9_setWeight f_X9_becomes
  rw [fI_in]
  rcases mt_win x 1 9999 (l := 1) (h := 9999) rfl rfl (by omega) (by omega) with ⟨m, rfl, h3, h4, e⟩ | e
  · rw [e, Option.bind_some, if_neg n10, Option.bind_some, if_neg n10, e1, Option.bind_some, r_hold hf, Option.bind_some, if_pos (by decide), if_pos (by decide), e2, Option.bind_some, Option.bind_some]
    refine ⟨_, _, rfl, rfl, rfl, ?_, hH'⟩
    show SRE (s 0, s 1, zI m, s 7, s 6, bal, s 33, bv, s 8, lv, lub, s 2, s 3, s 4, bot, s 166, rv) (upd s 5 (zI m))
    exact ⟨W, L, nl, nb, nr, D, a, b, ⟨bal, bv, lv, lub, bot, rv, rfl, GR_c (up_ne (by omega)) (up_ne (by omega)) hG, PR_c (up_ne (by omega)) (up_ne (by omega)) (up_ne (by omega)) hP, WR_c (up_ne (by omega)) hw, ⟨m, up_eq _ _ _, h4⟩, LR_c (fun k _ _ => up_ne (by omega)) hR, BR_c (fun k _ _ => up_ne (by omega)) hB, QB_c hB.2.1 (fun k _ _ => up_ne (by omega)) hQB, AR_c (fun k _ _ => up_ne (by omega)) hA, QA_c (fun k _ _ => up_ne (by omega)) hQA, UR_c (fun k _ _ => up_ne (by omega)) hU, TR_c (fun k _ _ => up_ne (by omega)) hT, QT_c (fun k _ _ => up_ne (by omega)) hQT, RR_c (fun k _ _ => up_ne (by omega)) hRR⟩⟩
  · rw [e]; exact TS_stay rfl hS hH
theorem m_setStiffness {v : sv_T} {s past : Nat → Int32} {nx ct ps : Int32} {sv : Nat → sv_T} {fuel : Nat} (hf : 5000 ≤ fuel) (h : SRE v s) (hH : HR nx ct sv ps past) (aside : Nat → Int32) (x : Int32) : TS (fun q : sv_T => (v.1, v.2.1, v.2.2.1, q.2.2.2.1, v.2.2.2.2.1, v.2.2.2.2.2.1, v.2.2.2.2.2.2.1, v.2.2.2.2.2.2.2.1, v.2.2.2.2.2.2.2.2.1, v.2.2.2.2.2.2.2.2.2.1, v.2.2.2.2.2.2.2.2.2.2.1, v.2.2.2.2.2.2.2.2.2.2.2.1, v.2.2.2.2.2.2.2.2.2.2.2.2.1, v.2.2.2.2.2.2.2.2.2.2.2.2.2.1, v.2.2.2.2.2.2.2.2.2.2.2.2.2.2.1, v.2.2.2.2.2.2.2.2.2.2.2.2.2.2.2.1, v.2.2.2.2.2.2.2.2.2.2.2.2.2.2.2.2)) (f_X8_setStiffness v nx ct sv x) (f_X9_setStiffness fuel ps aside past s x) := by
  have hS := h
  obtain ⟨W, L, nl, nb, nr, D, a, b, bal, bv, lv, lub, bot, rv, rfl, hG, hP, hw, hQW, hR, hB, hQB, hA, hQA, hU, hT, hQT, hRR⟩ := h
  obtain ⟨nx', ct', ps', sv', past', e1, e2, hH'⟩ := push hf hS hH aside
  unfold f_X8_setStiffness f_X9_setStiffness f_X9_becomes
  rw [fI_in]
  rcases mt_win x 0 9999 (l := 0) (h := 9999) rfl rfl (by omega) (by omega) with ⟨m, rfl, h3, h4, e⟩ | e
  · rw [e, Option.bind_some, if_neg n10, Option.bind_some, if_neg n10, e1, Option.bind_some, r_hold hf, Option.bind_some, if_pos (by decide), if_pos (by decide), e2, Option.bind_some, Option.bind_some]
    refine ⟨_, _, rfl, rfl, rfl, ?_, hH'⟩
    show SRE (s 0, s 1, s 5, zI m, s 6, bal, s 33, bv, s 8, lv, lub, s 2, s 3, s 4, bot, s 166, rv) (upd s 7 (zI m))
    exact ⟨W, L, nl, nb, nr, D, a, b, ⟨bal, bv, lv, lub, bot, rv, rfl, GR_c (up_ne (by omega)) (up_ne (by omega)) hG, PR_c (up_ne (by omega)) (up_ne (by omega)) (up_ne (by omega)) hP, WR_c (up_ne (by omega)) hw, QW_c (up_ne (by omega)) hQW, LR_c (fun k _ _ => up_ne (by omega)) hR, BR_c (fun k _ _ => up_ne (by omega)) hB, QB_c hB.2.1 (fun k _ _ => up_ne (by omega)) hQB, AR_c (fun k _ _ => up_ne (by omega)) hA, QA_c (fun k _ _ => up_ne (by omega)) hQA, UR_c (fun k _ _ => up_ne (by omega)) hU, TR_c (fun k _ _ => up_ne (by omega)) hT, QT_c (fun k _ _ => up_ne (by omega)) hQT, RR_c (fun k _ _ => up_ne (by omega)) hRR⟩⟩
  · rw [e]; exact TS_stay rfl hS hH
theorem m_pump {v : sv_T} {s past : Nat → Int32} {nx ct ps : Int32} {sv : Nat → sv_T} {fuel : Nat} (hf : 5000 ≤ fuel) (h : SRE v s) (hH : HR nx ct sv ps past) (aside : Nat → Int32) (x : Int32) : TS (fun q : sv_T => (v.1, v.2.1, v.2.2.1, v.2.2.2.1, q.2.2.2.2.1, v.2.2.2.2.2.1, v.2.2.2.2.2.2.1, v.2.2.2.2.2.2.2.1, v.2.2.2.2.2.2.2.2.1, v.2.2.2.2.2.2.2.2.2.1, v.2.2.2.2.2.2.2.2.2.2.1, v.2.2.2.2.2.2.2.2.2.2.2.1, v.2.2.2.2.2.2.2.2.2.2.2.2.1, v.2.2.2.2.2.2.2.2.2.2.2.2.2.1, v.2.2.2.2.2.2.2.2.2.2.2.2.2.2.1, q.2.2.2.2.2.2.2.2.2.2.2.2.2.2.2.1, q.2.2.2.2.2.2.2.2.2.2.2.2.2.2.2.2)) (f_X8_pump v nx ct sv x) (f_X9_pump fuel ps aside past s x) := by
  have hS := h
  obtain ⟨W, L, nl, nb, nr, D, a, b, bal, bv, lv, lub, bot, rv, rfl, hG, hP, hw, hQW, hR, hB, hQB, hA, hQA, hU, hT, hQT, hRR⟩ := h
  obtain ⟨nx', ct', ps', sv', past', e1, e2, hH'⟩ := push hf hS hH aside
  unfold f_X8_pump f_X9_pump
  rw [fI_in]
  rcases mt_win x 0 400 (l := 0) (h := 400) rfl rfl (by omega) (by omega) with ⟨m, rfl, h3, h4, e⟩ | e
  · rw [e, Option.bind_some, if_neg n10, Option.bind_some, if_neg n10]
    dsimp only
    by_cases c : s 6 = zI m
    · rw [if_pos c, if_pos c]; exact TS_stay rfl hS hH
    · rw [if_neg c, if_neg c, e1, Option.bind_some, r_hold hf, Option.bind_some]
      have h2 : SRE (s 0, s 1, s 5, s 7, zI m, bal, s 33, bv, s 8, lv, lub, s 2, s 3, s 4, bot, s 166, rv) (upd s 6 (zI m)) := ⟨W, L, nl, nb, nr, D, a, b, ⟨bal, bv, lv, lub, bot, rv, rfl, GR_c (up_ne (by omega)) (up_ne (by omega)) hG, PR_c (up_ne (by omega)) (up_ne (by omega)) (up_ne (by omega)) hP, ⟨m, up_eq _ _ _, h4⟩, QW_c (up_ne (by omega)) hQW, LR_c (fun k _ _ => up_ne (by omega)) hR, BR_c (fun k _ _ => up_ne (by omega)) hB, QB_c hB.2.1 (fun k _ _ => up_ne (by omega)) hQB, AR_c (fun k _ _ => up_ne (by omega)) hA, QA_c (fun k _ _ => up_ne (by omega)) hQA, UR_c (fun k _ _ => up_ne (by omega)) hU, TR_c (fun k _ _ => up_ne (by omega)) hT, QT_c (fun k _ _ => up_ne (by omega)) hQT, RR_c (fun k _ _ => up_ne (by omega)) hRR⟩⟩
      obtain ⟨rc, rv', s', f1, f2, f3, f4⟩ := recs hf h2 5 (zI m)
      rw [f1, f2, Option.bind_some, Option.bind_some, e2, Option.bind_some]
      exact ⟨_, _, rfl, rfl, rfl, f4, hH'⟩
  · rw [e]; exact TS_stay rfl hS hH
theorem m_setBallast {v : sv_T} {s past : Nat → Int32} {nx ct ps : Int32} {sv : Nat → sv_T} {fuel : Nat} (hf : 5000 ≤ fuel) (h : SRE v s) (hH : HR nx ct sv ps past) (aside : Nat → Int32) (x y : Int32) : TS (fun q : sv_T => (v.1, v.2.1, v.2.2.1, v.2.2.2.1, v.2.2.2.2.1, q.2.2.2.2.2.1, v.2.2.2.2.2.2.1, v.2.2.2.2.2.2.2.1, v.2.2.2.2.2.2.2.2.1, v.2.2.2.2.2.2.2.2.2.1, v.2.2.2.2.2.2.2.2.2.2.1, v.2.2.2.2.2.2.2.2.2.2.2.1, v.2.2.2.2.2.2.2.2.2.2.2.2.1, v.2.2.2.2.2.2.2.2.2.2.2.2.2.1, v.2.2.2.2.2.2.2.2.2.2.2.2.2.2.1, q.2.2.2.2.2.2.2.2.2.2.2.2.2.2.2.1, q.2.2.2.2.2.2.2.2.2.2.2.2.2.2.2.2)) (f_X8_setBallast v nx ct sv x y) (f_X9_setBallast fuel ps aside past s x y) := by
  have hS := h
  obtain ⟨W, L, nl, nb, nr, D, a, b, bal, bv, lv, lub, bot, rv, rfl, hG, hP, hw, hQW, hR, hB, hQB, hA, hQA, hU, hT, hQT, hRR⟩ := h
  obtain ⟨nx', ct', ps', sv', past', e1, e2, hH'⟩ := push hf hS hH aside
  obtain ⟨h0, h1, hW, hL⟩ := id hG
  have h49 := mt_WL hW.2 hL.2
  unfold f_X8_setBallast f_X9_setBallast
  rw [fI_in]
  dsimp only
  rcases mt_cell hW hL x with ⟨n, hn, rfl⟩ | hx
  · have ci : f_X5_isCell (s 0) (s 1) (zI n) = some 1 := by rw [h0, h1]; exact c_isCell1 hW hL hn
    rw [ci, r_isCell1 hG hn, Option.bind_some, if_neg n10, Option.bind_some, if_neg n10]
    rcases mt_win y 0 99 (l := 0) (h := 99) rfl rfl (by omega) (by omega) with ⟨m, rfl, h3, h4, e⟩ | e
    · rw [e, Option.bind_some, if_neg n10, Option.bind_some, if_neg n10, show (68 : Int32) = zI ((68 : Nat) : Int) from rfl, mt_p, mt_ba (by omega), Option.bind_some, if_pos (mt_ixn (by omega) (by omega)), mt_cln (by omega)]
      have hAn := hA n (by omega)
      by_cases c : s (68 + n) = zI m
      · rw [if_pos (show bal n = zI m by rw [hAn]; exact c), if_pos c]; exact TS_stay rfl hS hH
      · rw [if_neg (show ¬ bal n = zI m by rw [hAn]; exact c), if_neg c, e1, Option.bind_some, r_hold hf, Option.bind_some, mt_pa (by omega), Option.bind_some, if_pos (mt_ixn (by omega) (by omega))]
        have h2 : SRE (s 0, s 1, s 5, s 7, s 6, upd bal n (zI m), s 33, bv, s 8, lv, lub, s 2, s 3, s 4, bot, s 166, rv) (upd s (68 + n) (zI m)) := by
          refine ⟨W, L, nl, nb, nr, D, a, b, ⟨upd bal n (zI m), bv, lv, lub, bot, rv, ?_, GR_c (up_ne (by omega)) (up_ne (by omega)) hG, PR_c (up_ne (by omega)) (up_ne (by omega)) (up_ne (by omega)) hP, WR_c (up_ne (by omega)) hw, QW_c (up_ne (by omega)) hQW, LR_c (fun k _ _ => up_ne (by omega)) hR, BR_c (fun k _ _ => up_ne (by omega)) hB, QB_c hB.2.1 (fun k _ _ => up_ne (by omega)) hQB, ?_, ?_, UR_c (fun k _ _ => up_ne (by omega)) hU, TR_c (fun k _ _ => up_ne (by omega)) hT, QT_c (fun k _ _ => up_ne (by omega)) hQT, RR_c (fun k _ _ => up_ne (by omega)) hRR⟩⟩
          · rw [up_ne (by omega), up_ne (by omega), up_ne (by omega), up_ne (by omega), up_ne (by omega), up_ne (by omega), up_ne (by omega), up_ne (by omega), up_ne (by omega), up_ne (by omega), up_ne (by omega)]
          · intro k hk
            by_cases ck : k = n
            · subst ck; rw [up_eq, up_eq]
            · rw [up_ne ck, up_ne (by omega)]; exact hA k hk
          · intro k hk
            by_cases ck : k = n
            · subst ck; rw [up_eq]; exact ⟨m, rfl, by omega, fun _ => by omega⟩
            · rw [up_ne (by omega)]; exact hQA k hk
        · obtain ⟨rc, rv', s', f1, f2, f3, f4⟩ := recs hf h2 2 (zI n)
          rw [f1, f2, Option.bind_some, Option.bind_some, e2, Option.bind_some]
          exact ⟨_, _, rfl, rfl, hAn, f4, hH'⟩
    · rw [e]; exact TS_stay rfl hS hH
  · have ci : f_X5_isCell (s 0) (s 1) x = some 0 := by rw [h0, h1]; exact c_isCell0 hx
    rw [ci, r_isCell0 hG hx]; exact TS_stay rfl hS hH
theorem c_lubs {lub : Nat → Int32} {fuel : Nat} (hf : 5000 ≤ fuel) : f_X5_lubricatedSides fuel lub = some (ss lub 0 4) := by
  unfold f_X5_lubricatedSides
  have h := mt_sum (F := f_X5_lubricatedSides_L4 lub) (N := 4) (g := lub) (fun n x => by rw [f_X5_lubricatedSides_L4, if_pos (by decide)]) (fun n i x hi => by
    rw [f_X5_lubricatedSides_L4, if_neg (by rw [show (4 : Int32) = zI ((4 : Nat) : Int) from rfl, mt_len (by omega) (by omega)]; omega), if_pos (mt_ixn hi (by omega)), mt_cln (by omega), mt_s1]) 4 fuel 0 0 (by omega) (by omega)
  rw [show zI ((0 : Nat) : Int) = 0 from rfl] at h
  rw [h, Option.bind_some, Int32.zero_add]
theorem m_lubricate {v : sv_T} {s past : Nat → Int32} {nx ct ps : Int32} {sv : Nat → sv_T} {fuel : Nat} (hf : 5000 ≤ fuel) (h : SRE v s) (hH : HR nx ct sv ps past) (aside : Nat → Int32) (x y : Int32) : TS (fun q : sv_T => (v.1, v.2.1, v.2.2.1, v.2.2.2.1, v.2.2.2.2.1, v.2.2.2.2.2.1, v.2.2.2.2.2.2.1, v.2.2.2.2.2.2.2.1, v.2.2.2.2.2.2.2.2.1, v.2.2.2.2.2.2.2.2.2.1, q.2.2.2.2.2.2.2.2.2.2.1, v.2.2.2.2.2.2.2.2.2.2.2.1, v.2.2.2.2.2.2.2.2.2.2.2.2.1, v.2.2.2.2.2.2.2.2.2.2.2.2.2.1, v.2.2.2.2.2.2.2.2.2.2.2.2.2.2.1, q.2.2.2.2.2.2.2.2.2.2.2.2.2.2.2.1, q.2.2.2.2.2.2.2.2.2.2.2.2.2.2.2.2)) (f_X8_lubricate fuel v nx ct sv x y) (f_X9_lubricate fuel ps aside past s x y) := by
  have hS := h
  obtain ⟨W, L, nl, nb, nr, D, a, b, bal, bv, lv, lub, bot, rv, rfl, hG, hP, hw, hQW, hR, hB, hQB, hA, hQA, hU, hT, hQT, hRR⟩ := h
  obtain ⟨nx', ct', ps', sv', past', e1, e2, hH'⟩ := push hf hS hH aside
  unfold f_X8_lubricate f_X9_lubricate
  rw [fI_in, fI_in]
  dsimp only
  rcases mt_win x 0 3 (l := 0) (h := 3) rfl rfl (by omega) (by omega) with ⟨n, rfl, h1, hn, e⟩ | e
  · rw [e, Option.bind_some, if_neg n10, Option.bind_some, if_neg n10]
    rcases mt_win y 0 1 (l := 0) (h := 1) rfl rfl (by omega) (by omega) with ⟨m, rfl, h3, h4, e⟩ | e
    · rw [e, Option.bind_some, if_neg n10, Option.bind_some, if_neg n10, show (64 : Int32) = zI ((64 : Nat) : Int) from rfl, mt_p, if_pos (mt_ixn (by omega) (by omega)), if_pos (mt_ixn (by omega) (by omega)), mt_cln (by omega), mt_cln (by omega)]
      have hUn := hU n (by omega)
      by_cases c : s (64 + n) = zI m
      · rw [if_pos (show lub n = zI m by rw [hUn]; exact c), if_pos c]; exact TS_stay rfl hS hH
      · rw [if_neg (show ¬ lub n = zI m by rw [hUn]; exact c), if_neg c, e1, Option.bind_some, r_hold hf, Option.bind_some, if_pos (mt_ixn (by omega) (by omega)), if_pos (mt_ixn (by omega) (by omega))]
        have hU2 : UR (upd s (64 + n) (zI m)) (upd lub n (zI m)) := by
          intro k hk
          by_cases ck : k = n
          · subst ck; rw [up_eq, up_eq]
          · rw [up_ne ck, up_ne (by omega)]; exact hU k hk
        have h2 : SRE (s 0, s 1, s 5, s 7, s 6, bal, s 33, bv, s 8, lv, upd lub n (zI m), s 2, s 3, s 4, bot, s 166, rv) (upd s (64 + n) (zI m)) := ⟨W, L, nl, nb, nr, D, a, b, ⟨bal, bv, lv, upd lub n (zI m), bot, rv, by rw [up_ne (by omega), up_ne (by omega), up_ne (by omega), up_ne (by omega), up_ne (by omega), up_ne (by omega), up_ne (by omega), up_ne (by omega), up_ne (by omega), up_ne (by omega), up_ne (by omega)], GR_c (up_ne (by omega)) (up_ne (by omega)) hG, PR_c (up_ne (by omega)) (up_ne (by omega)) (up_ne (by omega)) hP, WR_c (up_ne (by omega)) hw, QW_c (up_ne (by omega)) hQW, LR_c (fun k _ _ => up_ne (by omega)) hR, BR_c (fun k _ _ => up_ne (by omega)) hB, QB_c hB.2.1 (fun k _ _ => up_ne (by omega)) hQB, AR_c (fun k _ _ => up_ne (by omega)) hA, QA_c (fun k _ _ => up_ne (by omega)) hQA, hU2, TR_c (fun k _ _ => up_ne (by omega)) hT, QT_c (fun k _ _ => up_ne (by omega)) hQT, RR_c (fun k _ _ => up_ne (by omega)) hRR⟩⟩
        · obtain ⟨rc, rv', s', f1, f2, f3, f4⟩ := recs hf h2 3 (zI n)
          have key : ss (upd lub n (zI m)) 0 4 = s' 64 + s' 65 + s' 66 + s' 67 := by
            rw [f3 64 (by omega), f3 65 (by omega), f3 66 (by omega), f3 67 (by omega), ← hU2 0 (by omega), ← hU2 1 (by omega), ← hU2 2 (by omega), ← hU2 3 (by omega)]
            simp only [ss]
            grind
          rw [f1, f2, Option.bind_some, Option.bind_some, e2, Option.bind_some, c_lubs hf, Option.bind_some, key]
          exact ⟨_, _, rfl, rfl, rfl, f4, hH'⟩
    · rw [e]; exact TS_stay rfl hS hH
  · rw [e]; exact TS_stay rfl hS hH
theorem c_rest {s past : Nat → Int32} {v0 : sv_T} {nx ct ps : Int32} {sv : Nat → sv_T} {fuel : Nat} (hf : 5000 ≤ fuel) (hH : HR nx ct sv ps past) (hc : ¬ ct = 0) : ∃ (v' : sv_T) (nx' ct' : Int32) (s' : Nat → Int32), f_X3_restore v0 nx ct sv = some (v', nx', ct') ∧ (∃ z, f_X9_undo_L22 (ps - 1) past fuel 0 s = some (z, s')) ∧ SRE v' s' ∧ ct' = ps - 1 ∧ HR nx' ct' sv (ps - 1) past := by
  obtain ⟨n, m, rfl, hn, rfl, rfl, hm, hall⟩ := hH
  have hm0 : 1 ≤ m := by
    rcases Nat.eq_zero_or_pos m with h | h
    · exact absurd (by rw [h]; rfl) hc
    · exact h
  have hs := hall 0 (by omega)
  obtain ⟨W, L, nl, nb, nr, D, a, b, hsr⟩ := hs
  have hsr0 := hsr
  obtain ⟨v', e, h'⟩ := c_copy hsr v0.2.2.2.2.2.1 v0.2.2.2.2.2.2.2.1 v0.2.2.2.2.2.2.2.2.2.1 v0.2.2.2.2.2.2.2.2.2.2.1 v0.2.2.2.2.2.2.2.2.2.2.2.2.2.2.1 v0.2.2.2.2.2.2.2.2.2.2.2.2.2.2.2.2
  rw [Nat.sub_zero] at e
  have e1 : f_X3_restore v0 (zI n) (zI m) sv = some (v', zI (((n + 5) % 6 : Nat) : Int), zI m - 1) := by
    unfold f_X3_restore
    rw [if_neg (show ¬ zI (m : Int) ≤ 0 by rw [show (0 : Int32) = zI ((0 : Nat) : Int) from rfl, mt_len (by omega) (by omega)]; omega), mt_fmp hn, Option.bind_some]
    rcases (show n = 0 ∨ n = 1 ∨ n = 2 ∨ n = 3 ∨ n = 4 ∨ n = 5 by omega) with rfl | rfl | rfl | rfl | rfl | rfl
    · rw [if_neg (by decide), if_neg (by decide), if_neg (by decide), if_neg (by decide), if_neg (by decide), if_pos (by decide)]
      erw [e]
      rfl
    · rw [if_pos (by decide)]
      erw [e]
      rfl
    · rw [if_neg (by decide), if_pos (by decide)]
      erw [e]
      rfl
    · rw [if_neg (by decide), if_neg (by decide), if_pos (by decide)]
      erw [e]
      rfl
    · rw [if_neg (by decide), if_neg (by decide), if_neg (by decide), if_pos (by decide)]
      erw [e]
      rfl
    · rw [if_neg (by decide), if_neg (by decide), if_neg (by decide), if_neg (by decide), if_pos (by decide)]
      erw [e]
      rfl
  rw [mt_m1 hm0] at e1 ⊢
  have hfl := mt_fillo (F := f_X9_undo_L22 (zI ((m - 1 : Nat) : Int)) past) (N := 227) (o := 0) (g := fun i => past (227 * (m - 1) + i)) (fun n a => by rw [f_X9_undo_L22, if_pos (by decide)]) (fun n i a hi => by
    rw [f_X9_undo_L22, if_neg (by rw [show (227 : Int32) = zI ((227 : Nat) : Int) from rfl, mt_len (by omega) (by omega)]; omega), mt_227, if_pos (mt_ixn (by omega) (by omega)), if_pos (mt_ixn hi (by omega)), mt_cln (by omega), mt_cln (by omega), mt_s1, Nat.zero_add]) 227 fuel 0 s (by omega) (by omega)
  rw [show zI ((0 : Nat) : Int) = 0 from rfl] at hfl
  refine ⟨v', _, _, _, e1, ⟨_, hfl⟩, ?_, rfl, ?_⟩
  · refine SRE_c ?_ ⟨W, L, nl, nb, nr, D, a, b, h'⟩
    intro k hk
    rw [if_pos (by omega), Nat.sub_zero, Nat.sub_zero]
  · refine ⟨(n + 5) % 6, m - 1, rfl, by omega, rfl, rfl, by omega, ?_⟩
    intro i hi
    have hh := hall (i + 1) (by omega)
    rw [show ((n + 5) % 6 + 5 - i) % 6 = (n + 5 - (i + 1)) % 6 by omega, show m - 1 - 1 - i = m - 1 - (i + 1) by omega]
    exact hh
theorem m_undo {v : sv_T} {s past : Nat → Int32} {nx ct ps : Int32} {sv : Nat → sv_T} {fuel : Nat} (hf : 5000 ≤ fuel) (h : SRE v s) (hH : HR nx ct sv ps past) : ∃ q1 q2, f_X8_undo v nx ct sv = some q1 ∧ f_X9_undo fuel ps past s = some q2 ∧ q1.1 = q2.1 ∧ SRE q1.2.1 q2.2.2 ∧ HR q1.2.2.1 q1.2.2.2 sv q2.2.1 past := by
  unfold f_X8_undo f_X9_undo
  have hcp : ct = ps := by
    obtain ⟨n, m, _, _, h1, h2, _⟩ := hH
    rw [h1, h2]
  by_cases c : ct = 0
  · rw [if_pos c, if_pos (hcp ▸ c)]
    exact ⟨_, _, rfl, rfl, rfl, h, hH⟩
  · rw [if_neg c, if_neg (hcp ▸ c)]
    obtain ⟨v', nx', ct', s', e1, ⟨z, e2⟩, e3, e4, e5⟩ := c_rest (s := s) (v0 := v) hf hH c
    rw [e1, e2, Option.bind_some, Option.bind_some]
    exact ⟨_, _, rfl, rfl, e4, e3, e5⟩
theorem t_undo : MT_undo Cpl := by
  intro fuel hf c r h
  obtain ⟨q1, q2, e1, e2, e3, e4, e5⟩ := m_undo hf h.1 h.2.1
  exact ⟨q1, q2, e1, e2, e3, e4, e5, h.2.2.1, h.2.2.2⟩
theorem t_setWeight : MT_setWeight Cpl := by
  intro fuel hf c r x1 h
  obtain ⟨q1, q2, e1, e2, e3, e4, e5⟩ := m_setWeight hf h.1 h.2.1 _ x1
  exact ⟨q1, q2, e1, e2, e3, e4, e5, h.2.2.1, h.2.2.2⟩
theorem t_setStiffness : MT_setStiffness Cpl := by
  intro fuel hf c r x1 h
  obtain ⟨q1, q2, e1, e2, e3, e4, e5⟩ := m_setStiffness hf h.1 h.2.1 _ x1
  exact ⟨q1, q2, e1, e2, e3, e4, e5, h.2.2.1, h.2.2.2⟩
theorem t_pump : MT_pump Cpl := by
  intro fuel hf c r x1 h
  obtain ⟨q1, q2, e1, e2, e3, e4, e5⟩ := m_pump hf h.1 h.2.1 _ x1
  exact ⟨q1, q2, e1, e2, e3, e4, e5, h.2.2.1, h.2.2.2⟩
theorem t_setBallast : MT_setBallast Cpl := by
  intro fuel hf c r x1 x2 h
  obtain ⟨q1, q2, e1, e2, e3, e4, e5⟩ := m_setBallast hf h.1 h.2.1 _ x1 x2
  exact ⟨q1, q2, e1, e2, e3, e4, e5, h.2.2.1, h.2.2.2⟩
theorem t_lubricate : MT_lubricate Cpl := by
  intro fuel hf c r x1 x2 h
  obtain ⟨q1, q2, e1, e2, e3, e4, e5⟩ := m_lubricate hf h.1 h.2.1 _ x1 x2
  exact ⟨q1, q2, e1, e2, e3, e4, e5, h.2.2.1, h.2.2.2⟩
