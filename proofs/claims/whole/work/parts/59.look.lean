/-! the coupling of the two states; calls that only look -/
def XR (ln : Int32) (ch : Nat → Int32) (ty : Int32) (tx : Nat → Int32) : Prop := ∃ n : Nat, ln = zI n ∧ ty = zI n ∧ n ≤ 200 ∧ ∀ i, i < n → ch i = tx i ∧ ∃ z : Nat, tx i = zI z ∧ z ≤ 255
def NR (pa wc : Int32) (wv : Nat → Int32) (pl pm : Int32) (pv : Nat → Int32) : Prop := pa = pm ∧ (∃ am : Nat, pa = zI am ∧ am ≤ 10) ∧ ∃ n : Nat, wc = zI n ∧ pl = zI n ∧ n ≤ 12 ∧ (∀ k, k < 3 * n → wv k = pv k) ∧ ∀ i, i < n → ∃ w : Nat, pv (3 * i) = zI w ∧ w < 49
def Cpl (c : cs_T) (r : rs_T) : Prop := SRE c.2.2.2.2.2.2.2.2.2.2.2.1 r.2.2.2.2.2.2.2.2.2.2.2.2.1 ∧ HR c.2.2.2.2.2.2.2.2.2.2.2.2.2.2.2.2.1 c.2.2.2.2.2.2.2.2.2.2.2.2.2.2.2.2.2.1 c.2.2.2.2.2.2.2.2.2.2.2.2.2.2.2.2.2.2.1 r.1 r.2.2.2.2.2.2.2.2.2.2.1 ∧ XR c.2.2.2.2.2.2.2.2.2.2.2.2.2.2.2.2.2.2.2.2.2.2.2.1 c.2.2.2.2.2.2.2.2.2.2.2.2.2.2.2.2.2.2.2.2.2.2.2.2.2.2.2.2.1 r.2.1 r.2.2.2.2.2.2.2.2.2.2.2.2.2.1 ∧ NR c.1 c.2.2.2.2.2.2.2.2.2.2.2.2.2.2.2.2.2.2.2.2.2.2.2.2.2.2.2.2.2.2.1 c.2.2.2.2.2.2.2.2.2.2.2.2.2.2.2.2.2.2.2.2.2.2.2.2.2.2.2.2.2.2.2 r.2.2.2.2.2.2.1 r.2.2.2.2.2.2.2.1 r.2.2.2.2.2.2.2.2.2.2.2.1
theorem n10 : ¬ (1 : Int32) = 0 := by decide
theorem mt_win (x lo hi : Int32) {l h : Nat} (el : lo = zI l) (eh : hi = zI h) (hl : l < 2147483648) (hh : h < 2147483648) : (∃ n : Nat, x = zI n ∧ l ≤ n ∧ n ≤ h ∧ f_X8_isWithin x lo hi = some 1) ∨ f_X8_isWithin x lo hi = some 0 := by
  subst el eh
  rw [fI_w]
  by_cases c : zI l ≤ x ∧ x ≤ zI h
  · left
    have hr := fb_rng' x
    have c' := c
    rw [Int32.le_iff_toInt_le, Int32.le_iff_toInt_le, zI_int (by omega), zI_int (by omega)] at c'
    refine ⟨x.toInt.toNat, ?_, by omega, by omega, by rw [if_pos c]⟩
    rw [Int.toNat_of_nonneg (by omega)]
    exact zI_of x
  · right
    rw [if_neg c]
theorem mt_sum {F : Nat → Int32 → Int32 → Option (Int32 × Int32)} {N : Nat} {g : Nat → Int32} (hE : ∀ n x, F (n + 1) x (zI N) = some (x, zI N)) (hS : ∀ (n i : Nat) x, i < N → F (n + 1) x (zI i) = F n (x + g i) (zI ((i + 1 : Nat) : Int))) : ∀ (r n i : Nat) (x : Int32), i + r = N → r < n → F n x (zI i) = some (x + ss g i r, zI N) := by
  intro r
  induction r with
  | zero =>
    intro n i x h1 h2
    obtain ⟨n, rfl⟩ : ∃ k, n = k + 1 := ⟨n - 1, by omega⟩
    have : i = N := by omega
    subst this
    rw [hE]
    simp only [ss, Int32.add_zero]
  | succ r ih =>
    intro n i x h1 h2
    obtain ⟨n, rfl⟩ : ∃ k, n = k + 1 := ⟨n - 1, by omega⟩
    rw [hS n i x (by omega), ih n (i + 1) _ (by omega) (by omega)]
    simp only [ss, mt_r2]
theorem c_bal {bal : Nat → Int32} {fuel : Nat} (hf : 5000 ≤ fuel) : f_X5_totalBallast fuel bal = some (ss bal 0 49) := by
  unfold f_X5_totalBallast
  have h := mt_sum (F := f_X5_totalBallast_L4 bal) (N := 49) (g := bal) (fun n x => by rw [f_X5_totalBallast_L4, if_pos (by decide)]) (fun n i x hi => by
    rw [f_X5_totalBallast_L4, if_neg (by rw [show (49 : Int32) = zI ((49 : Nat) : Int) from rfl, mt_len (by omega) (by omega)]; omega), if_pos (mt_ixn hi (by omega)), mt_cln (by omega), mt_s1]) 49 fuel 0 0 (by omega) (by omega)
  rw [show zI ((0 : Nat) : Int) = 0 from rfl] at h
  rw [h, Option.bind_some, Int32.zero_add]
theorem ss_zero {f : Nat → Int32} : ∀ (r i : Nat), (∀ k, i ≤ k → k < i + r → f k = 0) → ss f i r = 0 := by
  intro r
  induction r with
  | zero => intro i _; rfl
  | succ r ih =>
    intro i h
    simp only [ss]
    rw [h i (by omega) (by omega), ih (i + 1) (fun k h1 h2 => h k (by omega) (by omega))]
    rfl
theorem ss_nat {f : Nat → Int32} {m : Nat} : ∀ (r i : Nat), (∀ k, i ≤ k → k < i + r → ∃ q : Nat, f k = zI q ∧ q ≤ m) → ∃ B : Nat, ss f i r = zI B ∧ B ≤ m * r := by
  intro r
  induction r with
  | zero => intro i _; exact ⟨0, rfl, by omega⟩
  | succ r ih =>
    intro i h
    obtain ⟨q, h1, h2⟩ := h i (by omega) (by omega)
    obtain ⟨B, h3, h4⟩ := ih (i + 1) (fun k h1 h2 => h k (by omega) (by omega))
    refine ⟨q + B, ?_, ?_⟩
    · simp only [ss]
      rw [h1, h3, mt_p]
    · rw [Nat.mul_succ]; omega
theorem bal_eq {s bal : Nat → Int32} {W L : Nat} (hG : GR s W L) (hA : AR s bal) (hQA : QA s W L) : ss bal 0 49 = ss (fun k => s (68 + k)) 0 (L * W) := by
  obtain ⟨h0, h1, hW, hL⟩ := id hG
  have h49 := mt_WL hL.2 hW.2
  have e1 : ss bal 0 49 = ss (fun k => s (68 + k)) 0 49 := ss_congr 49 0 (fun k _ hk => hA k (by omega))
  have e2 := ss_add (fun k => s (68 + k)) (L * W) 0 (49 - L * W)
  rw [show L * W + (49 - L * W) = 49 by omega] at e2
  rw [e1, e2, ss_zero (49 - L * W) (0 + L * W), Int32.add_zero]
  intro k hk1 hk2
  obtain ⟨q, h3, _, h4⟩ := hQA k (by omega)
  show s (68 + k) = 0
  rw [h3, h4 (by rw [Nat.mul_comm]; omega)]
  rfl
theorem c_exam {s lv bv bot lub bal : Nat → Int32} {W L nl nb D fuel : Nat} {a b : Int} (hf : 5000 ≤ fuel) (hG : GR s W L) (hR : LR s nl lv) (hB : BR s nb bv) (hT : TR s bot) (hU : UR s lub) (hA : AR s bal) (hw : WR s) (hP : PR s D a b) (n1 n2 : Int32) : ∃ m1 m2 : Int32, f_X1_examine fuel (s 2) (s 3) (s 4) bot n1 n2 (s 0) (s 1) (s 5) (s 7) (s 6) bal (s 33) bv (s 8) lv lub = some (nxt s W L nl nb D a b, exc s W L nl nb D a b, mox s W L nl nb D a b, moy s W L nl nb D a b, m1, m2) ∧ (nxt s W L nl nb D a b ≠ 0 → m1 = s 3 + trn s (mox s W L nl nb D a b) ∧ m2 = s 4 + trn s (moy s W L nl nb D a b)) := by
  have h := c_examine hf hG.2.2.1 hG.2.2.2 hR hB hT hU hA hw hP n1 n2
  rw [← hG.1, ← hG.2.1, ← hP.1, ← hP.2.2.1, ← hP.2.2.2.2.1, ← hB.1, ← hR.1] at h
  exact h
theorem m_surplus {v : sv_T} {s : Nat → Int32} {fuel : Nat} (hf : 5000 ≤ fuel) (h : SRE v s) (n1 n2 : Int32) : ∃ q1, f_X8_surplus fuel n1 n2 v = some q1 ∧ f_X9_surplus fuel s = some q1.1 := by
  obtain ⟨W, L, nl, nb, nr, D, a, b, bal, bv, lv, lub, bot, rv, rfl, hG, hP, hw, hQW, hR, hB, hQB, hA, hQA, hU, hT, hQT, hRR⟩ := h
  obtain ⟨m1, m2, e, _⟩ := c_exam hf hG hR hB hT hU hA hw hP n1 n2
  unfold f_X8_surplus f_X9_surplus
  rw [r_over hf hG hR hB hP, Option.bind_some, e, Option.bind_some]
  exact ⟨_, rfl, rfl⟩
theorem m_nextStep {v : sv_T} {s : Nat → Int32} {fuel : Nat} (hf : 5000 ≤ fuel) (h : SRE v s) (n1 n2 : Int32) : ∃ q1, f_X8_nextStep fuel n1 n2 v = some q1 ∧ f_X9_nextStep fuel s = some q1.1 := by
  obtain ⟨W, L, nl, nb, nr, D, a, b, bal, bv, lv, lub, bot, rv, rfl, hG, hP, hw, hQW, hR, hB, hQB, hA, hQA, hU, hT, hQT, hRR⟩ := h
  obtain ⟨m1, m2, e, _⟩ := c_exam hf hG hR hB hT hU hA hw hP n1 n2
  unfold f_X8_nextStep f_X9_nextStep
  rw [r_next hf hG hR hB hP, Option.bind_some, e, Option.bind_some]
  exact ⟨_, rfl, rfl⟩
theorem m_ballastNeeded {v : sv_T} {s : Nat → Int32} {fuel : Nat} (hf : 5000 ≤ fuel) (h : SRE v s) (n1 n2 : Int32) : ∃ q1, f_X8_ballastNeeded fuel n1 n2 v = some q1 ∧ f_X9_ballastNeeded fuel s = some q1.1 := by
  obtain ⟨W, L, nl, nb, nr, D, a, b, bal, bv, lv, lub, bot, rv, rfl, hG, hP, hw, hQW, hR, hB, hQB, hA, hQA, hU, hT, hQT, hRR⟩ := h
  obtain ⟨m1, m2, e, _⟩ := c_exam hf hG hR hB hT hU hA hw hP n1 n2
  unfold f_X8_ballastNeeded f_X9_ballastNeeded
  rw [r_over hf hG hR hB hP, Option.bind_some, e, Option.bind_some]
  by_cases h : exc s W L nl nb D a b ≤ 0
  · rw [if_pos h, if_pos h]; exact ⟨_, rfl, rfl⟩
  · rw [if_neg h, if_neg h]; exact ⟨_, rfl, rfl⟩
theorem m_moment {v : sv_T} {s : Nat → Int32} {fuel : Nat} (hf : 5000 ≤ fuel) (h : SRE v s) (x0 x1 x2 n1 n2 y : Int32) : ∃ q1, f_X8_moment fuel x0 x1 x2 n1 n2 v y = some q1 ∧ f_X9_moment fuel s y = some q1.1 := by
  obtain ⟨W, L, nl, nb, nr, D, a, b, bal, bv, lv, lub, bot, rv, rfl, hG, hP, hw, hQW, hR, hB, hQB, hA, hQA, hU, hT, hQT, hRR⟩ := h
  obtain ⟨m1, m2, e, _⟩ := c_exam hf hG hR hB hT hU hA hw hP n1 n2
  unfold f_X8_moment f_X9_moment
  rw [fI_in]
  rcases mt_win y 0 1 (l := 0) (h := 1) rfl rfl (by omega) (by omega) with ⟨n, hn, h1, h2, e1⟩ | e1
  · rw [e1, Option.bind_some, if_neg n10, Option.bind_some, if_neg n10, e, Option.bind_some]
    rcases (show n = 0 ∨ n = 1 by omega) with rfl | rfl
    · subst hn
      rw [if_pos (by decide), show zI ((0 : Nat) : Int) = 0 from rfl, r_mom0 hf hG hR hB hP]
      exact ⟨_, rfl, rfl⟩
    · subst hn
      rw [if_neg (by decide), show zI ((1 : Nat) : Int) = 1 from rfl, r_mom1 hf hG hR hB hP]
      exact ⟨_, rfl, rfl⟩
  · rw [e1]; exact ⟨_, rfl, rfl⟩
theorem m_ground {v : sv_T} {s : Nat → Int32} {fuel : Nat} (hf : 5000 ≤ fuel) (h : SRE v s) (x y : Int32) : ∃ q1, f_X8_ground fuel v x y = some q1 ∧ f_X9_ground fuel s x y = some q1 := by
  obtain ⟨W, L, nl, nb, nr, D, a, b, bal, bv, lv, lub, bot, rv, rfl, hG, hP, hw, hQW, hR, hB, hQB, hA, hQA, hU, hT, hQT, hRR⟩ := h
  unfold f_X8_ground f_X9_ground
  rw [fI_in, fI_in]
  dsimp only
  rcases mt_win x 0 999 (l := 0) (h := 999) rfl rfl (by omega) (by omega) with ⟨n, hn, h1, h2, e1⟩ | e1
  · rw [e1, Option.bind_some, if_neg n10, Option.bind_some, if_neg n10]
    rcases mt_win y 0 1 (l := 0) (h := 1) rfl rfl (by omega) (by omega) with ⟨m, hm, h3, h4, e2⟩ | e2
    · rw [e2, Option.bind_some, if_neg n10, Option.bind_some, if_neg n10, hm, r_grd hf hR _ (by omega), Option.bind_some, hR.1]
      rcases (show m = 0 ∨ m = 1 by omega) with rfl | rfl
      · rw [if_pos (by decide), c_str hf hR]; exact ⟨_, rfl, rfl⟩
      · rw [if_neg (by decide), c_fri hf hR]; exact ⟨_, rfl, rfl⟩
    · rw [e2]; exact ⟨_, rfl, rfl⟩
  · rw [e1]; exact ⟨_, rfl, rfl⟩
theorem m_bottom {v : sv_T} {s : Nat → Int32} (h : SRE v s) (x : Int32) : ∃ q1, f_X8_bottom v x = some q1 ∧ f_X9_bottom s x = some q1 := by
  obtain ⟨W, L, nl, nb, nr, D, a, b, bal, bv, lv, lub, bot, rv, rfl, hG, hP, hw, hQW, hR, hB, hQB, hA, hQA, hU, hT, hQT, hRR⟩ := h
  unfold f_X8_bottom f_X9_bottom
  obtain ⟨h0, h1, hW, hL⟩ := id hG
  have h49 := mt_WL hW.2 hL.2
  dsimp only
  rw [h0, h1]
  rcases mt_cell hW hL x with ⟨n, hn, rfl⟩ | hx
  · rw [c_isWell hW hL hn, r_isWell hG hn, Option.bind_some, Option.bind_some, mt_bo (by omega), Option.bind_some, show (117 : Int32) = zI ((117 : Nat) : Int) from rfl, mt_p, if_pos (mt_ixn (by omega) (by omega)), mt_cln (by omega), hT _ (by omega)]
    by_cases c : edg W L (n % W) (n / W)
    · rw [if_pos c]; exact ⟨_, rfl, rfl⟩
    · rw [if_neg c]; exact ⟨_, rfl, rfl⟩
  · rw [c_isWell0 hx, r_isWell0 hG hx]; exact ⟨_, rfl, rfl⟩
theorem m_edge {v : sv_T} {s : Nat → Int32} {fuel : Nat} (hf : 5000 ≤ fuel) (h : SRE v s) (x y : Int32) : ∃ q1, f_X8_edge fuel v x y = some q1 ∧ f_X9_edge fuel s x y = some q1 := by
  obtain ⟨W, L, nl, nb, nr, D, a, b, bal, bv, lv, lub, bot, rv, rfl, hG, hP, hw, hQW, hR, hB, hQB, hA, hQA, hU, hT, hQT, hRR⟩ := h
  unfold f_X8_edge f_X9_edge
  obtain ⟨h0, h1, hW, hL⟩ := id hG
  obtain ⟨p2, hD, p3, ha, p4, hb⟩ := id hP
  have h49 := mt_WL hW.2 hL.2
  dsimp only
  rw [h0, h1, fI_in]
  rcases mt_cell hW hL x with ⟨n, hn, rfl⟩ | hx
  · have hm := mt_mod hn (by omega)
    have he := mt_edp hW hL hm.1 hm.2.1 ha hb hD
    rw [c_isEdge hW hL hn, r_isEdge hG hn, Option.bind_some, Option.bind_some, c_col hW hL hn, Option.bind_some, c_row hW hL hn, Option.bind_some, p2, p3, p4, c_edp hW hL hm.1 hm.2.1 ha hb hD, Option.bind_some]
    by_cases c : edg W L (n % W) (n / W)
    · rw [if_pos c, if_neg n10, if_neg n10, r_edp hG hP hn, Option.bind_some, hB.1, hR.1, c_sup hf hW hL hR hB hT hm.1 hm.2.1, r_sup hf hG hR hB hP hn, c_skin hf hU hW hL hR hm.1 hm.2.1 _ (by omega), r_skin hf hG hR hn _ (by omega), c_buo hw _ (by omega), r_buo, c_wbs hW hL hm.1 hm.2.1, r_wbs hG hn]
      simp only [Option.bind_some]
      rcases mt_win y 0 4 (l := 0) (h := 4) rfl rfl (by omega) (by omega) with ⟨m, hm', h3, h4, e2⟩ | e2
      · rw [e2, Option.bind_some, if_neg n10]
        subst hm'
        rcases (show m = 0 ∨ m = 1 ∨ m = 2 ∨ m = 3 ∨ m = 4 by omega) with rfl | rfl | rfl | rfl | rfl
        · exact ⟨_, rfl, rfl⟩
        · exact ⟨_, rfl, rfl⟩
        · exact ⟨_, rfl, rfl⟩
        · exact ⟨_, rfl, rfl⟩
        · exact ⟨_, rfl, rfl⟩
      · rw [e2, Option.bind_some, if_pos rfl]
        have k0 : ∀ j : Nat, j ≤ 4 → ¬ y = zI j := by
          intro j hj hy
          rw [hy, fI_w, if_pos] at e2
          · exact absurd (Option.some.inj e2) (by decide)
          · rw [show (0 : Int32) = zI ((0 : Nat) : Int) from rfl, show (4 : Int32) = zI ((4 : Nat) : Int) from rfl, mt_len (by omega) (by omega), mt_len (by omega) (by omega)]
            omega
        rw [if_neg (show ¬ y = 0 from k0 0 (by omega)), if_neg (show ¬ y = 1 from k0 1 (by omega)), if_neg (show ¬ y = 2 from k0 2 (by omega)), if_neg (show ¬ y = 3 from k0 3 (by omega)), if_neg (show ¬ y = 4 from k0 4 (by omega))]
        exact ⟨_, rfl, rfl⟩
    · rw [if_neg c]; exact ⟨_, rfl, rfl⟩
  · rw [c_isEdge0 hx, r_isEdge0 hG hx]; exact ⟨_, rfl, rfl⟩
theorem m_state {v : sv_T} {s : Nat → Int32} {fuel : Nat} (hf : 5000 ≤ fuel) (h : SRE v s) (x : Int32) : ∃ q1, f_X8_state fuel v x = some q1 ∧ f_X9_state fuel s x = some q1 := by
  obtain ⟨W, L, nl, nb, nr, D, a, b, bal, bv, lv, lub, bot, rv, rfl, hG, hP, hw, hQW, hR, hB, hQB, hA, hQA, hU, hT, hQT, hRR⟩ := h
  obtain ⟨h0, h1, hW, hL⟩ := id hG
  have h49 := mt_WL hL.2 hW.2
  obtain ⟨w, hw1, hw2⟩ := hQW
  obtain ⟨B, hB1, hB2⟩ := ss_nat (f := fun k => s (68 + k)) (m := 99) (L * W) 0 (fun k _ hk => by obtain ⟨q, a1, a2, _⟩ := hQA k (by omega); exact ⟨q, a1, a2⟩)
  have key : lod s W L / 4 - s 5 = ss bal 0 49 := by
    rw [bal_eq hG hA hQA, hB1]
    unfold lod
    rw [hw1, hB1, mt_p, show (4 : Int32) = zI 4 from rfl, zI_mul, zI_div (by omega) (by omega), zI_sub]
    congr 1
    omega
  unfold f_X8_state f_X9_state
  rw [c_bal hf, r_load hf hG, Option.bind_some, Option.bind_some, key]
  simp only [mt_sif]
  exact ⟨_, rfl, rfl⟩
theorem mt_idx (x : Int32) {n : Nat} (hn : n < 2147483648) : (∃ i : Nat, x = zI i ∧ i < n) ∨ (x < 0 ∨ zI n ≤ x) := by
  have hr := fb_rng' x
  by_cases h1 : x < 0
  · exact Or.inr (Or.inl h1)
  · by_cases h2 : zI n ≤ x
    · exact Or.inr (Or.inr h2)
    · refine Or.inl ⟨x.toInt.toNat, ?_, ?_⟩
      · rw [Int32.lt_iff_toInt_lt] at h1
        have e0 : (0 : Int32).toInt = 0 := rfl
        rw [e0] at h1
        rw [Int.toNat_of_nonneg (by omega)]
        exact zI_of x
      · rw [Int32.le_iff_toInt_le, zI_int (by omega)] at h2
        rw [Int32.lt_iff_toInt_lt] at h1
        have e0 : (0 : Int32).toInt = 0 := rfl
        rw [e0] at h1
        omega
theorem mt_ge0 {i : Nat} (h : i < 2147483648) : ¬ zI i < 0 := by
  rw [show (0 : Int32) = zI 0 from rfl, zI_lt (by omega) (by omega)]; omega
theorem c_has1 {n i : Nat} (h : i < n) (hn : n < 2147483648) : f_X7_has (zI n) (zI i) = some 1 := by
  unfold f_X7_has
  rw [if_neg (mt_ge0 (by omega)), if_neg (by rw [mt_len (by omega) (by omega)]; omega)]
theorem c_has0 {n : Nat} {x : Int32} (h : x < 0 ∨ zI n ≤ x) : f_X7_has (zI n) x = some 0 := by
  unfold f_X7_has
  by_cases d : x < 0
  · rw [if_pos d]
  · rw [if_neg d, if_pos (h.resolve_left d)]
theorem mt_m1 {n : Nat} (h : 1 ≤ n) : zI n - 1 = zI ((n - 1 : Nat) : Int) := by
  rw [show (1 : Int32) = zI 1 from rfl, zI_sub]; congr 1; omega
theorem mt_in1 {n i : Nat} (h : i < n) (hn : n < 2147483648) : f_X8_isWithin (zI i) 0 (zI n - 1) = some 1 := by
  rw [fI_w, mt_m1 (by omega), if_pos]
  rw [show (0 : Int32) = zI ((0 : Nat) : Int) from rfl, mt_len (by omega) (by omega), mt_len (by omega) (by omega)]
  omega
theorem mt_in0 {n : Nat} {x : Int32} (hn : n < 2147483648) (h : x < 0 ∨ zI n ≤ x) : f_X8_isWithin x 0 (zI n - 1) = some 0 := by
  have hr := fb_rng' x
  rw [fI_w, if_neg]
  intro hh
  rw [show (0 : Int32) = zI 0 from rfl, show (1 : Int32) = zI 1 from rfl, zI_sub, Int32.le_iff_toInt_le, Int32.le_iff_toInt_le, zI_int (by omega), zI_int (by omega)] at hh
  rw [show (0 : Int32) = zI 0 from rfl, Int32.le_iff_toInt_le, Int32.lt_iff_toInt_lt, zI_int (by omega), zI_int (by omega)] at h
  omega
theorem m_boulder {v : sv_T} {s : Nat → Int32} (h : SRE v s) (x y : Int32) : ∃ q1, f_X8_boulder v x y = some q1 ∧ f_X9_boulder s x y = some q1 := by
  obtain ⟨W, L, nl, nb, nr, D, a, b, bal, bv, lv, lub, bot, rv, rfl, hG, hP, hw, hQW, hR, hB, hQB, hA, hQA, hU, hT, hQT, hRR⟩ := h
  unfold f_X8_boulder f_X9_boulder
  dsimp only
  have hn := hB.2.1
  rw [fI_in, fI_in, hB.1]
  rcases mt_idx x (n := nb) (by omega) with ⟨i, rfl, hi⟩ | c
  · rw [c_has1 hi (by omega), mt_in1 hi (by omega), Option.bind_some, if_neg n10, Option.bind_some, if_neg n10]
    rcases mt_win y 0 2 (l := 0) (h := 2) rfl rfl (by omega) (by omega) with ⟨m, rfl, h3, h4, e2⟩ | e2
    · rw [e2, Option.bind_some, if_neg n10, Option.bind_some, if_neg n10, c_get hi (by omega) (by omega) (by omega), Option.bind_some, mt_343, mt_p, if_pos (mt_ixn (by omega) (by omega)), mt_cln (by omega), hB.2.2 _ (by omega)]
      exact ⟨_, rfl, by rw [show 34 + 3 * i + m = 34 + (3 * i + m) by omega]⟩
    · rw [e2]; exact ⟨_, rfl, rfl⟩
  · rw [c_has0 c, mt_in0 (by omega) c]; exact ⟨_, rfl, rfl⟩
theorem m_record {v : sv_T} {s : Nat → Int32} (h : SRE v s) (x y : Int32) : ∃ q1, f_X8_record v x y = some q1 ∧ f_X9_record s x y = some q1 := by
  obtain ⟨W, L, nl, nb, nr, D, a, b, bal, bv, lv, lub, bot, rv, rfl, hG, hP, hw, hQW, hR, hB, hQB, hA, hQA, hU, hT, hQT, hRR⟩ := h
  unfold f_X8_record f_X9_record f_X8_partOf
  dsimp only
  obtain ⟨hr1, hn, hr3⟩ := hRR
  rw [fI_in, hr1]
  by_cases c0 : x < 0
  · rw [if_pos c0, if_pos c0]; exact ⟨_, rfl, rfl⟩
  · rw [if_neg c0, if_neg c0]
    rcases mt_win y 0 2 (l := 0) (h := 2) rfl rfl (by omega) (by omega) with ⟨m, rfl, h3, h4, e2⟩ | e2
    · rw [e2, Option.bind_some, if_neg n10, Option.bind_some, if_neg n10]
      rcases mt_idx x (n := nr) (by omega) with ⟨i, rfl, hi⟩ | c
      · rw [c_has1 hi (by omega), Option.bind_some, if_neg n10, if_neg (by rw [mt_len (by omega) (by omega)]; omega), c_get hi (by omega) (by omega) (by omega), mt_m1 (by omega), zI_sub, show ((nr - 1 : Nat) : Int) - (i : Int) = ((nr - 1 - i : Nat) : Int) by omega, show (3 : Int32) = zI ((3 : Nat) : Int) from rfl, show (167 : Int32) = zI ((167 : Nat) : Int) from rfl, zI_mul, ← Int.natCast_mul, mt_p, mt_p, if_pos (mt_ixn (by omega) (by omega)), mt_cln (by omega), hr3 i m hi (by omega)]
        exact ⟨_, rfl, rfl⟩
      · rw [c_has0 c, if_pos (c.resolve_left c0)]; exact ⟨_, rfl, rfl⟩
    · rw [e2]; exact ⟨_, rfl, rfl⟩
theorem m_plan {pa wc pl pm : Int32} {wv pv : Nat → Int32} (h : NR pa wc wv pl pm pv) (x y : Int32) : ∃ q1, f_X8_plan wc wv x y = some q1 ∧ f_X9_plan pl pv x y = some q1 := by
  obtain ⟨rfl, _, n, rfl, rfl, hn, hv, _⟩ := h
  unfold f_X8_plan f_X9_plan f_X8_partOf
  rw [fI_in]
  by_cases c0 : x < 0
  · rw [if_pos c0, if_pos c0]; exact ⟨_, rfl, rfl⟩
  · rw [if_neg c0, if_neg c0]
    rcases mt_win y 0 2 (l := 0) (h := 2) rfl rfl (by omega) (by omega) with ⟨m, rfl, h3, h4, e2⟩ | e2
    · rw [e2, Option.bind_some, if_neg n10, Option.bind_some, if_neg n10]
      rcases mt_idx x (n := n) (by omega) with ⟨i, rfl, hi⟩ | c
      · rw [c_has1 hi (by omega), Option.bind_some, if_neg n10, if_neg (by rw [mt_len (by omega) (by omega)]; omega), c_get hi (by omega) (by omega) (by omega), show (3 : Int32) = zI ((3 : Nat) : Int) from rfl, zI_mul, ← Int.natCast_mul, mt_p, if_pos (mt_ixn (by omega) (by omega)), mt_cln (by omega), hv _ (by omega)]
        exact ⟨_, rfl, rfl⟩
      · rw [c_has0 c, if_pos (c.resolve_left c0)]; exact ⟨_, rfl, rfl⟩
    · rw [e2]; exact ⟨_, rfl, rfl⟩
theorem t_ground : MT_ground Cpl := by
  intro fuel hf c r x1 x2 h
  obtain ⟨q, e1, e2⟩ := m_ground hf h.1 x1 x2
  exact ⟨q, q, e1, e2, rfl, h⟩
theorem t_boulder : MT_boulder Cpl := by
  intro fuel hf c r x1 x2 h
  obtain ⟨q, e1, e2⟩ := m_boulder h.1 x1 x2
  exact ⟨q, q, e1, e2, rfl, h⟩
theorem t_state : MT_state Cpl := by
  intro fuel hf c r x1 h
  obtain ⟨q, e1, e2⟩ := m_state hf h.1 x1
  exact ⟨q, q, e1, e2, rfl, h⟩
theorem t_edge : MT_edge Cpl := by
  intro fuel hf c r x1 x2 h
  obtain ⟨q, e1, e2⟩ := m_edge hf h.1 x1 x2
  exact ⟨q, q, e1, e2, rfl, h⟩
theorem t_bottom : MT_bottom Cpl := by
  intro fuel hf c r x1 h
  obtain ⟨q, e1, e2⟩ := m_bottom h.1 x1
  exact ⟨q, q, e1, e2, rfl, h⟩
theorem t_record : MT_record Cpl := by
  intro fuel hf c r x1 x2 h
  obtain ⟨q, e1, e2⟩ := m_record h.1 x1 x2
  exact ⟨q, q, e1, e2, rfl, h⟩
theorem t_plan : MT_plan Cpl := by
  intro fuel hf c r x1 x2 h
  obtain ⟨q, e1, e2⟩ := m_plan h.2.2.2 x1 x2
  exact ⟨q, q, e1, e2, rfl, h⟩
theorem t_surplus : MT_surplus Cpl := by
  intro fuel hf c r h
  obtain ⟨q, e1, e2⟩ := m_surplus hf h.1 _ _
  exact ⟨q, q.1, e1, e2, rfl, h.1, h.2.1, h.2.2.1, h.2.2.2⟩
theorem t_nextStep : MT_nextStep Cpl := by
  intro fuel hf c r h
  obtain ⟨q, e1, e2⟩ := m_nextStep hf h.1 _ _
  exact ⟨q, q.1, e1, e2, rfl, h.1, h.2.1, h.2.2.1, h.2.2.2⟩
theorem t_ballastNeeded : MT_ballastNeeded Cpl := by
  intro fuel hf c r h
  obtain ⟨q, e1, e2⟩ := m_ballastNeeded hf h.1 _ _
  exact ⟨q, q.1, e1, e2, rfl, h.1, h.2.1, h.2.2.1, h.2.2.2⟩
theorem t_moment : MT_moment Cpl := by
  intro fuel hf c r x1 h
  obtain ⟨q, e1, e2⟩ := m_moment hf h.1 _ _ _ _ _ x1
  exact ⟨q, q.1, e1, e2, rfl, h.1, h.2.1, h.2.2.1, h.2.2.2⟩
