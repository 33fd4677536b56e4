theorem mg_ix_nI {m n : Nat} (h : m < n) (hn : n < 2 ^ 31) : mg_ix (nI m) n = true := by
  simp only [mg_ix, Bool.and_eq_true, decide_eq_true_eq]
  exact ⟨nI_pos' (by omega), by rw [nI_clamp (by omega)]; exact h⟩
theorem lw_le {L j : Nat} (hL : L ≤ 2048) (hj : j ≤ L) (h : ¬ Int32.ofNat L - 4 < nI j) : j + 4 ≤ L := by
  have e1 : (Int32.ofNat L - 4).toInt = (L : Int) - 4 := by
    have := pk_sub_toInt (a := L) (b := 4) (by omega) (by omega)
    exact this
  rw [Int32.lt_iff_toInt_lt, e1, nI_toInt (by omega)] at h
  omega
theorem lw_ix {L j n : Nat} (hL : L ≤ 2048) (h : j + 4 ≤ L) (hn : n < 4) : mg_ix (nI j + nI n) L = true := by
  rw [nI_add]
  exact mg_ix_nI (by omega) (by omega)
set_option maxRecDepth 100000 in
set_option maxHeartbeats 40000000 in
theorem law_loop {z : mg_Z} {k : mg_K} {A : Nat → Prop} {Q : State → Prop} {kc ks : Nat} (C : mg_C z k A 4 13 kc ks cL_law RL) {b L : Nat} {xs : Nat → Int32} (hL : L ≤ 2048) (hX : va_X b L xs (mg_s z) (mg_s z).heap) (hbl : b < (mg_s z).heap.size) (hbA : ¬ A b) (a_t a_u a_t_forces a_t_history a_t_text a_t_wellsToDig a_t_imagined a_t_forces_trial a_t_forces_chosen a_t_forces_chosen_bottoms a_t_forces_trial_bottoms a_t_history_saved a_t_imagined_bottoms a_t_text_characters a_t_text_values a_t_wellsToDig_values a_u_s a_u_past a_u_aside a_u_text a_u_told a_u_bottoms a_u_planned : Nat) (b_t_forces_site : Nat → Nat) (b_t_draft : Nat → Nat) (b_t_history_saved : Nat → Nat → Nat) (Cpl : cs_T → rs_T → Prop) (m_appendCharacter : MT_appendCharacter Cpl) (m_clearText : MT_clearText Cpl) (m_load : MT_load Cpl) (m_resize : MT_resize Cpl) (m_setWeight : MT_setWeight Cpl) (m_setStiffness : MT_setStiffness Cpl) (m_addLayer : MT_addLayer Cpl) (m_addBoulder : MT_addBoulder Cpl) (m_ground : MT_ground Cpl) (m_boulder : MT_boulder Cpl) (m_state : MT_state Cpl) (m_edge : MT_edge Cpl) (m_bottom : MT_bottom Cpl) (m_surplus : MT_surplus Cpl) (m_moment : MT_moment Cpl) (m_nextStep : MT_nextStep Cpl) (m_sideResistance : MT_sideResistance Cpl) (m_stuckDepth : MT_stuckDepth Cpl) (m_ballastNeeded : MT_ballastNeeded Cpl) (m_dig : MT_dig Cpl) (m_settle : MT_settle Cpl) (m_setBallast : MT_setBallast Cpl) (m_lubricate : MT_lubricate Cpl) (m_blast : MT_blast Cpl) (m_pump : MT_pump Cpl) (m_record : MT_record Cpl) (m_wouldSettle : MT_wouldSettle Cpl) (m_bestWell : MT_bestWell Cpl) (m_makePlan : MT_makePlan Cpl) (m_plan : MT_plan Cpl) (m_carryOut : MT_carryOut Cpl) (m_highSide : MT_highSide Cpl) (m_undo : MT_undo Cpl) (E0 : ∀ (c : cs_T) (r : rs_T) (i : Int32), Cpl c r → mg z k A 4 kc ks Q (w_law k a_t a_u a_t_forces a_t_history a_t_text a_t_wellsToDig a_t_imagined a_t_forces_trial a_t_forces_chosen a_t_forces_chosen_bottoms a_t_forces_trial_bottoms a_t_history_saved a_t_imagined_bottoms a_t_text_characters a_t_text_values a_t_wellsToDig_values a_u_s a_u_past a_u_aside a_u_text a_u_told a_u_bottoms a_u_planned b_t_forces_site b_t_draft b_t_history_saved c r) [(0, .ref b), (1, .ref a_t), (2, .ref a_u), (3, .int i)] 1025 []) : ∀ (n j : Nat) (c : cs_T) (r : rs_T), j ≤ L → L - j < n → Cpl c r → mg z k A 4 kc ks Q (w_law k a_t a_u a_t_forces a_t_history a_t_text a_t_wellsToDig a_t_imagined a_t_forces_trial a_t_forces_chosen a_t_forces_chosen_bottoms a_t_forces_trial_bottoms a_t_history_saved a_t_imagined_bottoms a_t_text_characters a_t_text_values a_t_wellsToDig_values a_u_s a_u_past a_u_aside a_u_text a_u_told a_u_bottoms a_u_planned b_t_forces_site b_t_draft b_t_history_saved c r) [(0, .ref b), (1, .ref a_t), (2, .ref a_u), (3, .int (nI j))] 18 [] := by
  intro n
  induction n with
  | zero => intro j c r hj hn; omega
  | succ n ih =>
    intro j c r hj hn hc
    refine mg_iload_n (pc := 18) C 3 dL_law_18 rfl rfl ?_
    refine mg_aload_n (pc := 19) C 0 dL_law_19 rfl rfl ?_
    refine mg_slen (pc := 20) C hX hbl hbA dL_law_20 ?_
    refine mg_iconst (pc := 21) C dL_law_21 (v := 4) (by decide) ?_
    refine mg_isub (pc := 22) C dL_law_22 ?_
    by_cases hlt : Int32.ofNat L - 4 < nI j
    · refine mg_icmp_gtT (pc := 23) (tgt := 1025) C hlt dL_law_23 (by decide) ?_
      exact E0 c r (nI j) hc
    refine mg_icmp_gtF (pc := 23) (tgt := 1025) C hlt dL_law_23 (by decide) ?_
    have h4 : j + 4 ≤ L := lw_le hL hj hlt
    have i1 : mg_ix (nI j + 1) L = true := lw_ix (n := 1) hL h4 (by omega)
    have i2 : mg_ix (nI j + 2) L = true := lw_ix (n := 2) hL h4 (by omega)
    have i3 : mg_ix (nI j + 3) L = true := lw_ix (n := 3) hL h4 (by omega)
    refine mg_aload_n (pc := 26) C 0 dL_law_26 rfl rfl ?_
    refine mg_iload_n (pc := 27) C 3 dL_law_27 rfl rfl ?_
    refine mg_sld (pc := 28) C hX hbl hbA (mg_ix_nI (by omega) (by omega)) dL_law_28 ?_
    refine mg_bipush (pc := 29) C dL_law_29 (v := 63) (by decide) ?_
    refine mg_iand (pc := 31) C dL_law_31 ?_
    have cont : ∀ (c : cs_T) (r : rs_T), Cpl c r → mg z k A 4 kc ks Q (w_law k a_t a_u a_t_forces a_t_history a_t_text a_t_wellsToDig a_t_imagined a_t_forces_trial a_t_forces_chosen a_t_forces_chosen_bottoms a_t_forces_trial_bottoms a_t_history_saved a_t_imagined_bottoms a_t_text_characters a_t_text_values a_t_wellsToDig_values a_u_s a_u_past a_u_aside a_u_text a_u_told a_u_bottoms a_u_planned b_t_forces_site b_t_draft b_t_history_saved c r) [(0, .ref b), (1, .ref a_t), (2, .ref a_u), (3, .int (nI j))] 1019 [] := by
      intro c r hc
      refine mg_iinc (pc := 1019) C (c := 4) (lv' := [(3, .int (nI j + 4)), (0, .ref b), (1, .ref a_t), (2, .ref a_u)]) 3 dL_law_1019 rfl (by decide) (by decide) rfl ?_
      refine mg_goto (pc := 1022) (tgt := 18) C dL_law_1022 (by decide) ?_
      refine mg_lv [1, 2, 3, 0] rfl ?_
      have e : nI j + 4 = nI (j + 4) := nI_add j 4
      rw [e]
      exact ih (j + 4) c r h4 (by omega) hc
    generalize hX0 : xs (nI j).toNatClampNeg &&& 63 = X
    by_cases e0 : X = 0
    · refine mg_tableIn (pc := 32) (off := 148) (tgt := 180) C 0 e0 dL_law_32 (by decide) (by decide) (by decide) (by decide) ?_
      obtain ⟨q1, q2, h1, h2, he, hc⟩ := m_appendCharacter 5000 (Nat.le_refl _) c r (xs (Int32.toNatClampNeg (nI j + 1))) hc
      exact lc_appendCharacter C hX hbl hbA a_t a_u a_t_forces a_t_history a_t_text a_t_wellsToDig a_t_imagined a_t_forces_trial a_t_forces_chosen a_t_forces_chosen_bottoms a_t_forces_trial_bottoms a_t_history_saved a_t_imagined_bottoms a_t_text_characters a_t_text_values a_t_wellsToDig_values a_u_s a_u_past a_u_aside a_u_text a_u_told a_u_bottoms a_u_planned b_t_forces_site b_t_draft b_t_history_saved c r (nI j) i1 5000 q1 h1 q2 h2 he (cont _ _ hc)
    by_cases e1 : X = 1
    · refine mg_tableIn (pc := 32) (off := 171) (tgt := 203) C 1 e1 dL_law_32 (by decide) (by decide) (by decide) (by decide) ?_
      obtain ⟨q1, q2, h1, h2, he, hc⟩ := m_clearText 5000 (Nat.le_refl _) c r  hc
      exact lc_clearText C hX hbl hbA a_t a_u a_t_forces a_t_history a_t_text a_t_wellsToDig a_t_imagined a_t_forces_trial a_t_forces_chosen a_t_forces_chosen_bottoms a_t_forces_trial_bottoms a_t_history_saved a_t_imagined_bottoms a_t_text_characters a_t_text_values a_t_wellsToDig_values a_u_s a_u_past a_u_aside a_u_text a_u_told a_u_bottoms a_u_planned b_t_forces_site b_t_draft b_t_history_saved c r (nI j)  5000 q1 h1 q2 h2 he (cont _ _ hc)
    by_cases e2 : X = 2
    · refine mg_tableIn (pc := 32) (off := 184) (tgt := 216) C 2 e2 dL_law_32 (by decide) (by decide) (by decide) (by decide) ?_
      obtain ⟨q1, q2, h1, h2, he, hc⟩ := m_load 5000 (Nat.le_refl _) c r  hc
      exact lc_load C hX hbl hbA a_t a_u a_t_forces a_t_history a_t_text a_t_wellsToDig a_t_imagined a_t_forces_trial a_t_forces_chosen a_t_forces_chosen_bottoms a_t_forces_trial_bottoms a_t_history_saved a_t_imagined_bottoms a_t_text_characters a_t_text_values a_t_wellsToDig_values a_u_s a_u_past a_u_aside a_u_text a_u_told a_u_bottoms a_u_planned b_t_forces_site b_t_draft b_t_history_saved c r (nI j)  5000 q1 h1 q2 h2 he (cont _ _ hc)
    by_cases e3 : X = 3
    · refine mg_tableIn (pc := 32) (off := 197) (tgt := 229) C 3 e3 dL_law_32 (by decide) (by decide) (by decide) (by decide) ?_
      obtain ⟨q1, q2, h1, h2, he, hc⟩ := m_resize 5000 (Nat.le_refl _) c r (xs (Int32.toNatClampNeg (nI j + 1))) (xs (Int32.toNatClampNeg (nI j + 2))) hc
      exact lc_resize C hX hbl hbA a_t a_u a_t_forces a_t_history a_t_text a_t_wellsToDig a_t_imagined a_t_forces_trial a_t_forces_chosen a_t_forces_chosen_bottoms a_t_forces_trial_bottoms a_t_history_saved a_t_imagined_bottoms a_t_text_characters a_t_text_values a_t_wellsToDig_values a_u_s a_u_past a_u_aside a_u_text a_u_told a_u_bottoms a_u_planned b_t_forces_site b_t_draft b_t_history_saved c r (nI j) i1 i2 5000 q1 h1 q2 h2 he (cont _ _ hc)
    by_cases e4 : X = 4
    · refine mg_tableIn (pc := 32) (off := 230) (tgt := 262) C 4 e4 dL_law_32 (by decide) (by decide) (by decide) (by decide) ?_
      obtain ⟨q1, q2, h1, h2, he, hc⟩ := m_setWeight 5000 (Nat.le_refl _) c r (xs (Int32.toNatClampNeg (nI j + 1))) hc
      exact lc_setWeight C hX hbl hbA a_t a_u a_t_forces a_t_history a_t_text a_t_wellsToDig a_t_imagined a_t_forces_trial a_t_forces_chosen a_t_forces_chosen_bottoms a_t_forces_trial_bottoms a_t_history_saved a_t_imagined_bottoms a_t_text_characters a_t_text_values a_t_wellsToDig_values a_u_s a_u_past a_u_aside a_u_text a_u_told a_u_bottoms a_u_planned b_t_forces_site b_t_draft b_t_history_saved c r (nI j) i1 5000 q1 h1 q2 h2 he (cont _ _ hc)
    by_cases e5 : X = 5
    · refine mg_tableIn (pc := 32) (off := 253) (tgt := 285) C 5 e5 dL_law_32 (by decide) (by decide) (by decide) (by decide) ?_
      obtain ⟨q1, q2, h1, h2, he, hc⟩ := m_setStiffness 5000 (Nat.le_refl _) c r (xs (Int32.toNatClampNeg (nI j + 1))) hc
      exact lc_setStiffness C hX hbl hbA a_t a_u a_t_forces a_t_history a_t_text a_t_wellsToDig a_t_imagined a_t_forces_trial a_t_forces_chosen a_t_forces_chosen_bottoms a_t_forces_trial_bottoms a_t_history_saved a_t_imagined_bottoms a_t_text_characters a_t_text_values a_t_wellsToDig_values a_u_s a_u_past a_u_aside a_u_text a_u_told a_u_bottoms a_u_planned b_t_forces_site b_t_draft b_t_history_saved c r (nI j) i1 5000 q1 h1 q2 h2 he (cont _ _ hc)
    by_cases e6 : X = 6
    · refine mg_tableIn (pc := 32) (off := 276) (tgt := 308) C 6 e6 dL_law_32 (by decide) (by decide) (by decide) (by decide) ?_
      obtain ⟨q1, q2, h1, h2, he, hc⟩ := m_addLayer 5000 (Nat.le_refl _) c r (xs (Int32.toNatClampNeg (nI j + 1))) (xs (Int32.toNatClampNeg (nI j + 2))) (xs (Int32.toNatClampNeg (nI j + 3))) hc
      exact lc_addLayer C hX hbl hbA a_t a_u a_t_forces a_t_history a_t_text a_t_wellsToDig a_t_imagined a_t_forces_trial a_t_forces_chosen a_t_forces_chosen_bottoms a_t_forces_trial_bottoms a_t_history_saved a_t_imagined_bottoms a_t_text_characters a_t_text_values a_t_wellsToDig_values a_u_s a_u_past a_u_aside a_u_text a_u_told a_u_bottoms a_u_planned b_t_forces_site b_t_draft b_t_history_saved c r (nI j) i1 i2 i3 5000 q1 h1 q2 h2 he (cont _ _ hc)
    by_cases e7 : X = 7
    · refine mg_tableIn (pc := 32) (off := 319) (tgt := 351) C 7 e7 dL_law_32 (by decide) (by decide) (by decide) (by decide) ?_
      obtain ⟨q1, q2, h1, h2, he, hc⟩ := m_addBoulder 5000 (Nat.le_refl _) c r (xs (Int32.toNatClampNeg (nI j + 1))) (xs (Int32.toNatClampNeg (nI j + 2))) (xs (Int32.toNatClampNeg (nI j + 3))) hc
      exact lc_addBoulder C hX hbl hbA a_t a_u a_t_forces a_t_history a_t_text a_t_wellsToDig a_t_imagined a_t_forces_trial a_t_forces_chosen a_t_forces_chosen_bottoms a_t_forces_trial_bottoms a_t_history_saved a_t_imagined_bottoms a_t_text_characters a_t_text_values a_t_wellsToDig_values a_u_s a_u_past a_u_aside a_u_text a_u_told a_u_bottoms a_u_planned b_t_forces_site b_t_draft b_t_history_saved c r (nI j) i1 i2 i3 5000 q1 h1 q2 h2 he (cont _ _ hc)
    by_cases e8 : X = 8
    · refine mg_tableIn (pc := 32) (off := 362) (tgt := 394) C 8 e8 dL_law_32 (by decide) (by decide) (by decide) (by decide) ?_
      obtain ⟨q1, q2, h1, h2, he, hc⟩ := m_ground 5000 (Nat.le_refl _) c r (xs (Int32.toNatClampNeg (nI j + 1))) (xs (Int32.toNatClampNeg (nI j + 2))) hc
      exact lc_ground C hX hbl hbA a_t a_u a_t_forces a_t_history a_t_text a_t_wellsToDig a_t_imagined a_t_forces_trial a_t_forces_chosen a_t_forces_chosen_bottoms a_t_forces_trial_bottoms a_t_history_saved a_t_imagined_bottoms a_t_text_characters a_t_text_values a_t_wellsToDig_values a_u_s a_u_past a_u_aside a_u_text a_u_told a_u_bottoms a_u_planned b_t_forces_site b_t_draft b_t_history_saved c r (nI j) i1 i2 5000 q1 h1 q2 h2 he (cont _ _ hc)
    by_cases e9 : X = 9
    · refine mg_tableIn (pc := 32) (off := 395) (tgt := 427) C 9 e9 dL_law_32 (by decide) (by decide) (by decide) (by decide) ?_
      obtain ⟨q1, q2, h1, h2, he, hc⟩ := m_boulder 5000 (Nat.le_refl _) c r (xs (Int32.toNatClampNeg (nI j + 1))) (xs (Int32.toNatClampNeg (nI j + 2))) hc
      exact lc_boulder C hX hbl hbA a_t a_u a_t_forces a_t_history a_t_text a_t_wellsToDig a_t_imagined a_t_forces_trial a_t_forces_chosen a_t_forces_chosen_bottoms a_t_forces_trial_bottoms a_t_history_saved a_t_imagined_bottoms a_t_text_characters a_t_text_values a_t_wellsToDig_values a_u_s a_u_past a_u_aside a_u_text a_u_told a_u_bottoms a_u_planned b_t_forces_site b_t_draft b_t_history_saved c r (nI j) i1 i2 5000 q1 h1 q2 h2 he (cont _ _ hc)
    by_cases e10 : X = 10
    · refine mg_tableIn (pc := 32) (off := 428) (tgt := 460) C 10 e10 dL_law_32 (by decide) (by decide) (by decide) (by decide) ?_
      obtain ⟨q1, q2, h1, h2, he, hc⟩ := m_state 5000 (Nat.le_refl _) c r (xs (Int32.toNatClampNeg (nI j + 1))) hc
      exact lc_state C hX hbl hbA a_t a_u a_t_forces a_t_history a_t_text a_t_wellsToDig a_t_imagined a_t_forces_trial a_t_forces_chosen a_t_forces_chosen_bottoms a_t_forces_trial_bottoms a_t_history_saved a_t_imagined_bottoms a_t_text_characters a_t_text_values a_t_wellsToDig_values a_u_s a_u_past a_u_aside a_u_text a_u_told a_u_bottoms a_u_planned b_t_forces_site b_t_draft b_t_history_saved c r (nI j) i1 5000 q1 h1 q2 h2 he (cont _ _ hc)
    by_cases e11 : X = 11
    · refine mg_tableIn (pc := 32) (off := 451) (tgt := 483) C 11 e11 dL_law_32 (by decide) (by decide) (by decide) (by decide) ?_
      obtain ⟨q1, q2, h1, h2, he, hc⟩ := m_edge 5000 (Nat.le_refl _) c r (xs (Int32.toNatClampNeg (nI j + 1))) (xs (Int32.toNatClampNeg (nI j + 2))) hc
      exact lc_edge C hX hbl hbA a_t a_u a_t_forces a_t_history a_t_text a_t_wellsToDig a_t_imagined a_t_forces_trial a_t_forces_chosen a_t_forces_chosen_bottoms a_t_forces_trial_bottoms a_t_history_saved a_t_imagined_bottoms a_t_text_characters a_t_text_values a_t_wellsToDig_values a_u_s a_u_past a_u_aside a_u_text a_u_told a_u_bottoms a_u_planned b_t_forces_site b_t_draft b_t_history_saved c r (nI j) i1 i2 5000 q1 h1 q2 h2 he (cont _ _ hc)
    by_cases e12 : X = 12
    · refine mg_tableIn (pc := 32) (off := 484) (tgt := 516) C 12 e12 dL_law_32 (by decide) (by decide) (by decide) (by decide) ?_
      obtain ⟨q1, q2, h1, h2, he, hc⟩ := m_bottom 5000 (Nat.le_refl _) c r (xs (Int32.toNatClampNeg (nI j + 1))) hc
      exact lc_bottom C hX hbl hbA a_t a_u a_t_forces a_t_history a_t_text a_t_wellsToDig a_t_imagined a_t_forces_trial a_t_forces_chosen a_t_forces_chosen_bottoms a_t_forces_trial_bottoms a_t_history_saved a_t_imagined_bottoms a_t_text_characters a_t_text_values a_t_wellsToDig_values a_u_s a_u_past a_u_aside a_u_text a_u_told a_u_bottoms a_u_planned b_t_forces_site b_t_draft b_t_history_saved c r (nI j) i1 5000 q1 h1 q2 h2 he (cont _ _ hc)
    by_cases e13 : X = 13
    · refine mg_tableIn (pc := 32) (off := 507) (tgt := 539) C 13 e13 dL_law_32 (by decide) (by decide) (by decide) (by decide) ?_
      obtain ⟨q1, q2, h1, h2, he, hc⟩ := m_surplus 5000 (Nat.le_refl _) c r  hc
      exact lc_surplus C hX hbl hbA a_t a_u a_t_forces a_t_history a_t_text a_t_wellsToDig a_t_imagined a_t_forces_trial a_t_forces_chosen a_t_forces_chosen_bottoms a_t_forces_trial_bottoms a_t_history_saved a_t_imagined_bottoms a_t_text_characters a_t_text_values a_t_wellsToDig_values a_u_s a_u_past a_u_aside a_u_text a_u_told a_u_bottoms a_u_planned b_t_forces_site b_t_draft b_t_history_saved c r (nI j)  5000 q1 h1 q2 h2 he (cont _ _ hc)
    by_cases e14 : X = 14
    · refine mg_tableIn (pc := 32) (off := 520) (tgt := 552) C 14 e14 dL_law_32 (by decide) (by decide) (by decide) (by decide) ?_
      obtain ⟨q1, q2, h1, h2, he, hc⟩ := m_moment 5000 (Nat.le_refl _) c r (xs (Int32.toNatClampNeg (nI j + 1))) hc
      exact lc_moment C hX hbl hbA a_t a_u a_t_forces a_t_history a_t_text a_t_wellsToDig a_t_imagined a_t_forces_trial a_t_forces_chosen a_t_forces_chosen_bottoms a_t_forces_trial_bottoms a_t_history_saved a_t_imagined_bottoms a_t_text_characters a_t_text_values a_t_wellsToDig_values a_u_s a_u_past a_u_aside a_u_text a_u_told a_u_bottoms a_u_planned b_t_forces_site b_t_draft b_t_history_saved c r (nI j) i1 5000 q1 h1 q2 h2 he (cont _ _ hc)
    by_cases e15 : X = 15
    · refine mg_tableIn (pc := 32) (off := 543) (tgt := 575) C 15 e15 dL_law_32 (by decide) (by decide) (by decide) (by decide) ?_
      obtain ⟨q1, q2, h1, h2, he, hc⟩ := m_nextStep 5000 (Nat.le_refl _) c r  hc
      exact lc_nextStep C hX hbl hbA a_t a_u a_t_forces a_t_history a_t_text a_t_wellsToDig a_t_imagined a_t_forces_trial a_t_forces_chosen a_t_forces_chosen_bottoms a_t_forces_trial_bottoms a_t_history_saved a_t_imagined_bottoms a_t_text_characters a_t_text_values a_t_wellsToDig_values a_u_s a_u_past a_u_aside a_u_text a_u_told a_u_bottoms a_u_planned b_t_forces_site b_t_draft b_t_history_saved c r (nI j)  5000 q1 h1 q2 h2 he (cont _ _ hc)
    by_cases e16 : X = 16
    · refine mg_tableIn (pc := 32) (off := 556) (tgt := 588) C 16 e16 dL_law_32 (by decide) (by decide) (by decide) (by decide) ?_
      obtain ⟨q1, q2, h1, h2, he, hc⟩ := m_sideResistance 5000 (Nat.le_refl _) c r (xs (Int32.toNatClampNeg (nI j + 1))) hc
      exact lc_sideResistance C hX hbl hbA a_t a_u a_t_forces a_t_history a_t_text a_t_wellsToDig a_t_imagined a_t_forces_trial a_t_forces_chosen a_t_forces_chosen_bottoms a_t_forces_trial_bottoms a_t_history_saved a_t_imagined_bottoms a_t_text_characters a_t_text_values a_t_wellsToDig_values a_u_s a_u_past a_u_aside a_u_text a_u_told a_u_bottoms a_u_planned b_t_forces_site b_t_draft b_t_history_saved c r (nI j) i1 5000 q1 h1 q2 h2 he (cont _ _ hc)
    by_cases e17 : X = 17
    · refine mg_tableIn (pc := 32) (off := 579) (tgt := 611) C 17 e17 dL_law_32 (by decide) (by decide) (by decide) (by decide) ?_
      obtain ⟨q1, q2, h1, h2, he, hc⟩ := m_stuckDepth 5000 (Nat.le_refl _) c r  hc
      exact lc_stuckDepth C hX hbl hbA a_t a_u a_t_forces a_t_history a_t_text a_t_wellsToDig a_t_imagined a_t_forces_trial a_t_forces_chosen a_t_forces_chosen_bottoms a_t_forces_trial_bottoms a_t_history_saved a_t_imagined_bottoms a_t_text_characters a_t_text_values a_t_wellsToDig_values a_u_s a_u_past a_u_aside a_u_text a_u_told a_u_bottoms a_u_planned b_t_forces_site b_t_draft b_t_history_saved c r (nI j)  5000 q1 h1 q2 h2 he (cont _ _ hc)
    by_cases e18 : X = 18
    · refine mg_tableIn (pc := 32) (off := 592) (tgt := 624) C 18 e18 dL_law_32 (by decide) (by decide) (by decide) (by decide) ?_
      obtain ⟨q1, q2, h1, h2, he, hc⟩ := m_ballastNeeded 5000 (Nat.le_refl _) c r  hc
      exact lc_ballastNeeded C hX hbl hbA a_t a_u a_t_forces a_t_history a_t_text a_t_wellsToDig a_t_imagined a_t_forces_trial a_t_forces_chosen a_t_forces_chosen_bottoms a_t_forces_trial_bottoms a_t_history_saved a_t_imagined_bottoms a_t_text_characters a_t_text_values a_t_wellsToDig_values a_u_s a_u_past a_u_aside a_u_text a_u_told a_u_bottoms a_u_planned b_t_forces_site b_t_draft b_t_history_saved c r (nI j)  5000 q1 h1 q2 h2 he (cont _ _ hc)
    by_cases e19 : X = 19
    · refine mg_tableIn (pc := 32) (off := 605) (tgt := 637) C 19 e19 dL_law_32 (by decide) (by decide) (by decide) (by decide) ?_
      obtain ⟨q1, q2, h1, h2, he, hc⟩ := m_dig 5000 (Nat.le_refl _) c r (xs (Int32.toNatClampNeg (nI j + 1))) (xs (Int32.toNatClampNeg (nI j + 2))) hc
      exact lc_dig C hX hbl hbA a_t a_u a_t_forces a_t_history a_t_text a_t_wellsToDig a_t_imagined a_t_forces_trial a_t_forces_chosen a_t_forces_chosen_bottoms a_t_forces_trial_bottoms a_t_history_saved a_t_imagined_bottoms a_t_text_characters a_t_text_values a_t_wellsToDig_values a_u_s a_u_past a_u_aside a_u_text a_u_told a_u_bottoms a_u_planned b_t_forces_site b_t_draft b_t_history_saved c r (nI j) i1 i2 5000 q1 h1 q2 h2 he (cont _ _ hc)
    by_cases e20 : X = 20
    · refine mg_tableIn (pc := 32) (off := 638) (tgt := 670) C 20 e20 dL_law_32 (by decide) (by decide) (by decide) (by decide) ?_
      obtain ⟨q1, q2, h1, h2, he, hc⟩ := m_settle 5000 (Nat.le_refl _) c r (xs (Int32.toNatClampNeg (nI j + 1))) hc
      exact lc_settle C hX hbl hbA a_t a_u a_t_forces a_t_history a_t_text a_t_wellsToDig a_t_imagined a_t_forces_trial a_t_forces_chosen a_t_forces_chosen_bottoms a_t_forces_trial_bottoms a_t_history_saved a_t_imagined_bottoms a_t_text_characters a_t_text_values a_t_wellsToDig_values a_u_s a_u_past a_u_aside a_u_text a_u_told a_u_bottoms a_u_planned b_t_forces_site b_t_draft b_t_history_saved c r (nI j) i1 5000 q1 h1 q2 h2 he (cont _ _ hc)
    by_cases e21 : X = 21
    · refine mg_tableIn (pc := 32) (off := 661) (tgt := 693) C 21 e21 dL_law_32 (by decide) (by decide) (by decide) (by decide) ?_
      obtain ⟨q1, q2, h1, h2, he, hc⟩ := m_setBallast 5000 (Nat.le_refl _) c r (xs (Int32.toNatClampNeg (nI j + 1))) (xs (Int32.toNatClampNeg (nI j + 2))) hc
      exact lc_setBallast C hX hbl hbA a_t a_u a_t_forces a_t_history a_t_text a_t_wellsToDig a_t_imagined a_t_forces_trial a_t_forces_chosen a_t_forces_chosen_bottoms a_t_forces_trial_bottoms a_t_history_saved a_t_imagined_bottoms a_t_text_characters a_t_text_values a_t_wellsToDig_values a_u_s a_u_past a_u_aside a_u_text a_u_told a_u_bottoms a_u_planned b_t_forces_site b_t_draft b_t_history_saved c r (nI j) i1 i2 5000 q1 h1 q2 h2 he (cont _ _ hc)
    by_cases e22 : X = 22
    · refine mg_tableIn (pc := 32) (off := 694) (tgt := 726) C 22 e22 dL_law_32 (by decide) (by decide) (by decide) (by decide) ?_
      obtain ⟨q1, q2, h1, h2, he, hc⟩ := m_lubricate 5000 (Nat.le_refl _) c r (xs (Int32.toNatClampNeg (nI j + 1))) (xs (Int32.toNatClampNeg (nI j + 2))) hc
      exact lc_lubricate C hX hbl hbA a_t a_u a_t_forces a_t_history a_t_text a_t_wellsToDig a_t_imagined a_t_forces_trial a_t_forces_chosen a_t_forces_chosen_bottoms a_t_forces_trial_bottoms a_t_history_saved a_t_imagined_bottoms a_t_text_characters a_t_text_values a_t_wellsToDig_values a_u_s a_u_past a_u_aside a_u_text a_u_told a_u_bottoms a_u_planned b_t_forces_site b_t_draft b_t_history_saved c r (nI j) i1 i2 5000 q1 h1 q2 h2 he (cont _ _ hc)
    by_cases e23 : X = 23
    · refine mg_tableIn (pc := 32) (off := 727) (tgt := 759) C 23 e23 dL_law_32 (by decide) (by decide) (by decide) (by decide) ?_
      obtain ⟨q1, q2, h1, h2, he, hc⟩ := m_blast 5000 (Nat.le_refl _) c r (xs (Int32.toNatClampNeg (nI j + 1))) (xs (Int32.toNatClampNeg (nI j + 2))) hc
      exact lc_blast C hX hbl hbA a_t a_u a_t_forces a_t_history a_t_text a_t_wellsToDig a_t_imagined a_t_forces_trial a_t_forces_chosen a_t_forces_chosen_bottoms a_t_forces_trial_bottoms a_t_history_saved a_t_imagined_bottoms a_t_text_characters a_t_text_values a_t_wellsToDig_values a_u_s a_u_past a_u_aside a_u_text a_u_told a_u_bottoms a_u_planned b_t_forces_site b_t_draft b_t_history_saved c r (nI j) i1 i2 5000 q1 h1 q2 h2 he (cont _ _ hc)
    by_cases e24 : X = 24
    · refine mg_tableIn (pc := 32) (off := 760) (tgt := 792) C 24 e24 dL_law_32 (by decide) (by decide) (by decide) (by decide) ?_
      obtain ⟨q1, q2, h1, h2, he, hc⟩ := m_pump 5000 (Nat.le_refl _) c r (xs (Int32.toNatClampNeg (nI j + 1))) hc
      exact lc_pump C hX hbl hbA a_t a_u a_t_forces a_t_history a_t_text a_t_wellsToDig a_t_imagined a_t_forces_trial a_t_forces_chosen a_t_forces_chosen_bottoms a_t_forces_trial_bottoms a_t_history_saved a_t_imagined_bottoms a_t_text_characters a_t_text_values a_t_wellsToDig_values a_u_s a_u_past a_u_aside a_u_text a_u_told a_u_bottoms a_u_planned b_t_forces_site b_t_draft b_t_history_saved c r (nI j) i1 5000 q1 h1 q2 h2 he (cont _ _ hc)
    by_cases e25 : X = 25
    · refine mg_tableIn (pc := 32) (off := 783) (tgt := 815) C 25 e25 dL_law_32 (by decide) (by decide) (by decide) (by decide) ?_
      obtain ⟨q1, q2, h1, h2, he, hc⟩ := m_record 5000 (Nat.le_refl _) c r (xs (Int32.toNatClampNeg (nI j + 1))) (xs (Int32.toNatClampNeg (nI j + 2))) hc
      exact lc_record C hX hbl hbA a_t a_u a_t_forces a_t_history a_t_text a_t_wellsToDig a_t_imagined a_t_forces_trial a_t_forces_chosen a_t_forces_chosen_bottoms a_t_forces_trial_bottoms a_t_history_saved a_t_imagined_bottoms a_t_text_characters a_t_text_values a_t_wellsToDig_values a_u_s a_u_past a_u_aside a_u_text a_u_told a_u_bottoms a_u_planned b_t_forces_site b_t_draft b_t_history_saved c r (nI j) i1 i2 5000 q1 h1 q2 h2 he (cont _ _ hc)
    by_cases e26 : X = 26
    · refine mg_tableIn (pc := 32) (off := 816) (tgt := 848) C 26 e26 dL_law_32 (by decide) (by decide) (by decide) (by decide) ?_
      obtain ⟨q1, q2, h1, h2, he, hc⟩ := m_wouldSettle 5000 (Nat.le_refl _) c r (xs (Int32.toNatClampNeg (nI j + 1))) (xs (Int32.toNatClampNeg (nI j + 2))) hc
      exact lc_wouldSettle C hX hbl hbA a_t a_u a_t_forces a_t_history a_t_text a_t_wellsToDig a_t_imagined a_t_forces_trial a_t_forces_chosen a_t_forces_chosen_bottoms a_t_forces_trial_bottoms a_t_history_saved a_t_imagined_bottoms a_t_text_characters a_t_text_values a_t_wellsToDig_values a_u_s a_u_past a_u_aside a_u_text a_u_told a_u_bottoms a_u_planned b_t_forces_site b_t_draft b_t_history_saved c r (nI j) i1 i2 5000 q1 h1 q2 h2 he (cont _ _ hc)
    by_cases e27 : X = 27
    · refine mg_tableIn (pc := 32) (off := 849) (tgt := 881) C 27 e27 dL_law_32 (by decide) (by decide) (by decide) (by decide) ?_
      obtain ⟨q1, q2, h1, h2, he, hc⟩ := m_bestWell 5000 (Nat.le_refl _) c r (xs (Int32.toNatClampNeg (nI j + 1))) hc
      exact lc_bestWell C hX hbl hbA a_t a_u a_t_forces a_t_history a_t_text a_t_wellsToDig a_t_imagined a_t_forces_trial a_t_forces_chosen a_t_forces_chosen_bottoms a_t_forces_trial_bottoms a_t_history_saved a_t_imagined_bottoms a_t_text_characters a_t_text_values a_t_wellsToDig_values a_u_s a_u_past a_u_aside a_u_text a_u_told a_u_bottoms a_u_planned b_t_forces_site b_t_draft b_t_history_saved c r (nI j) i1 5000 q1 h1 q2 h2 he (cont _ _ hc)
    by_cases e28 : X = 28
    · refine mg_tableIn (pc := 32) (off := 872) (tgt := 904) C 28 e28 dL_law_32 (by decide) (by decide) (by decide) (by decide) ?_
      obtain ⟨q1, q2, h1, h2, he, hc⟩ := m_makePlan 5000 (Nat.le_refl _) c r (xs (Int32.toNatClampNeg (nI j + 1))) (xs (Int32.toNatClampNeg (nI j + 2))) hc
      exact lc_makePlan C hX hbl hbA a_t a_u a_t_forces a_t_history a_t_text a_t_wellsToDig a_t_imagined a_t_forces_trial a_t_forces_chosen a_t_forces_chosen_bottoms a_t_forces_trial_bottoms a_t_history_saved a_t_imagined_bottoms a_t_text_characters a_t_text_values a_t_wellsToDig_values a_u_s a_u_past a_u_aside a_u_text a_u_told a_u_bottoms a_u_planned b_t_forces_site b_t_draft b_t_history_saved c r (nI j) i1 i2 5000 q1 h1 q2 h2 he (cont _ _ hc)
    by_cases e29 : X = 29
    · refine mg_tableIn (pc := 32) (off := 905) (tgt := 937) C 29 e29 dL_law_32 (by decide) (by decide) (by decide) (by decide) ?_
      obtain ⟨q1, q2, h1, h2, he, hc⟩ := m_plan 5000 (Nat.le_refl _) c r (xs (Int32.toNatClampNeg (nI j + 1))) (xs (Int32.toNatClampNeg (nI j + 2))) hc
      exact lc_plan C hX hbl hbA a_t a_u a_t_forces a_t_history a_t_text a_t_wellsToDig a_t_imagined a_t_forces_trial a_t_forces_chosen a_t_forces_chosen_bottoms a_t_forces_trial_bottoms a_t_history_saved a_t_imagined_bottoms a_t_text_characters a_t_text_values a_t_wellsToDig_values a_u_s a_u_past a_u_aside a_u_text a_u_told a_u_bottoms a_u_planned b_t_forces_site b_t_draft b_t_history_saved c r (nI j) i1 i2 5000 q1 h1 q2 h2 he (cont _ _ hc)
    by_cases e30 : X = 30
    · refine mg_tableIn (pc := 32) (off := 938) (tgt := 970) C 30 e30 dL_law_32 (by decide) (by decide) (by decide) (by decide) ?_
      obtain ⟨q1, q2, h1, h2, he, hc⟩ := m_carryOut 5000 (Nat.le_refl _) c r (xs (Int32.toNatClampNeg (nI j + 1))) hc
      exact lc_carryOut C hX hbl hbA a_t a_u a_t_forces a_t_history a_t_text a_t_wellsToDig a_t_imagined a_t_forces_trial a_t_forces_chosen a_t_forces_chosen_bottoms a_t_forces_trial_bottoms a_t_history_saved a_t_imagined_bottoms a_t_text_characters a_t_text_values a_t_wellsToDig_values a_u_s a_u_past a_u_aside a_u_text a_u_told a_u_bottoms a_u_planned b_t_forces_site b_t_draft b_t_history_saved c r (nI j) i1 5000 q1 h1 q2 h2 he (cont _ _ hc)
    by_cases e31 : X = 31
    · refine mg_tableIn (pc := 32) (off := 961) (tgt := 993) C 31 e31 dL_law_32 (by decide) (by decide) (by decide) (by decide) ?_
      obtain ⟨q1, q2, h1, h2, he, hc⟩ := m_highSide 5000 (Nat.le_refl _) c r  hc
      exact lc_highSide C hX hbl hbA a_t a_u a_t_forces a_t_history a_t_text a_t_wellsToDig a_t_imagined a_t_forces_trial a_t_forces_chosen a_t_forces_chosen_bottoms a_t_forces_trial_bottoms a_t_history_saved a_t_imagined_bottoms a_t_text_characters a_t_text_values a_t_wellsToDig_values a_u_s a_u_past a_u_aside a_u_text a_u_told a_u_bottoms a_u_planned b_t_forces_site b_t_draft b_t_history_saved c r (nI j)  5000 q1 h1 q2 h2 he (cont _ _ hc)
    by_cases e32 : X = 32
    · refine mg_tableIn (pc := 32) (off := 974) (tgt := 1006) C 32 e32 dL_law_32 (by decide) (by decide) (by decide) (by decide) ?_
      obtain ⟨q1, q2, h1, h2, he, hc⟩ := m_undo 5000 (Nat.le_refl _) c r  hc
      exact lc_undo C hX hbl hbA a_t a_u a_t_forces a_t_history a_t_text a_t_wellsToDig a_t_imagined a_t_forces_trial a_t_forces_chosen a_t_forces_chosen_bottoms a_t_forces_trial_bottoms a_t_history_saved a_t_imagined_bottoms a_t_text_characters a_t_text_values a_t_wellsToDig_values a_u_s a_u_past a_u_aside a_u_text a_u_told a_u_bottoms a_u_planned b_t_forces_site b_t_draft b_t_history_saved c r (nI j)  5000 q1 h1 q2 h2 he (cont _ _ hc)
    refine mg_tableOut (pc := 32) (tgt := 1019) C dL_law_32 (by have n0 := mg_ne e0 (i := 0) (by decide); have n1 := mg_ne e1 (i := 1) (by decide); have n2 := mg_ne e2 (i := 2) (by decide); have n3 := mg_ne e3 (i := 3) (by decide); have n4 := mg_ne e4 (i := 4) (by decide); have n5 := mg_ne e5 (i := 5) (by decide); have n6 := mg_ne e6 (i := 6) (by decide); have n7 := mg_ne e7 (i := 7) (by decide); have n8 := mg_ne e8 (i := 8) (by decide); have n9 := mg_ne e9 (i := 9) (by decide); have n10 := mg_ne e10 (i := 10) (by decide); have n11 := mg_ne e11 (i := 11) (by decide); have n12 := mg_ne e12 (i := 12) (by decide); have n13 := mg_ne e13 (i := 13) (by decide); have n14 := mg_ne e14 (i := 14) (by decide); have n15 := mg_ne e15 (i := 15) (by decide); have n16 := mg_ne e16 (i := 16) (by decide); have n17 := mg_ne e17 (i := 17) (by decide); have n18 := mg_ne e18 (i := 18) (by decide); have n19 := mg_ne e19 (i := 19) (by decide); have n20 := mg_ne e20 (i := 20) (by decide); have n21 := mg_ne e21 (i := 21) (by decide); have n22 := mg_ne e22 (i := 22) (by decide); have n23 := mg_ne e23 (i := 23) (by decide); have n24 := mg_ne e24 (i := 24) (by decide); have n25 := mg_ne e25 (i := 25) (by decide); have n26 := mg_ne e26 (i := 26) (by decide); have n27 := mg_ne e27 (i := 27) (by decide); have n28 := mg_ne e28 (i := 28) (by decide); have n29 := mg_ne e29 (i := 29) (by decide); have n30 := mg_ne e30 (i := 30) (by decide); have n31 := mg_ne e31 (i := 31) (by decide); have n32 := mg_ne e32 (i := 32) (by decide); omega) (by decide) ?_
    exact cont c r hc
