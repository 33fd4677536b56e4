/-! boulders in their order -/
theorem bky_z {s : Nat → Int32} {i c d : Nat} (hc : s (34 + 3 * i) = zI c) (hd : s (34 + 3 * i + 1) = zI d) (h1 : c < 1000) (h2 : d < 1000) : bky s i = 1000 * (c : Int) + d := by
  unfold bky
  rw [hc, hd, zI_int (by omega), zI_int (by omega)]
theorem bky_mono {s : Nat → Int32} {W L nb : Nat} (h : QB s W L nb) : ∀ j i, i < j → j < nb → bky s i < bky s j := by
  intro j
  induction j with
  | zero => intro i h1 _; omega
  | succ j ih =>
    intro i h1 h2
    have h3 := h.2 j (by omega)
    by_cases c : i = j
    · subst c; exact h3
    · have := ih i (by omega) (by omega)
      omega
def RK (s : Nat → Int32) (nb : Nat) (key : Int) (r : Nat) : Prop := r ≤ nb ∧ (∀ i, i < r → bky s i < key) ∧ ∀ i, r ≤ i → i < nb → key ≤ bky s i
theorem rk_ex {s : Nat → Int32} {W L : Nat} (key : Int) : ∀ nb, QB s W L nb → ∃ r, RK s nb key r := by
  intro nb
  induction nb with
  | zero => intro _; exact ⟨0, by omega, fun i hi => absurd hi (by omega), fun i _ hi => absurd hi (by omega)⟩
  | succ m ih =>
    intro h
    obtain ⟨r, h1, h2, h3⟩ := ih ⟨fun i hi => h.1 i (by omega), fun i hi => h.2 i (by omega)⟩
    by_cases c : key ≤ bky s m
    · refine ⟨r, by omega, h2, ?_⟩
      intro i hi1 hi2
      by_cases e : i = m
      · subst e; exact c
      · exact h3 i hi1 (by omega)
    · have hr : r = m := by
        by_cases e : r = m
        · exact e
        · have := h3 r (by omega) (by omega)
          have := bky_mono h m r (by omega) (by omega)
          omega
      subst hr
      refine ⟨r + 1, by omega, ?_, ?_⟩
      · intro i hi
        by_cases e : i = r
        · subst e; omega
        · exact h2 i (by omega)
      · intro i hi1 hi2
        omega
theorem c_rank {s bv : Nat → Int32} {W L nb fuel c d r : Nat} (hf : 5000 ≤ fuel) (hWL : W * L ≤ 49) (hB : BR s nb bv) (hQB : QB s W L nb) (hc : c < 1000) (hd : d < 1000) (hr : RK s nb (1000 * (c : Int) + d) r) : f_X0_rankOf fuel (zI nb) bv (zI c) (zI d) = some (zI r) := by
  obtain ⟨h33, hnb, hv⟩ := hB
  obtain ⟨hr1, hr2, hr3⟩ := hr
  have loop : ∀ (q i n : Nat), i + q = nb → q < n → f_X0_rankOf_L5 (zI nb) bv (zI c) (zI d) n (zI ((min i r : Nat) : Int)) (zI i) = some (zI r, zI nb) := by
    intro q
    induction q with
    | zero =>
      intro i n h1 h2
      obtain ⟨n, rfl⟩ : ∃ j, n = j + 1 := ⟨n - 1, by omega⟩
      have : i = nb := by omega
      subst this
      rw [f_X0_rankOf_L5, if_pos (by rw [mt_len (by omega) (by omega)]; omega), show min i r = r by omega]
    | succ q ih =>
      intro i n h1 h2
      obtain ⟨n, rfl⟩ : ∃ j, n = j + 1 := ⟨n - 1, by omega⟩
      obtain ⟨ci, di, e1, e2, e3, e4, e5⟩ := hQB.1 i (by omega)
      have hk := bky_z e1 e3 (by omega) (by omega)
      rw [f_X0_rankOf_L5, if_neg (by rw [mt_len (by omega) (by omega)]; omega), show (0 : Int32) = zI ((0 : Nat) : Int) from rfl, c_get (by omega) (by omega) (by omega) (by omega), Option.bind_some, show (1 : Int32) = zI ((1 : Nat) : Int) from rfl, c_get (by omega) (by omega) (by omega) (by omega), Option.bind_some, hv _ (by omega), hv _ (by omega), mt_p, mt_p, Nat.add_zero, show 34 + (3 * i + 1) = 34 + 3 * i + 1 by omega, e1, e3]
      simp (disch := omega) only [mt_ltn, mt_eqn, mt_len]
      have yes : i < r → f_X0_rankOf_L5 (zI nb) bv (zI c) (zI d) n (zI ((min i r + 1 : Nat) : Int)) (zI ((i + 1 : Nat) : Int)) = some (zI r, zI nb) := by
        intro hi
        rw [show min i r + 1 = min (i + 1) r by omega]
        exact ih (i + 1) n (by omega) (by omega)
      have no : r ≤ i → f_X0_rankOf_L5 (zI nb) bv (zI c) (zI d) n (zI ((min i r : Nat) : Int)) (zI ((i + 1 : Nat) : Int)) = some (zI r, zI nb) := by
        intro hi
        rw [show min i r = min (i + 1) r by omega]
        exact ih (i + 1) n (by omega) (by omega)
      by_cases k1 : ci < c
      · rw [if_pos k1]
        refine yes ?_
        by_cases k : i < r
        · exact k
        · have := hr3 i (by omega) (by omega); omega
      · rw [if_neg k1]
        by_cases k2 : ci = c
        · rw [if_pos k2]
          by_cases k3 : d ≤ di
          · rw [if_pos k3]
            refine no ?_
            by_cases k : r ≤ i
            · exact k
            · have := hr2 i (by omega); omega
          · rw [if_neg k3]
            refine yes ?_
            by_cases k : i < r
            · exact k
            · have := hr3 i (by omega) (by omega); omega
        · rw [if_neg k2]
          refine no ?_
          by_cases k : r ≤ i
          · exact k
          · have := hr2 i (by omega); omega
  have h := loop nb 0 fuel (by omega) (by omega)
  unfold f_X0_rankOf
  rw [Nat.zero_min, show zI ((0 : Nat) : Int) = 0 from rfl] at h
  rw [h, Option.bind_some]
theorem mt_nn {c : Nat} (h : c < 1000) : ¬ (-1000009 : Int32) = zI c := fun e => mt_none c h e.symm
theorem c_first {s bv : Nat → Int32} {W L nb fuel c d r : Nat} (hf : 5000 ≤ fuel) (hWL : W * L ≤ 49) (hB : BR s nb bv) (hQB : QB s W L nb) (hc : c < 1000) (hd : d < 1000) (hr : RK s nb (1000 * (c : Int) + d) r) : f_X0_firstFrom fuel (zI nb) bv (zI c) (zI d) = some (if r < nb ∧ s (34 + 3 * r) = zI c then zI r else (-1000009)) := by
  unfold f_X0_firstFrom
  have hnb := hB.2.1
  rw [c_rank hf hWL hB hQB hc hd hr, Option.bind_some]
  by_cases k : r < nb
  · rw [show (0 : Int32) = zI ((0 : Nat) : Int) from rfl, c_get k (by omega) (by omega) (by omega), Option.bind_some, hB.2.2 _ (by omega), Nat.add_zero]
    by_cases k2 : s (34 + 3 * r) = zI c
    · rw [if_pos k2, if_pos ⟨k, k2⟩]
    · rw [if_neg k2, if_neg (fun h => k2 h.2)]
  · rw [c_get0 (Or.inr (by rw [mt_len (by omega) (by have := hr.1; omega)]; omega)), Option.bind_some, if_neg (mt_nn (by omega)), if_neg (fun h => k h.1)]
theorem c_dep {s bv : Nat → Int32} {nb r : Nat} (hB : BR s nb bv) (hr : r < nb) : f_X0_depthOf (zI nb) bv (zI r) = some (s (34 + 3 * r + 1)) := by
  unfold f_X0_depthOf
  have hnb := hB.2.1
  rw [show (1 : Int32) = zI ((1 : Nat) : Int) from rfl, c_get hr (by omega) (by omega) (by omega), Option.bind_some, hB.2.2 _ (by omega)]
  rfl
/-! where digging ends -/
abbrev stp (s : Nat → Int32) (nb c r : Nat) : Prop := r < nb ∧ s (34 + 3 * r) = zI c
def dlm (s : Nat → Int32) (nb c r t : Nat) : Nat := if stp s nb c r then min t (s (34 + 3 * r + 1)).toInt.toNat else t
def nxb (s : Nat → Int32) (nb D c p am r : Nat) : Nat := max p (dlm s nb c r (min (min (p + am) (D + 12)) 220))
theorem mt_max {m n : Nat} (hm : m < 2147483648) (hn : n < 2147483648) : mg_mx (zI m) (zI n) = zI ((max m n : Nat) : Int) := by
  unfold mg_mx
  simp (disch := omega) only [mt_ltn]
  by_cases h : m < n
  · rw [if_pos h, Nat.max_eq_right (by omega)]
  · rw [if_neg h, Nat.max_eq_left (by omega)]
theorem c_bad {s bv bot : Nat → Int32} {W L nb fuel c p am D r : Nat} (hf : 5000 ≤ fuel) (hWL : W * L ≤ 49) (hB : BR s nb bv) (hQB : QB s W L nb) (hT : TR s bot) (hc : c < W * L) (hp : s (117 + c) = zI p) (hp2 : p ≤ 220) (ham : am ≤ 10) (hD : D ≤ 200) (hr : RK s nb (1000 * (c : Int) + p) r) : f_X5_bottomAfterDigging fuel (zI D) bot (zI nb) bv (zI c) (zI am) = some (zI ((nxb s nb D c p am r : Nat) : Int)) := by
  unfold f_X5_bottomAfterDigging nxb dlm
  rw [mt_bo (by omega), Option.bind_some, hT _ (by omega), hp, c_first hf hWL hB hQB (by omega) (by omega) hr, Option.bind_some, show (12 : Int32) = zI ((12 : Nat) : Int) from rfl, show (220 : Int32) = zI ((220 : Nat) : Int) from rfl, mt_p, mt_p, mt_min (by omega) (by omega), mt_min (by omega) (by omega), mt_max (by omega) (by omega)]
  by_cases k : r < nb ∧ s (34 + 3 * r) = zI c
  · obtain ⟨ci, di, e1, e2, e3, e4, e5⟩ := hQB.1 r k.1
    have hnb := hB.2.1
    rw [if_pos k, if_pos (show stp s nb c r from k), if_neg (mt_none r (by omega)), c_dep hB k.1, Option.bind_some, e3, zI_int (by omega), mt_min (by omega) (by omega), mt_min (by omega) (by omega), mt_max (by omega) (by omega)]
    congr 3
    omega
  · rw [if_neg k, if_neg (show ¬ stp s nb c r from k), if_pos rfl]
    congr 3
    omega
theorem r_sink {s bv : Nat → Int32} {W L nb fuel c p am D r : Nat} (hf : 5000 ≤ fuel) (hWL : W * L ≤ 49) (hB : BR s nb bv) (hQB : QB s W L nb) (hc : c < W * L) (hp : s (117 + c) = zI p) (hp2 : p ≤ 220) (ham : am ≤ 10) (hD2 : s 2 = zI D) (hD : D ≤ 200) (hr : RK s nb (1000 * (c : Int) + p) r) : f_X9_sinkable fuel s (zI c) (zI am) = some (zI ((nxb s nb D c p am r - p : Nat) : Int)) := by
  obtain ⟨h33, hnb, hv⟩ := hB
  obtain ⟨hr1, hr2, hr3⟩ := id hr
  have loop : ∀ (q i n t0 : Nat), t0 ≤ 300 → i + q = nb → q < n → f_X9_sinkable_L66 s (zI c) (zI p) n (zI ((if i ≤ r then t0 else dlm s nb c r t0 : Nat) : Int)) (zI i) = some (zI ((dlm s nb c r t0 : Nat) : Int), zI nb) := by
    intro q
    induction q with
    | zero =>
      intro i n t0 h0 h1 h2
      obtain ⟨n, rfl⟩ : ∃ j, n = j + 1 := ⟨n - 1, by omega⟩
      have : i = nb := by omega
      subst this
      rw [f_X9_sinkable_L66, h33, if_pos (by rw [mt_len (by omega) (by omega)]; omega)]
      congr 4
      split
      · have : ¬ stp s i c r := fun h => by have := h.1; omega
        rw [dlm, if_neg this]
      · rfl
    | succ q ih =>
      intro i n t0 h0 h1 h2
      obtain ⟨n, rfl⟩ : ∃ j, n = j + 1 := ⟨n - 1, by omega⟩
      obtain ⟨ci, di, e1, e2, e3, e4, e5⟩ := hQB.1 i (by omega)
      have hk := bky_z e1 e3 (by omega) (by omega)
      have hdl : dlm s nb c r t0 ≤ t0 := by unfold dlm; split <;> omega
      rw [f_X9_sinkable_L66, h33, if_neg (by rw [mt_len (by omega) (by omega)]; omega), mt_343, mt_p1, if_pos (mt_ixn (by omega) (by omega)), if_pos (mt_ixn (by omega) (by omega)), mt_cln (by omega), mt_cln (by omega), e1, e3, mt_s1]
      have iht := ih (i + 1) n t0 h0 (by omega) (by omega)
      by_cases k1 : i < r
      · rw [if_pos (show i + 1 ≤ r by omega)] at iht
        rw [if_pos (show i ≤ r by omega)]
        simp (disch := omega) only [mt_ltn, mt_eqn, mt_len]
        have hb := hr2 i k1
        by_cases k2 : ci = c
        · rw [if_pos k2, if_pos (by omega)]; exact iht
        · rw [if_neg k2]; exact iht
      · rw [if_neg (show ¬ i + 1 ≤ r by omega)] at iht
        have hb := hr3 i (by omega) (by omega)
        by_cases k3 : i = r
        · subst k3
          rw [if_pos (Nat.le_refl i)]
          simp (disch := omega) only [mt_ltn, mt_eqn, mt_len]
          by_cases k2 : ci = c
          · rw [if_pos k2, if_neg (show ¬ di < p by omega)]
            have hs : stp s nb c i := ⟨by omega, by rw [e1, k2]⟩
            have hdm : dlm s nb c i t0 = min t0 di := by rw [dlm, if_pos hs, e3, zI_int (by omega)]; rfl
            rw [hdm] at iht ⊢
            by_cases k4 : t0 ≤ di
            · rw [if_pos k4]
              rw [show min t0 di = t0 by omega] at iht ⊢
              exact iht
            · rw [if_neg k4]
              rw [show min t0 di = di by omega] at iht ⊢
              exact iht
          · rw [if_neg k2]
            have hs : ¬ stp s nb c i := by
              intro h
              have := h.2
              rw [e1, mt_eqn (by omega) (by omega)] at this
              exact k2 this
            have hdm : dlm s nb c i t0 = t0 := by rw [dlm, if_neg hs]
            rw [hdm] at iht ⊢
            exact iht
        · rw [if_neg (show ¬ i ≤ r by omega)]
          simp (disch := omega) only [mt_ltn, mt_eqn, mt_len]
          by_cases k2 : ci = c
          · obtain ⟨cr, dr, g1, g2, g3, g4, g5⟩ := hQB.1 r (by omega)
            have hkr := bky_z g1 g3 (by omega) (by omega)
            have hbr := hr3 r (by omega) (by omega)
            have hbm := bky_mono hQB i r (by omega) (by omega)
            have hcr : cr = c := by omega
            have hs : stp s nb c r := ⟨by omega, by rw [g1, hcr]⟩
            have hdm : dlm s nb c r t0 = min t0 dr := by rw [dlm, if_pos hs, g3, zI_int (by omega)]; rfl
            rw [if_pos k2, if_neg (show ¬ di < p by omega), if_pos (by omega)]
            exact iht
          · rw [if_neg k2]
            exact iht
  have J : ∀ t0 : Nat, t0 ≤ 300 → f_X9_sinkable_J61 fuel s (zI c) (zI p) (zI t0) = some (zI ((max p (dlm s nb c r t0) - p : Nat) : Int)) := by
    intro t0 h0
    have hdl : dlm s nb c r t0 ≤ t0 := by unfold dlm; split <;> omega
    unfold f_X9_sinkable_J61
    have h := loop nb 0 fuel t0 h0 (by omega) (by omega)
    rw [if_pos (Nat.zero_le r), show zI ((0 : Nat) : Int) = 0 from rfl] at h
    rw [h, Option.bind_some]
    simp (disch := omega) only [mt_len]
    by_cases k : dlm s nb c r t0 ≤ p
    · rw [if_pos k, show max p (dlm s nb c r t0) - p = 0 by omega]; rfl
    · rw [if_neg k, mt_sbn (by omega), show max p (dlm s nb c r t0) - p = dlm s nb c r t0 - p by omega]
  unfold f_X9_sinkable nxb
  rw [show (117 : Int32) = zI ((117 : Nat) : Int) from rfl, mt_p, if_pos (mt_ixn (by omega) (by omega)), mt_cln (by omega), hp, hD2, show (12 : Int32) = zI ((12 : Nat) : Int) from rfl, mt_p, mt_p]
  simp (disch := omega) only [mt_len]
  unfold f_X9_sinkable_J43
  rw [show (220 : Int32) = zI ((220 : Nat) : Int) from rfl]
  simp (disch := omega) only [mt_len]
  by_cases k1 : p + am ≤ D + 12
  · rw [if_pos k1, J _ (by omega), J _ (by omega)]
    by_cases k2 : p + am ≤ 220
    · rw [if_pos k2, show min (min (p + am) (D + 12)) 220 = p + am by omega]
    · rw [if_neg k2, show min (min (p + am) (D + 12)) 220 = 220 by omega]
  · rw [if_neg k1, J _ (by omega), J _ (by omega)]
    by_cases k2 : D + 12 ≤ 220
    · rw [if_pos k2, show min (min (p + am) (D + 12)) 220 = D + 12 by omega]
    · rw [if_neg k2, show min (min (p + am) (D + 12)) 220 = 220 by omega]
theorem nxb_le {s : Nat → Int32} {nb D c p am r : Nat} (hp : p ≤ 220) : p ≤ nxb s nb D c p am r ∧ nxb s nb D c p am r ≤ 220 := by
  have hdl : ∀ t, dlm s nb c r t ≤ t := by intro t; unfold dlm; split <;> omega
  unfold nxb
  have := hdl (min (min (p + am) (D + 12)) 220)
  omega
theorem m_dig {v : sv_T} {s past : Nat → Int32} {nx ct ps : Int32} {sv : Nat → sv_T} {fuel : Nat} (hf : 5000 ≤ fuel) (h : SRE v s) (hH : HR nx ct sv ps past) (aside : Nat → Int32) (x y : Int32) : TS (fun q : sv_T => (v.1, v.2.1, v.2.2.1, v.2.2.2.1, v.2.2.2.2.1, v.2.2.2.2.2.1, v.2.2.2.2.2.2.1, v.2.2.2.2.2.2.2.1, v.2.2.2.2.2.2.2.2.1, v.2.2.2.2.2.2.2.2.2.1, v.2.2.2.2.2.2.2.2.2.2.1, v.2.2.2.2.2.2.2.2.2.2.2.1, v.2.2.2.2.2.2.2.2.2.2.2.2.1, v.2.2.2.2.2.2.2.2.2.2.2.2.2.1, q.2.2.2.2.2.2.2.2.2.2.2.2.2.2.1, q.2.2.2.2.2.2.2.2.2.2.2.2.2.2.2.1, q.2.2.2.2.2.2.2.2.2.2.2.2.2.2.2.2)) (f_X8_dig fuel v nx ct sv x y) (f_X9_dig fuel ps aside past s x y) := by
  have hS := h
  obtain ⟨W, L, nl, nb, nr, D, a, b, bal, bv, lv, lub, bot, rv, rfl, hG, hP, hw, hQW, hR, hB, hQB, hA, hQA, hU, hT, hQT, hRR⟩ := h
  obtain ⟨nx', ct', ps', sv', past', e1, e2, hH'⟩ := push hf hS hH aside
  obtain ⟨h0, h1, hW, hL⟩ := id hG
  have h49 := mt_WL hW.2 hL.2
  unfold f_X8_dig f_X9_dig
  rw [fI_in]
  dsimp only
  rcases mt_cell hW hL x with ⟨c, hc, rfl⟩ | hx
  · have ci : f_X5_isWell (s 0) (s 1) (zI c) = some (if edg W L (c % W) (c / W) then 0 else 1) := by rw [h0, h1]; exact c_isWell hW hL hc
    rw [ci, r_isWell hG hc, Option.bind_some, Option.bind_some]
    by_cases k : edg W L (c % W) (c / W)
    · rw [if_pos k, if_pos rfl, if_pos rfl]; exact TS_stay rfl hS hH
    · rw [if_neg k, if_neg n10, if_neg n10]
      rcases mt_win y 1 10 (l := 1) (h := 10) rfl rfl (by omega) (by omega) with ⟨am, rfl, h3, h4, e⟩ | e
      · obtain ⟨p, hp, hp2⟩ := hQT c (by omega)
        obtain ⟨r, hr⟩ := rk_ex (s := s) (W := W) (L := L) (1000 * (c : Int) + p) nb hQB
        have cb := c_bad hf h49 hB hQB hT hc hp hp2 h4 hP.2.1 hr
        have hle := nxb_le (s := s) (nb := nb) (D := D) (c := c) (am := am) (r := r) hp2
        rw [← hP.1, ← hB.1] at cb
        have hbp : bot c = zI p := by rw [hT c (by omega), hp]
        rw [e, Option.bind_some, if_neg n10, Option.bind_some, if_neg n10, mt_bo (by omega), Option.bind_some, hbp, cb, Option.bind_some, r_sink hf h49 hB hQB hc hp hp2 h4 hP.1 hP.2.1 hr, Option.bind_some, show (117 : Int32) = zI ((117 : Nat) : Int) from rfl, mt_p, mt_cln (by omega), hp]
        simp (disch := omega) only [mt_ltn, mt_eq0]
        by_cases k2 : p < nxb s nb D c p am r
        · rw [if_pos k2, if_neg (show ¬ nxb s nb D c p am r - p = 0 by omega), e1, Option.bind_some, r_hold hf, Option.bind_some, mt_pb (by omega), Option.bind_some, if_pos (mt_ixn (by omega) (by omega)), if_pos (mt_ixn (by omega) (by omega)), mt_p, show p + (nxb s nb D c p am r - p) = nxb s nb D c p am r by omega]
          have h2 : SRE (s 0, s 1, s 5, s 7, s 6, bal, s 33, bv, s 8, lv, lub, s 2, s 3, s 4, upd bot c (zI ((nxb s nb D c p am r : Nat) : Int)), s 166, rv) (upd s (117 + c) (zI ((nxb s nb D c p am r : Nat) : Int))) := by
            refine ⟨W, L, nl, nb, nr, D, a, b, ⟨bal, bv, lv, lub, upd bot c (zI ((nxb s nb D c p am r : Nat) : Int)), rv, by rw [up_ne (by omega), up_ne (by omega), up_ne (by omega), up_ne (by omega), up_ne (by omega), up_ne (by omega), up_ne (by omega), up_ne (by omega), up_ne (by omega), up_ne (by omega), up_ne (by omega)], GR_c (up_ne (by omega)) (up_ne (by omega)) hG, PR_c (up_ne (by omega)) (up_ne (by omega)) (up_ne (by omega)) hP, WR_c (up_ne (by omega)) hw, QW_c (up_ne (by omega)) hQW, LR_c (fun k _ _ => up_ne (by omega)) hR, BR_c (fun k _ _ => up_ne (by omega)) hB, QB_c hB.2.1 (fun k _ _ => up_ne (by omega)) hQB, AR_c (fun k _ _ => up_ne (by omega)) hA, QA_c (fun k _ _ => up_ne (by omega)) hQA, UR_c (fun k _ _ => up_ne (by omega)) hU, ?_, ?_, RR_c (fun k _ _ => up_ne (by omega)) hRR⟩⟩
            · intro k hk
              by_cases ck : k = c
              · subst ck; rw [up_eq, up_eq]
              · rw [up_ne ck, up_ne (by omega)]; exact hT k hk
            · intro k hk
              by_cases ck : k = c
              · subst ck; rw [up_eq]; exact ⟨_, rfl, hle.2⟩
              · rw [up_ne (by omega)]; exact hQT k hk
          obtain ⟨rc, rv', s', f1, f2, f3, f4⟩ := recs hf h2 0 (zI c)
          rw [f1, f2, Option.bind_some, Option.bind_some, e2, Option.bind_some, mt_sbn hle.1]
          exact ⟨_, _, rfl, rfl, rfl, f4, hH'⟩
        · rw [if_neg k2, if_pos (show nxb s nb D c p am r - p = 0 by omega)]; exact TS_stay rfl hS hH
      · rw [e]; exact TS_stay rfl hS hH
  · have ci : f_X5_isWell (s 0) (s 1) x = some 0 := by rw [h0, h1]; exact c_isWell0 hx
    rw [ci, r_isWell0 hG hx]; exact TS_stay rfl hS hH
theorem t_dig : MT_dig Cpl := by
  intro fuel hf c r x1 x2 h
  obtain ⟨q1, q2, e1, e2, e3, e4, e5⟩ := m_dig hf h.1 h.2.1 _ x1 x2
  exact ⟨q1, q2, e1, e2, e3, e4, e5, h.2.2.1, h.2.2.2⟩
