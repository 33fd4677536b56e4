/-! the best well -/
def KP (s kp : Nat → Int32) : Prop := (∀ k, k < 49 → kp k = s (117 + k)) ∧ ∀ k, k < 3 → kp (49 + k) = s (2 + k)
theorem r_keeps {s bt : Nat → Int32} {fuel : Nat} (hf : 5000 ≤ fuel) : ∃ kp, f_X9_keeps fuel bt s = some kp ∧ KP s kp := by
  unfold f_X9_keeps
  have h1 := mt_fillo (F := f_X9_keeps_L2 s) (N := 49) (o := 0) (g := fun i => s (117 + i)) (fun n a => by rw [f_X9_keeps_L2, if_pos (by decide)]) (fun n i a hi => by
    rw [f_X9_keeps_L2, if_neg (by rw [show (49 : Int32) = zI ((49 : Nat) : Int) from rfl, mt_len (by omega) (by omega)]; omega), show (117 : Int32) = zI ((117 : Nat) : Int) from rfl, mt_p, if_pos (mt_ixn (by omega) (by omega)), if_pos (mt_ixn (by omega) (by omega)), mt_cln (by omega), mt_cln (by omega), mt_s1, Nat.zero_add]) 49 fuel 0 bt (by omega) (by omega)
  rw [show zI ((0 : Nat) : Int) = 0 from rfl] at h1
  rw [h1, Option.bind_some]
  dsimp only
  have h2 := mt_fillo (F := f_X9_keeps_L31 s) (N := 3) (o := 49) (g := fun i => s (2 + i)) (fun n a => by rw [f_X9_keeps_L31, if_pos (by decide)]) (fun n i a hi => by
    rw [f_X9_keeps_L31, if_neg (by rw [show (3 : Int32) = zI ((3 : Nat) : Int) from rfl, mt_len (by omega) (by omega)]; omega), show (2 : Int32) = zI ((2 : Nat) : Int) from rfl, show (49 : Int32) = zI ((49 : Nat) : Int) from rfl, mt_p, mt_p, if_pos (mt_ixn (by omega) (by omega)), if_pos (mt_ixn (by omega) (by omega)), mt_cln (by omega), mt_cln (by omega), mt_s1]) 3 fuel 0 (fun j => if 0 + 0 ≤ j ∧ j < 0 + 49 then s (117 + (j - 0)) else bt j) (by omega) (by omega)
  rw [show zI ((0 : Nat) : Int) = 0 from rfl] at h2
  rw [h2, Option.bind_some]
  refine ⟨_, rfl, ?_, ?_⟩
  · intro k hk
    dsimp only
    rw [if_neg (by omega), if_pos (by omega), Nat.sub_zero]
  · intro k hk
    dsimp only
    rw [if_pos (by omega), Nat.add_sub_cancel_left]
theorem r_returns {s s' kp : Nat → Int32} {fuel : Nat} (hf : 5000 ≤ fuel) (hk : KP s kp) (he : ∀ k, k < 2 ∨ 5 ≤ k → k < 117 ∨ 166 ≤ k → s' k = s k) : f_X9_returns fuel kp s' = some s := by
  unfold f_X9_returns
  have h1 := mt_fillo (F := f_X9_returns_L2 kp) (N := 49) (o := 117) (g := kp) (fun n a => by rw [f_X9_returns_L2, if_pos (by decide)]) (fun n i a hi => by
    rw [f_X9_returns_L2, if_neg (by rw [show (49 : Int32) = zI ((49 : Nat) : Int) from rfl, mt_len (by omega) (by omega)]; omega), show (117 : Int32) = zI ((117 : Nat) : Int) from rfl, mt_p, if_pos (mt_ixn (by omega) (by omega)), if_pos (mt_ixn (by omega) (by omega)), mt_cln (by omega), mt_cln (by omega), mt_s1]) 49 fuel 0 s' (by omega) (by omega)
  rw [show zI ((0 : Nat) : Int) = 0 from rfl] at h1
  rw [h1, Option.bind_some]
  dsimp only
  have h2 := mt_fillo (F := f_X9_returns_L31 kp) (N := 3) (o := 2) (g := fun i => kp (49 + i)) (fun n a => by rw [f_X9_returns_L31, if_pos (by decide)]) (fun n i a hi => by
    rw [f_X9_returns_L31, if_neg (by rw [show (3 : Int32) = zI ((3 : Nat) : Int) from rfl, mt_len (by omega) (by omega)]; omega), show (2 : Int32) = zI ((2 : Nat) : Int) from rfl, show (49 : Int32) = zI ((49 : Nat) : Int) from rfl, mt_p, mt_p, if_pos (mt_ixn (by omega) (by omega)), if_pos (mt_ixn (by omega) (by omega)), mt_cln (by omega), mt_cln (by omega), mt_s1]) 3 fuel 0 (fun j => if 117 + 0 ≤ j ∧ j < 117 + 49 then kp (j - 117) else s' j) (by omega) (by omega)
  rw [show zI ((0 : Nat) : Int) = 0 from rfl] at h2
  rw [h2, Option.bind_some]
  congr 1
  funext j
  dsimp only
  by_cases c1 : 2 + 0 ≤ j ∧ j < 2 + 3
  · rw [if_pos c1, hk.2 (j - 2) (by omega)]; congr 1; omega
  · rw [if_neg c1]
    by_cases c2 : 117 + 0 ≤ j ∧ j < 117 + 49
    · rw [if_pos c2, hk.1 (j - 117) (by omega)]; congr 1; omega
    · rw [if_neg c2]; exact he j (by omega) (by omega)
theorem r_tilted (s : Nat → Int32) : f_X9_tilted s = some (mg_ab (s 3) + mg_ab (s 4)) := by
  unfold f_X9_tilted
  rw [r_size, Option.bind_some, r_size, Option.bind_some]
theorem mt_abn : ∀ n : Fin 11, ∃ m : Fin 6, mg_ab (zI ((n.val : Int) - 5)) = zI (m.val : Int) := by decide +kernel
theorem mt_abn' {z : Int} (h : -5 ≤ z ∧ z ≤ 5) : ∃ m : Nat, mg_ab (zI z) = zI m ∧ m ≤ 5 := by
  obtain ⟨m, hm⟩ := mt_abn ⟨(z + 5).toNat, by omega⟩
  dsimp only at hm
  rw [show (((z + 5).toNat : Int) - 5) = z by omega] at hm
  exact ⟨m.val, hm, by omega⟩
theorem mt_tsum {a b : Int} (ha : -5 ≤ a ∧ a ≤ 5) (hb : -5 ≤ b ∧ b ≤ 5) : ∃ m : Nat, mg_ab (zI a) + mg_ab (zI b) = zI m ∧ m ≤ 10 := by
  obtain ⟨m, h1, h2⟩ := mt_abn' ha
  obtain ⟨n, h3, h4⟩ := mt_abn' hb
  exact ⟨m + n, by rw [h1, h3, mt_p], by omega⟩
/-- what digging at a well and settling leads to -/
def CH (fuel : Nat) (s : Nat → Int32) (W L am c : Nat) (cd ca cb : Int32) (cbot : Nat → Int32) : Prop := c < W * L ∧ ∃ (g : Int32) (s' : Nat → Int32) (D' : Nat) (a' b' : Int), f_X9_sinkable fuel s (zI c) (zI am) = some g ∧ f_X9_settlesIfLoose fuel (upd s (117 + c) (s (117 + c) + g)) = some s' ∧ PO s' D' a' b' cbot ∧ (∀ k, k < 2 ∨ 5 ≤ k → k < 117 ∨ 166 ≤ k → s' k = s k) ∧ cd = zI D' ∧ ca = zI a' ∧ cb = zI b'
def BI (fuel : Nat) (s : Nat → Int32) (W L am : Nat) (x cd ca cb : Int32) (cbot : Nat → Int32) (tt dd : Int32) : Prop := x = -1000009 ∨ ∃ c : Nat, x = zI c ∧ CH fuel s W L am c cd ca cb cbot ∧ tt = mg_ab ca + mg_ab cb ∧ dd = cd
theorem c_better {D D' : Nat} {a b a' b' : Int} (hD : D ≤ 200) (hD' : D' ≤ 200) (ha : -5 ≤ a ∧ a ≤ 5) (hb : -5 ≤ b ∧ b ≤ 5) (ha' : -5 ≤ a' ∧ a' ≤ 5) (hb' : -5 ≤ b' ∧ b' ≤ 5) : f_X1_isBetterThanChosen (zI D) (zI a) (zI b) (zI D') (zI a') (zI b') = some (if mg_ab (zI a) + mg_ab (zI b) < mg_ab (zI a') + mg_ab (zI b') then 1 else if mg_ab (zI a) + mg_ab (zI b) = mg_ab (zI a') + mg_ab (zI b') then (if zI D ≤ zI D' then 0 else 1) else 0) := by
  unfold f_X1_isBetterThanChosen f_X4_tiltSum
  obtain ⟨m, h1, h2⟩ := mt_tsum ha hb
  obtain ⟨n, h3, h4⟩ := mt_tsum ha' hb'
  rw [Option.bind_some, Option.bind_some, h1, h3, zI_sub, show (0 : Int32) = zI 0 from rfl]
  simp (disch := omega) only [zI_lt, zI_eq]
  by_cases c1 : (m : Int) < n
  · rw [if_pos (by omega), if_pos c1]
  · rw [if_neg (by omega), if_neg c1]
    by_cases c2 : (m : Int) = n
    · rw [if_pos (by omega), if_pos c2, mt_sif]
    · rw [if_neg (by omega), if_neg c2]
theorem bestL {s bal bv lv lub bot kp : Nat → Int32} {W L nl nb fuel D am : Nat} {a b : Int} {E5 E6 E7 : Int32} (hf : 5000 ≤ fuel) (hE : EV s W L nl nb E5 E6 E7 bal bv lv lub) (hO : PO s D a b bot) (ham : am ≤ 10) (hkp : KP s kp) : ∀ (r k n : Nat) (x e0 e1 e2 n1 n2 cd ca cb : Int32) (cbot : Nat → Int32) (td ta tb : Int32) (tbot : Nat → Int32) (tt dd : Int32), BI fuel s W L am x cd ca cb cbot tt dd → k + r = W * L → r < n → ∃ (x' y0 y1 y2 y3 y4 zd za zb : Int32) (zbot : Nat → Int32) (ud ua ub : Int32) (ubot : Nat → Int32) (tt' dd' z z' : Int32), f_X1_chooseWell_L23 fuel (zI D) (zI a) (zI b) bot (zI W) (zI L) E5 E7 E6 bal (zI nb) bv (zI nl) lv lub (zI am) (zI ((W * L : Nat) : Int)) n x (zI k) e0 e1 e2 n1 n2 cd ca cb cbot td ta tb tbot = some (x', z, y0, y1, y2, y3, y4, zd, za, zb, zbot, ud, ua, ub, ubot) ∧ f_X9_best_L15 fuel kp (zI am) n x tt dd (zI k) s = some (x', tt', dd', z', s) ∧ BI fuel s W L am x' zd za zb zbot tt' dd' := by
  obtain ⟨hG, hw, hQW, hR, hB, hQB, hA, hQA, hU, h5, h6, h7⟩ := id hE
  obtain ⟨k0, k1, hW, hL⟩ := id hG
  have h49 := mt_WL hW.2 hL.2
  intro r
  induction r with
  | zero =>
    intro k n x e0 e1 e2 n1 n2 cd ca cb cbot td ta tb tbot tt dd hI h1 h2
    obtain ⟨n, rfl⟩ : ∃ j, n = j + 1 := ⟨n - 1, by omega⟩
    rw [f_X1_chooseWell_L23, f_X9_best_L15, r_cells hG, Option.bind_some, if_pos (by rw [mt_len (by omega) (by omega)]; omega), Nat.mul_comm L W, if_pos (by rw [mt_len (by omega) (by omega)]; omega)]
    exact ⟨_, _, _, _, _, _, _, _, _, _, _, _, _, _, _, _, _, _, rfl, rfl, hI⟩
  | succ r ih =>
    intro k n x e0 e1 e2 n1 n2 cd ca cb cbot td ta tb tbot tt dd hI h1 h2
    obtain ⟨n, rfl⟩ : ∃ j, n = j + 1 := ⟨n - 1, by omega⟩
    have hk : k < W * L := by omega
    rw [f_X1_chooseWell_L23, f_X9_best_L15, r_cells hG, Option.bind_some, if_neg (by rw [mt_len (by omega) (by omega)]; omega), Nat.mul_comm L W, if_neg (by rw [mt_len (by omega) (by omega)]; omega), c_isWell hW hL hk, r_isWell hG hk, Option.bind_some, Option.bind_some, mt_s1]
    by_cases kE : edg W L (k % W) (k / W)
    · rw [if_pos kE, if_pos rfl, if_pos rfl]
      unfold f_X9_best_J44
      rw [if_pos (by decide), mt_s1]
      exact ih (k + 1) n x e0 e1 e2 n1 n2 cd ca cb cbot td ta tb tbot tt dd hI (by omega) (by omega)
    · obtain ⟨p, hp, hp2⟩ := hO.2.2 k (by omega)
      obtain ⟨rr, hr⟩ := rk_ex (s := s) (W := W) (L := L) (1000 * (k : Int) + p) nb hQB
      have hle := nxb_le (s := s) (nb := nb) (D := D) (c := k) (am := am) (r := rr) hp2
      have hbp : bot k = zI p := by rw [hO.2.1 k (by omega), hp]
      have hsk := r_sink hf h49 hB hQB hk hp hp2 ham hO.1.1 hO.1.2.1 hr
      have hix : mg_ix (zI ((117 + k : Nat) : Int)) 227 = true := mt_ixn (by omega) (by omega)
      have hcl : (zI ((117 + k : Nat) : Int)).toNatClampNeg = 117 + k := mt_cln (by omega)
      have hbo : f_X4_bottomOf bot (zI (k : Int)) = some (zI p) := by rw [mt_bo (by omega), hbp]
      have hpb : ∀ (f : Nat → Int32) (x : Int32), f_X4_putBottom f (zI (k : Int)) x = some (upd f k x) := fun f x => mt_pb (by omega)
      have hsu : s (117 + k) + zI ((nxb s nb D k p am rr - p : Nat) : Int) = zI ((nxb s nb D k p am rr : Nat) : Int) := by rw [hp, mt_p]; congr 2; omega
      rw [if_neg kE, if_neg n10, if_neg n10, c_bad hf h49 hB hQB hO.2.1 hk hp hp2 ham hO.1.2.1 hr, Option.bind_some, hsk, Option.bind_some]
      unfold f_X9_best_J44
      rw [show (117 : Int32) = zI ((117 : Nat) : Int) from rfl, mt_p, mt_s1]
      simp (disch := omega) only [hix, hcl, hbo, hpb, Option.bind_some, ↓reduceIte, mt_ltn, hsu]
      by_cases kB : p < nxb s nb D k p am rr
      · have hn0 : ¬ zI ((nxb s nb D k p am rr - p : Nat) : Int) ≤ 0 := by
          rw [show (0 : Int32) = zI ((0 : Nat) : Int) from rfl, mt_len (by omega) (by omega)]; omega
        have hE1 : EV (upd s (117 + k) (zI ((nxb s nb D k p am rr : Nat) : Int))) W L nl nb E5 E6 E7 bal bv lv lub := EV_c (fun k _ _ => up_ne (by omega)) hE
        have hO1 := PO_dug (PO_cp tbot hO) (show k < 49 by omega) hle.2
        obtain ⟨m, s', bot', D', a', b', y0, y1, y2, y3, y4, q1, q2, q3, q4⟩ := loose hf hE1 hO1 n1 n2
        have q3' : ∀ k, k < 2 ∨ 5 ≤ k → k < 117 ∨ 166 ≤ k → s' k = s k := fun j hj1 hj2 => by rw [q3 j hj1 hj2, up_ne (by omega)]
        have ret := r_returns hf hkp q3'
        have s3 : s' 3 = zI a' := q2.1.2.2.1
        have s4 : s' 4 = zI b' := q2.1.2.2.2.2.1
        have s2 : s' 2 = zI D' := q2.1.1
        have hnew : ∀ g : Nat → Int32, BI fuel s W L am (zI k) (zI D') (zI a') (zI b') (va_cpy bot' g 0 0 49) (mg_ab (zI a') + mg_ab (zI b')) (zI D') := by
          intro g
          right
          exact ⟨k, rfl, ⟨hk, _, s', D', a', b', hsk, by rw [hsu]; exact q4, PO_cp g q2, q3', rfl, rfl, rfl⟩, rfl, rfl⟩
        rw [if_pos kB, if_neg hn0, c_cp4, Option.bind_some]
        dsimp only
        rw [q1, Option.bind_some, q4, Option.bind_some]
        unfold f_X9_best_J101
        simp only [r_tilted, Option.bind_some, ret, s2, s3, s4, c_cp4, mt_s1]
        rcases hI with hx | ⟨c, hx, hC, ht, hd⟩
        · rw [if_pos hx, if_pos (by rw [hx]; decide)]
          exact ih (k + 1) n _ _ _ _ _ _ _ _ _ _ _ _ _ _ _ _ (hnew cbot) (by omega) (by omega)
        · have hI2 : BI fuel s W L am x cd ca cb cbot tt dd := Or.inr ⟨c, hx, hC, ht, hd⟩
          obtain ⟨hc, g, s'', D'', a'', b'', w1, w2, w3, w4, w5, w6, w7⟩ := hC
          have cb' := c_better (D := D') (D' := D'') (a := a') (b := b') (a' := a'') (b' := b'') q2.1.2.1 w3.1.2.1 q2.1.2.2.2.1 q2.1.2.2.2.2.2 w3.1.2.2.2.1 w3.1.2.2.2.2.2
          rw [if_neg (by rw [hx]; exact mt_none c (by omega)), if_neg (by rw [hx]; exact mt_ge0 (by omega)), w5, w6, w7, cb', Option.bind_some, ht, hd, w5, w6, w7]
          rw [w5, w6, w7, ht, hd, w5, w6, w7] at hI2
          by_cases c1 : mg_ab (zI a') + mg_ab (zI b') < mg_ab (zI a'') + mg_ab (zI b'')
          · rw [if_pos c1, if_pos c1, if_neg n10]
            exact ih (k + 1) n _ _ _ _ _ _ _ _ _ _ _ _ _ _ _ _ (hnew cbot) (by omega) (by omega)
          · rw [if_neg c1, if_neg c1]
            by_cases c2 : mg_ab (zI a') + mg_ab (zI b') = mg_ab (zI a'') + mg_ab (zI b'')
            · rw [if_pos c2, if_pos c2]
              by_cases c3 : zI (D' : Int) ≤ zI D''
              · rw [if_pos c3, if_pos c3, if_pos rfl]
                exact ih (k + 1) n _ _ _ _ _ _ _ _ _ _ _ _ _ _ _ _ hI2 (by omega) (by omega)
              · rw [if_neg c3, if_neg c3, if_neg n10]
                exact ih (k + 1) n _ _ _ _ _ _ _ _ _ _ _ _ _ _ _ _ (hnew cbot) (by omega) (by omega)
            · rw [if_neg c2, if_neg c2, if_pos rfl]
              exact ih (k + 1) n _ _ _ _ _ _ _ _ _ _ _ _ _ _ _ _ hI2 (by omega) (by omega)
      · rw [if_neg kB, if_pos (show zI ((nxb s nb D k p am rr - p : Nat) : Int) ≤ 0 by rw [show (0 : Int32) = zI ((0 : Nat) : Int) from rfl, mt_len (by omega) (by omega)]; omega)]
        exact ih (k + 1) n x e0 e1 e2 n1 n2 cd ca cb cbot td ta tb tbot tt dd hI (by omega) (by omega)
theorem bestW {s bal bv lv lub bot : Nat → Int32} {W L nl nb fuel D am : Nat} {a b : Int} {E5 E6 E7 : Int32} (hf : 5000 ≤ fuel) (hE : EV s W L nl nb E5 E6 E7 bal bv lv lub) (hO : PO s D a b bot) (ham : am ≤ 10) (bt : Nat → Int32) (e0 e1 e2 n1 n2 cd ca cb : Int32) (cbot : Nat → Int32) (td ta tb : Int32) (tbot : Nat → Int32) : ∃ (x y0 y1 y2 y3 y4 zd za zb : Int32) (zbot : Nat → Int32) (ud ua ub : Int32) (ubot kp : Nat → Int32), f_X1_chooseWell fuel (zI D) (zI a) (zI b) bot e0 e1 e2 n1 n2 cd ca cb cbot (zI W) (zI L) E5 E7 E6 bal (zI nb) bv (zI nl) lv lub td ta tb tbot (zI am) = some (x, y0, y1, y2, y3, y4, zd, za, zb, zbot, ud, ua, ub, ubot) ∧ f_X9_best fuel bt s (zI am) = some (x, kp, s) ∧ (x = -1000009 ∨ ∃ c : Nat, x = zI c ∧ CH fuel s W L am c zd za zb zbot) := by
  obtain ⟨k0, k1, hW, hL⟩ := id hE.1
  have h49 := mt_WL hW.2 hL.2
  obtain ⟨kp, hk1, hk2⟩ := r_keeps (s := s) (bt := bt) hf
  obtain ⟨x', y0, y1, y2, y3, y4, zd, za, zb, zbot, ud, ua, ub, ubot, tt', dd', z, z', q1, q2, q3⟩ := bestL hf hE hO ham hk2 (W * L) 0 fuel (-1000009) e0 e1 e2 n1 n2 cd ca cb cbot td ta tb tbot 0 0 (Or.inl rfl) (by omega) (by omega)
  rw [show zI ((0 : Nat) : Int) = 0 from rfl] at q1 q2
  refine ⟨x', y0, y1, y2, y3, y4, zd, za, zb, zbot, ud, ua, ub, ubot, kp, ?_, ?_, ?_⟩
  · unfold f_X1_chooseWell
    rw [zI_mul, ← Int.natCast_mul, q1, Option.bind_some]
  · unfold f_X9_best
    rw [hk1, Option.bind_some, q2, Option.bind_some]
  · rcases q3 with h | ⟨c, h1, h2, _⟩
    · exact Or.inl h
    · exact Or.inr ⟨c, h1, h2⟩
theorem m_bestWell {v : sv_T} {s : Nat → Int32} {fuel : Nat} (hf : 5000 ≤ fuel) (h : SRE v s) (bt : Nat → Int32) (e0 e1 e2 n1 n2 cd ca cb : Int32) (cbot : Nat → Int32) (td ta tb : Int32) (tbot : Nat → Int32) (x : Int32) : ∃ q1 q2, f_X8_bestWell fuel e0 e1 e2 n1 n2 cd ca cb cbot v td ta tb tbot x = some q1 ∧ f_X9_bestWell fuel bt s x = some q2 ∧ q1.1 = q2.1 ∧ SRE v q2.2.2 := by
  have hS := h
  obtain ⟨W, L, nl, nb, nr, D, a, b, bal, bv, lv, lub, bot, rv, rfl, hE, hO, hRR⟩ := SR_ev h
  unfold f_X8_bestWell f_X9_bestWell
  rw [fI_in]
  rcases mt_win x 1 10 (l := 1) (h := 10) rfl rfl (by omega) (by omega) with ⟨am, rfl, h3, h4, e⟩ | e
  · obtain ⟨x', y0, y1, y2, y3, y4, zd, za, zb, zbot, ud, ua, ub, ubot, kp, q1, q2, q3⟩ := bestW hf hE hO h4 bt e0 e1 e2 n1 n2 cd ca cb cbot td ta tb tbot
    rw [e, Option.bind_some, if_neg n10, Option.bind_some, if_neg n10, q1, q2, Option.bind_some, Option.bind_some]
    exact ⟨_, _, rfl, rfl, rfl, hS⟩
  · rw [e]; exact ⟨_, _, rfl, rfl, rfl, hS⟩
theorem t_bestWell : MT_bestWell Cpl := by
  intro fuel hf c r x1 h
  obtain ⟨q1, q2, e1, e2, e3, e4⟩ := m_bestWell hf h.1 _ _ _ _ _ _ _ _ _ _ _ _ _ _ x1
  exact ⟨q1, q2, e1, e2, e3, e4, h.2.1, h.2.2.1, h.2.2.2⟩
