/-! the plan -/
def PL (k : Nat) (wv pv : Nat → Int32) : Prop := (∀ j, j < 3 * k → wv j = pv j) ∧ ∀ i, i < k → ∃ w : Nat, pv (3 * i) = zI w ∧ w < 49
theorem PL_ins {k : Nat} {wv pv : Nat → Int32} (h : PL k wv pv) {w : Nat} (hw : w < 49) (y z : Int32) (a b : Nat) : PL (k + 1) (upd (upd (upd (va_cpy wv wv a b 0) (3 * k) (zI w)) (3 * k + 1) y) (3 * k + 2) z) (upd (upd (upd pv (3 * k) (zI w)) (3 * k + 1) y) (3 * k + 2) z) := by
  have e0 : va_cpy wv wv a b 0 = wv := by
    funext j; unfold va_cpy; rw [if_neg (by omega)]
  rw [e0]
  refine ⟨?_, ?_⟩
  · intro j hj
    by_cases c2 : j = 3 * k + 2
    · subst c2; rw [up_eq, up_eq]
    · rw [up_ne c2, up_ne c2]
      by_cases c1 : j = 3 * k + 1
      · subst c1; rw [up_eq, up_eq]
      · rw [up_ne c1, up_ne c1]
        by_cases c0 : j = 3 * k
        · subst c0; rw [up_eq, up_eq]
        · rw [up_ne c0, up_ne c0]; exact h.1 j (by omega)
  · intro i hi
    by_cases c : i = k
    · subst c
      exact ⟨w, by rw [up_ne (by omega), up_ne (by omega), up_eq], hw⟩
    · obtain ⟨w', h1, h2⟩ := h.2 i (by omega)
      exact ⟨w', by rw [up_ne (by omega), up_ne (by omega), up_ne (by omega)]; exact h1, h2⟩
def PE (q1 : Nat × Int32 × Int32 × Int32 × Int32 × Int32 × Int32 × Int32 × Int32 × Int32 × (Nat → Int32) × Int32 × Int32 × Int32 × (Nat → Int32) × Int32 × Int32 × Int32 × (Nat → Int32) × Int32 × (Nat → Int32)) (q2 : Int32 × Int32 × (Nat → Int32) × (Nat → Int32) × (Nat → Int32)) : Prop := ∃ m : Nat, m ≤ 12 ∧ q1.2.2.2.2.2.2.2.2.2.2.2.2.2.2.2.2.2.2.2.1 = zI m ∧ q2.2.1 = zI m ∧ PL m q1.2.2.2.2.2.2.2.2.2.2.2.2.2.2.2.2.2.2.2.2 q2.2.2.2.1
theorem planL {tg am W L nl nb fuel : Nat} {E5 E6 E7 : Int32} {bal bv lv lub : Nat → Int32} {d0 a0 b0 c0 : Int32} {bot0 rv : Nat → Int32} (hf : 5000 ≤ fuel) (ham : am ≤ 10) (htg : tg ≤ 200) : ∀ (r k n n' D : Nat) (a b : Int) (s bot bt wv pv : Nat → Int32) (e0 e1 e2 n1 n2 cd ca cb : Int32) (cbot : Nat → Int32) (td ta tb : Int32) (tbot : Nat → Int32), EV s W L nl nb E5 E6 E7 bal bv lv lub → PO s D a b bot → PL k wv pv → k + r = 12 → r < n → r < n' → ∃ q1 q2, f_X8_makePlan_L69 fuel (zI W, zI L, E5, E7, E6, bal, zI nb, bv, zI nl, lv, lub, d0, a0, b0, bot0, c0, rv) (zI tg) (zI am) n (zI k) e0 e1 e2 n1 n2 cd ca cb cbot td ta tb tbot (zI D) (zI a) (zI b) bot (zI k) wv = some q1 ∧ (if tg ≤ D ∨ k = 12 then f_X9_makePlan_L57 fuel (zI tg) (zI am) n' (-1000009) (zI k) bt pv s else (f_X9_best fuel bt s (zI am)).bind (fun q15 => f_X9_makePlan_L57 fuel (zI tg) (zI am) n' q15.1 (zI k) q15.2.1 pv q15.2.2)) = some q2 ∧ PE q1 q2 := by
  intro r
  induction r with
  | zero =>
    intro k n n' D a b s bot bt wv pv e0 e1 e2 n1 n2 cd ca cb cbot td ta tb tbot hE hO hP h1 h2 h3
    obtain ⟨n, rfl⟩ : ∃ j, n = j + 1 := ⟨n - 1, by omega⟩
    obtain ⟨n', rfl⟩ : ∃ j, n' = j + 1 := ⟨n' - 1, by omega⟩
    have : k = 12 := by omega
    subst this
    rw [f_X8_makePlan_L69, if_pos (by decide), if_pos (Or.inr rfl), f_X9_makePlan_L57, if_pos (by decide)]
    exact ⟨_, _, rfl, rfl, 12, by omega, rfl, rfl, hP⟩
  | succ r ih =>
    intro k n n' D a b s bot bt wv pv e0 e1 e2 n1 n2 cd ca cb cbot td ta tb tbot hE hO hP h1 h2 h3
    obtain ⟨n, rfl⟩ : ∃ j, n = j + 1 := ⟨n - 1, by omega⟩
    obtain ⟨n', rfl⟩ : ∃ j, n' = j + 1 := ⟨n' - 1, by omega⟩
    have hD := hO.1.2.1
    rw [f_X8_makePlan_L69, if_neg (show ¬ (12 : Int32) ≤ zI k by rw [show (12 : Int32) = zI ((12 : Nat) : Int) from rfl, mt_len (by omega) (by omega)]; omega)]
    by_cases cD : tg ≤ D
    · rw [if_pos (show zI (tg : Int) ≤ zI (D : Int) by rw [mt_len (by omega) (by omega)]; exact cD), if_pos (Or.inl cD), f_X9_makePlan_L57, if_pos (by decide)]
      exact ⟨_, _, rfl, rfl, k, by omega, rfl, rfl, hP⟩
    · obtain ⟨x, y0, y1, y2, y3, y4, zd, za, zb, zbot, ud, ua, ub, ubot, kp, q1, q2, q3⟩ := bestW hf hE hO ham bt e0 e1 e2 n1 n2 cd ca cb cbot td ta tb tbot
      have h49 := mt_WL hE.1.2.2.1.2 hE.1.2.2.2.2
      rw [if_neg (show ¬ zI (tg : Int) ≤ zI (D : Int) by rw [mt_len (by omega) (by omega)]; exact cD), if_neg (show ¬ (tg ≤ D ∨ k = 12) by omega)]
      dsimp only
      rw [q1, Option.bind_some, q2, Option.bind_some]
      dsimp only
      rcases q3 with hx | ⟨c, hx, hC⟩
      · rw [if_pos hx, f_X9_makePlan_L57, if_pos (by rw [hx]; decide)]
        exact ⟨_, _, rfl, rfl, k, by omega, rfl, rfl, hP⟩
      · obtain ⟨hc, g, s', D', a', b', w1, w2, w3, w4, rfl, rfl, rfl⟩ := hC
        subst hx
        have hins := c_ins (N := 36) (cap := 12) (m := k) (at_ := k) (by omega) (by omega) (by omega) (by omega) (by omega) wv (zI c) (zI D') (mg_ab (zI a') + mg_ab (zI b'))
        rw [show min k (12 - 1) = k by omega, Nat.sub_self, Nat.mul_zero, show zI ((12 : Nat) : Int) = 12 from rfl] at hins
        have hix : mg_ix (zI ((117 + c : Nat) : Int)) 227 = true := mt_ixn (by omega) (by omega)
        have hcl : (zI ((117 + c : Nat) : Int)).toNatClampNeg = 117 + c := mt_cln (by omega)
        have hx0 : mg_ix (zI ((3 * k : Nat) : Int)) 36 = true := mt_ixn (by omega) (by omega)
        have hx1 : mg_ix (zI ((3 * k + 1 : Nat) : Int)) 36 = true := mt_ixn (by omega) (by omega)
        have hx2 : mg_ix (zI ((3 * k + 2 : Nat) : Int)) 36 = true := mt_ixn (by omega) (by omega)
        have hc0 : (zI ((3 * k : Nat) : Int)).toNatClampNeg = 3 * k := mt_cln (by omega)
        have hc1 : (zI ((3 * k + 1 : Nat) : Int)).toNatClampNeg = 3 * k + 1 := mt_cln (by omega)
        have hc2 : (zI ((3 * k + 2 : Nat) : Int)).toNatClampNeg = 3 * k + 2 := mt_cln (by omega)
        have h3k : 3 * zI (k : Int) = zI ((3 * k : Nat) : Int) := by rw [Int32.mul_comm, mt_3]
        have hcc : 117 + zI (c : Int) = zI ((117 + c : Nat) : Int) := mt_p 117 c
        have s2 : s' 2 = zI D' := w3.1.1
        have s3 : s' 3 = zI a' := w3.1.2.2.1
        have s4 : s' 4 = zI b' := w3.1.2.2.2.2.1
        have D2 := w3.1.2.1
        have hi := ih (k + 1) n n' D' a' b' s' (va_cpy zbot bot 0 0 49) kp _ _ y0 y1 y2 y3 y4 (zI D') (zI a') (zI b') zbot ud ua ub ubot (EV_c w4 hE) (PO_cp bot w3) (PL_ins hP (show c < 49 by omega) (zI D') (mg_ab (zI a') + mg_ab (zI b')) (3 * k) (3 * k + 3)) (by omega) (by omega) (by omega)
        rw [if_neg (mt_none c (by omega)), c_cp4, Option.bind_some]
        dsimp only
        unfold f_X4_tiltSum
        rw [Option.bind_some, hins, Option.bind_some, f_X9_makePlan_L57, if_neg (mt_ge0 (by omega)), h3k, mt_p1, mt_p2, hcc]
        simp only [hix, hcl, hx0, hx1, hx2, hc0, hc1, hc2, ↓reduceIte, w1, w2, Option.bind_some, r_tilted, s2, s3, s4, mt_s1]
        by_cases c1 : tg ≤ D'
        · rw [if_pos (Or.inl c1)] at hi
          rw [if_pos (show zI (tg : Int) ≤ zI (D' : Int) by rw [mt_len (by omega) (by omega)]; exact c1)]
          exact hi
        · rw [if_neg (show ¬ zI (tg : Int) ≤ zI (D' : Int) by rw [mt_len (by omega) (by omega)]; exact c1)]
          by_cases c2 : k + 1 = 12
          · rw [if_pos (Or.inr c2)] at hi
            rw [if_pos (show zI ((k + 1 : Nat) : Int) = 12 by rw [c2]; rfl)]
            exact hi
          · rw [if_neg (show ¬ (tg ≤ D' ∨ k + 1 = 12) by omega)] at hi
            rw [if_neg (show ¬ zI ((k + 1 : Nat) : Int) = 12 by rw [show (12 : Int32) = zI ((12 : Nat) : Int) from rfl, mt_eqn (by omega) (by omega)]; exact c2)]
            exact hi
theorem m_makePlan {v : sv_T} {s : Nat → Int32} {fuel : Nat} (hf : 5000 ≤ fuel) (h : SRE v s) {pa wc pl pm : Int32} {wv pv : Nat → Int32} (hN : NR pa wc wv pl pm pv) (aside bt : Nat → Int32) (e0 e1 e2 n1 n2 cd ca cb : Int32) (cbot : Nat → Int32) (td ta tb : Int32) (tbot : Nat → Int32) (i0 i1 i2 : Int32) (ib : Nat → Int32) (x y : Int32) : ∃ q1 q2, f_X8_makePlan fuel pa e0 e1 e2 n1 n2 cd ca cb cbot v td ta tb tbot i0 i1 i2 ib wc wv x y = some q1 ∧ f_X9_makePlan fuel pl pm aside bt pv s x y = some q2 ∧ q1.1 = q2.1 ∧ SRE v q2.2.2.2.2.2.2 ∧ NR q1.2.1 q1.2.2.2.2.2.2.2.2.2.2.2.2.2.2.2.2.2.2.2.1 q1.2.2.2.2.2.2.2.2.2.2.2.2.2.2.2.2.2.2.2.2 q2.2.1 q2.2.2.1 q2.2.2.2.2.2.1 := by
  have hS := h
  obtain ⟨W, L, nl, nb, nr, D, a, b, bal, bv, lv, lub, bot, rv, rfl, hE, hO, hRR⟩ := SR_ev h
  unfold f_X8_makePlan f_X9_makePlan
  rw [fI_in, fI_in]
  dsimp only
  rcases mt_win x 1 200 (l := 1) (h := 200) rfl rfl (by omega) (by omega) with ⟨tg, rfl, h1, h2, e⟩ | e
  · rw [e, Option.bind_some, if_neg n10, Option.bind_some, if_neg n10]
    rcases mt_win y 1 10 (l := 1) (h := 10) rfl rfl (by omega) (by omega) with ⟨am, rfl, h3, h4, e⟩ | e
    · rw [e, Option.bind_some, if_neg n10, Option.bind_some, if_neg n10, hO.1.1]
      have hD := hO.1.2.1
      by_cases c : D < tg
      · rw [if_pos (show zI (D : Int) < zI (tg : Int) by rw [mt_ltn (by omega) (by omega)]; exact c), if_pos (show zI (D : Int) < zI (tg : Int) by rw [mt_ltn (by omega) (by omega)]; exact c)]
        obtain ⟨q1, q2, w1, w2, m, w3, w4, w5, w6⟩ := planL (d0 := zI D) (a0 := zI a) (b0 := zI b) (c0 := zI nr) (bot0 := bot) (rv := rv) hf h4 h2 12 0 fuel fuel D a b s _ bt wv pv e0 e1 e2 n1 n2 cd ca cb cbot td ta tb tbot hE (PO_cp ib hO) ⟨fun j hj => absurd hj (by omega), fun i hi => absurd hi (by omega)⟩ (by omega) (by omega) (by omega)
        rw [if_neg (by omega)] at w2
        rw [show zI ((0 : Nat) : Int) = 0 from rfl] at w1 w2
        obtain ⟨qb, hb, w2⟩ := Option.bind_eq_some_iff.mp w2
        unfold f_X7_clear
        rw [Option.bind_some, c_cp4, Option.bind_some, r_hold hf, Option.bind_some, hb, Option.bind_some, w2, Option.bind_some, r_restore hf, Option.bind_some]
        dsimp only
        rw [w1, Option.bind_some, ite_self]
        refine ⟨_, _, rfl, rfl, ?_, ?_, rfl, ⟨am, rfl, h4⟩, m, w4, w5, w3, w6.1, w6.2⟩
        · show q1.2.2.2.2.2.2.2.2.2.2.2.2.2.2.2.2.2.2.2.1 = q2.2.1
          rw [w4, w5]
        · exact SRE_c (fun k hk => by dsimp only; rw [hld_lt hk, hld_lt hk]) hS
      · rw [if_neg (show ¬ zI (D : Int) < zI (tg : Int) by rw [mt_ltn (by omega) (by omega)]; exact c), if_neg (show ¬ zI (D : Int) < zI (tg : Int) by rw [mt_ltn (by omega) (by omega)]; exact c)]
        exact ⟨_, _, rfl, rfl, rfl, hS, hN⟩
    · rw [e]; exact ⟨_, _, rfl, rfl, rfl, hS, hN⟩
  · rw [e]; exact ⟨_, _, rfl, rfl, rfl, hS, hN⟩
theorem t_makePlan : MT_makePlan Cpl := by
  intro fuel hf c r x1 x2 h
  obtain ⟨q1, q2, e1, e2, e3, e4, e5⟩ := m_makePlan hf h.1 h.2.2.2 _ _ _ _ _ _ _ _ _ _ _ _ _ _ _ _ _ _ _ x1 x2
  exact ⟨q1, q2, e1, e2, e3, e4, h.2.1, h.2.2.1, e5⟩
