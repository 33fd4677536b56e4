/-! settling, imagined settling, carrying out -/
theorem SR_of {s bal bv lv lub bot rv : Nat → Int32} {W L nl nb nr D : Nat} {a b : Int} {E5 E6 E7 : Int32} (hE : EV s W L nl nb E5 E6 E7 bal bv lv lub) (hO : PO s D a b bot) (hRR : RR s nr rv) : SRE (zI W, zI L, E5, E7, E6, bal, zI nb, bv, zI nl, lv, lub, zI D, zI a, zI b, bot, zI nr, rv) s := by
  obtain ⟨hG, hw, hQW, hR, hB, hQB, hA, hQA, hU, h5, h6, h7⟩ := hE
  obtain ⟨hP, hT, hQT⟩ := hO
  refine ⟨W, L, nl, nb, nr, D, a, b, bal, bv, lv, lub, bot, rv, ?_, hG, hP, hw, hQW, hR, hB, hQB, hA, hQA, hU, hT, hQT, hRR⟩
  rw [hG.1, hG.2.1, h5, h6, h7, hB.1, hR.1, hP.1, hP.2.2.1, hP.2.2.2.2.1, hRR.1]
theorem SR_ev {v : sv_T} {s : Nat → Int32} (h : SRE v s) : ∃ (W L nl nb nr D : Nat) (a b : Int) (bal bv lv lub bot rv : Nat → Int32), v = (zI W, zI L, s 5, s 7, s 6, bal, zI nb, bv, zI nl, lv, lub, zI D, zI a, zI b, bot, zI nr, rv) ∧ EV s W L nl nb (s 5) (s 6) (s 7) bal bv lv lub ∧ PO s D a b bot ∧ RR s nr rv := by
  obtain ⟨W, L, nl, nb, nr, D, a, b, bal, bv, lv, lub, bot, rv, rfl, hG, hP, hw, hQW, hR, hB, hQB, hA, hQA, hU, hT, hQT, hRR⟩ := h
  refine ⟨W, L, nl, nb, nr, D, a, b, bal, bv, lv, lub, bot, rv, ?_, ⟨hG, hw, hQW, hR, hB, hQB, hA, hQA, hU, rfl, rfl, rfl⟩, ⟨hP, hT, hQT⟩, hRR⟩
  rw [hG.1, hG.2.1, hB.1, hR.1, hP.1, hP.2.2.1, hP.2.2.2.2.1, hRR.1]
theorem loose {s : Nat → Int32} {W L nl nb fuel D : Nat} {a b : Int} {E5 E6 E7 : Int32} {bal bv lv lub bot : Nat → Int32} (hf : 5000 ≤ fuel) (hE : EV s W L nl nb E5 E6 E7 bal bv lv lub) (hO : PO s D a b bot) (n1 n2 : Int32) : ∃ (m : Nat) (s' bot' : Nat → Int32) (D' : Nat) (a' b' : Int) (y0 y1 y2 y3 y4 : Int32), f_X1_sink fuel (zI D) (zI a) (zI b) bot n1 n2 (zI W) (zI L) E5 E7 E6 bal (zI nb) bv (zI nl) lv lub 20 = some (zI m, zI D', zI a', zI b', bot', y0, y1, y2, y3, y4) ∧ PO s' D' a' b' bot' ∧ (∀ k, k < 2 ∨ 5 ≤ k → k < 117 ∨ 166 ≤ k → s' k = s k) ∧ f_X9_settlesIfLoose fuel s = some s' := by
  obtain ⟨m, s', bot', D', a', b', y0, y1, y2, y3, y4, q1, q2, q3, q4, q5, q6⟩ := sinks (st := 20) hf (by omega) hE hO n1 n2
  refine ⟨m, s', bot', D', a', b', y0, y1, y2, y3, y4, q1, q2, q3, ?_⟩
  unfold f_X9_settlesIfLoose
  rw [q4, Option.bind_some]
  by_cases c : nxt s W L nl nb D a b = 0
  · rw [if_pos c, (q5 c).2]
  · rw [if_neg c, show (20 : Int32) = zI ((20 : Nat) : Int) from rfl, q6 c, Option.bind_some]
def TS2 (g : sv_T → sv_T) (A : Option (Int32 × Int32 × Int32 × Int32 × Int32 × Int32 × sv_T × Int32 × Int32 × (Nat → sv_T))) (B : Option (Int32 × Int32 × (Nat → Int32) × (Nat → Int32) × (Nat → Int32))) : Prop := ∃ q1 q2, A = some q1 ∧ B = some q2 ∧ q1.1 = q2.1 ∧ SRE (g q1.2.2.2.2.2.2.1) q2.2.2.2.2 ∧ HR q1.2.2.2.2.2.2.2.1 q1.2.2.2.2.2.2.2.2.1 q1.2.2.2.2.2.2.2.2.2 q2.2.1 q2.2.2.2.1
theorem TS2_stay {g : sv_T → sv_T} {v : sv_T} {s past aside : Nat → Int32} {nx ct ps x y0 y1 y2 y3 y4 : Int32} {sv : Nat → sv_T} (hg : g v = v) (h : SRE v s) (hH : HR nx ct sv ps past) : TS2 g (some (x, y0, y1, y2, y3, y4, v, nx, ct, sv)) (some (x, ps, aside, past, s)) := ⟨_, _, rfl, rfl, rfl, by rw [hg]; exact h, hH⟩
theorem m_settle {v : sv_T} {s past : Nat → Int32} {nx ct ps : Int32} {sv : Nat → sv_T} {fuel : Nat} (hf : 5000 ≤ fuel) (h : SRE v s) (hH : HR nx ct sv ps past) (aside : Nat → Int32) (e0 e1 e2 n1 n2 x : Int32) : TS2 (fun q : sv_T => (v.1, v.2.1, v.2.2.1, v.2.2.2.1, v.2.2.2.2.1, v.2.2.2.2.2.1, v.2.2.2.2.2.2.1, v.2.2.2.2.2.2.2.1, v.2.2.2.2.2.2.2.2.1, v.2.2.2.2.2.2.2.2.2.1, v.2.2.2.2.2.2.2.2.2.2.1, q.2.2.2.2.2.2.2.2.2.2.2.1, q.2.2.2.2.2.2.2.2.2.2.2.2.1, q.2.2.2.2.2.2.2.2.2.2.2.2.2.1, q.2.2.2.2.2.2.2.2.2.2.2.2.2.2.1, q.2.2.2.2.2.2.2.2.2.2.2.2.2.2.2.1, q.2.2.2.2.2.2.2.2.2.2.2.2.2.2.2.2)) (f_X8_settle fuel e0 e1 e2 n1 n2 v nx ct sv x) (f_X9_settle fuel ps aside past s x) := by
  have hS := h
  obtain ⟨W, L, nl, nb, nr, D, a, b, bal, bv, lv, lub, bot, rv, rfl, hE, hO, hRR⟩ := SR_ev h
  obtain ⟨nx', ct', ps', sv', past', g1, g2, hH'⟩ := push hf hS hH aside
  obtain ⟨hG, hw, hQW, hR, hB, hQB, hA, hQA, hU, h5, h6, h7⟩ := id hE
  unfold f_X8_settle f_X9_settle
  rw [fI_in]
  dsimp only
  rcases mt_win x 1 50 (l := 1) (h := 50) rfl rfl (by omega) (by omega) with ⟨st, rfl, h3, h4, e⟩ | e
  · obtain ⟨m1, m2, ex, hm⟩ := c_examine hf hG.2.2.1 hG.2.2.2 hR hB hO.2.1 hU hA hw hO.1 n1 n2
    obtain ⟨m, s', bot', D', a', b', y0, y1, y2, y3, y4, q1, q2, q3, q4, q5, q6⟩ := sinks (st := st) hf h4 hE hO m1 m2
    rw [e, Option.bind_some, if_neg n10, Option.bind_some, if_neg n10, ex, Option.bind_some, q4, Option.bind_some]
    dsimp only
    by_cases c : nxt s W L nl nb D a b = 0
    · rw [if_pos c, if_pos c]; exact TS2_stay rfl hS hH
    · rw [if_neg c, if_neg c, g1, Option.bind_some, q1, Option.bind_some, r_hold hf, Option.bind_some, q6 c, Option.bind_some]
      have h2 := SR_of (EV_c q3 hE) q2 (RR_c (fun k _ _ => q3 k (by omega) (by omega)) hRR)
      obtain ⟨rc, rv', s2, f1, f2, f3, f4⟩ := recs hf h2 1 (zI m)
      dsimp only at f1 ⊢
      rw [f1, f2, Option.bind_some, Option.bind_some, g2, Option.bind_some]
      exact ⟨_, _, rfl, rfl, rfl, f4, hH'⟩
  · rw [e]; exact TS2_stay rfl hS hH
theorem c_cp4 (d x y : Int32) (f g : Nat → Int32) : f_X4_copyFrom d x y f g = some (d, x, y, va_cpy f g 0 0 49) := by
  unfold f_X4_copyFrom
  rw [if_pos (by decide)]
  rfl
theorem PO_cp {s bot : Nat → Int32} {D : Nat} {a b : Int} (g : Nat → Int32) (h : PO s D a b bot) : PO s D a b (va_cpy bot g 0 0 49) := by
  refine ⟨h.1, ?_, h.2.2⟩
  intro k hk
  rw [cpy_lt hk]
  exact h.2.1 k hk
theorem m_wouldSettle {v : sv_T} {s : Nat → Int32} {fuel : Nat} (hf : 5000 ≤ fuel) (h : SRE v s) (aside ib : Nat → Int32) (e0 e1 e2 n1 n2 i0 i1 i2 x y : Int32) : ∃ q1 q2, f_X8_wouldSettle fuel e0 e1 e2 n1 n2 v i0 i1 i2 ib x y = some q1 ∧ f_X9_wouldSettle fuel aside s x y = some q2 ∧ q1.1 = q2.1 ∧ SRE v q2.2.2 := by
  have hS := h
  obtain ⟨W, L, nl, nb, nr, D, a, b, bal, bv, lv, lub, bot, rv, rfl, hE, hO, hRR⟩ := SR_ev h
  unfold f_X8_wouldSettle f_X9_wouldSettle
  rw [fI_in, fI_in]
  dsimp only
  rcases mt_win x 1 50 (l := 1) (h := 50) rfl rfl (by omega) (by omega) with ⟨st, rfl, h3, h4, e⟩ | e
  · rw [e, Option.bind_some, if_neg n10, Option.bind_some, if_neg n10]
    rcases mt_win y 0 3 (l := 0) (h := 3) rfl rfl (by omega) (by omega) with ⟨w, rfl, h5, h6, e⟩ | e
    · obtain ⟨m, s', bot', D', a', b', y0, y1, y2, y3, y4, q1, q2, q3, q4, q5, q6⟩ := sinks (st := st) hf h4 hE (PO_cp ib hO) n1 n2
      have hE' := EV_c q3 hE
      obtain ⟨hG, hw, hQW, hR, hB, hQB, hA, hQA, hU, k5, k6, k7⟩ := id hE'
      obtain ⟨m1, m2, ex, hm⟩ := c_examine hf hG.2.2.1 hG.2.2.2 hR hB q2.2.1 hU hA hw q2.1 y3 y4
      rw [k5, k6, k7] at ex
      have ref : ((f_X9_next fuel s).bind (fun q7 => if q7 = 0 then (f_X9_wouldSettle_J42 fuel (hld s aside) s (zI w) 0) else ((f_X9_settles fuel s (zI st)).bind (fun q9 => f_X9_wouldSettle_J42 fuel (hld s aside) q9.2 (zI w) q9.1)))) = f_X9_wouldSettle_J42 fuel (hld s aside) s' (zI w) (zI m) := by
        rw [q4, Option.bind_some]
        by_cases c : nxt s W L nl nb D a b = 0
        · rw [if_pos c, (q5 c).1, (q5 c).2]; rfl
        · rw [if_neg c, q6 c, Option.bind_some]
      have hb : SRE (zI W, zI L, s 5, s 7, s 6, bal, zI nb, bv, zI nl, lv, lub, zI D, zI a, zI b, bot, zI nr, rv) (hld (hld s aside) s') := SRE_c (fun k hk => by rw [hld_lt hk, hld_lt hk]) hS
      rw [e, Option.bind_some, if_neg n10, Option.bind_some, if_neg n10, c_cp4, Option.bind_some, q1, Option.bind_some, r_hold hf, Option.bind_some, ref]
      dsimp only
      unfold f_X9_wouldSettle_J42
      rw [r_restore hf, r_next hf hG hR hB q2.1, ex]
      simp only [Option.bind_some]
      have s3 : s' 3 = zI a' := q2.1.2.2.1
      have s4 : s' 4 = zI b' := q2.1.2.2.2.2.1
      rcases (show w = 0 ∨ w = 1 ∨ w = 2 ∨ w = 3 by omega) with rfl | rfl | rfl | rfl
      · rw [if_pos (by decide), if_pos (by decide)]
        exact ⟨_, _, rfl, rfl, rfl, hb⟩
      · rw [if_neg (by decide), if_pos (by decide), if_neg (by decide), if_neg (by decide), if_pos (by decide)]
        exact ⟨_, _, rfl, rfl, by show zI a' + 10 = s' 3 + 10; rw [s3], hb⟩
      · rw [if_neg (by decide), if_neg (by decide), if_pos (by decide), if_neg (by decide), if_neg (by decide), if_pos (by decide)]
        exact ⟨_, _, rfl, rfl, by show zI b' + 10 = s' 4 + 10; rw [s4], hb⟩
      · rw [if_neg (show ¬ zI ((3 : Nat) : Int) = 0 from by decide), if_neg (show ¬ zI ((3 : Nat) : Int) = 1 from by decide), if_neg (show ¬ zI ((3 : Nat) : Int) = 2 from by decide), if_neg (show ¬ zI ((3 : Nat) : Int) = 0 from by decide), if_pos (show 3 ≤ zI ((3 : Nat) : Int) from by decide)]
        by_cases c : nxt s' W L nl nb D' a' b' = 2
        · rw [if_pos c, if_pos c]; exact ⟨_, _, rfl, rfl, rfl, hb⟩
        · rw [if_neg c, if_neg c]; exact ⟨_, _, rfl, rfl, rfl, hb⟩
    · rw [e]; exact ⟨_, _, rfl, rfl, rfl, hS⟩
  · rw [e]; exact ⟨_, _, rfl, rfl, rfl, hS⟩
theorem t_wouldSettle : MT_wouldSettle Cpl := by
  intro fuel hf c r x1 x2 h
  obtain ⟨q1, q2, e1, e2, e3, e4⟩ := m_wouldSettle hf h.1 _ _ _ _ _ _ _ _ _ _ x1 x2
  exact ⟨q1, q2, e1, e2, e3, e4, h.2.1, h.2.2.1, h.2.2.2⟩
/-! a well dug, then settling -/
theorem PO_dug {s bot : Nat → Int32} {D c z : Nat} {a b : Int} (h : PO s D a b bot) (hc : c < 49) (hz : z ≤ 220) : PO (upd s (117 + c) (zI z)) D a b (upd bot c (zI z)) := by
  refine ⟨PR_c (up_ne (by omega)) (up_ne (by omega)) (up_ne (by omega)) h.1, ?_, ?_⟩
  · intro k hk
    by_cases ck : k = c
    · subst ck; rw [up_eq, up_eq]
    · rw [up_ne ck, up_ne (by omega)]; exact h.2.1 k hk
  · intro k hk
    by_cases ck : k = c
    · subst ck; rw [up_eq]; exact ⟨_, rfl, hz⟩
    · rw [up_ne (by omega)]; exact h.2.2 k hk
theorem carryL {fuel np cnt am : Nat} {wv pv : Nat → Int32} (hf : 5000 ≤ fuel) (hnp : np ≤ 12) (hcnt : cnt ≤ np) (ham : am ≤ 10) (hwv : ∀ k, k < 3 * np → wv k = pv k) (hwl : ∀ i, i < np → ∃ w : Nat, pv (3 * i) = zI w ∧ w < 49) : ∀ (r i n : Nat) (v : sv_T) (s : Nat → Int32) (x0 x1 x2 x3 x4 : Int32), SRE v s → i + r = cnt → r < n → ∃ (v' : sv_T) (s' : Nat → Int32) (y0 y1 y2 y3 y4 : Int32), f_X8_carryOut_L31 fuel (zI am) (zI np) wv (zI cnt) n (zI i) x0 x1 x2 x3 x4 v = some (zI cnt, y0, y1, y2, y3, y4, v') ∧ f_X9_carryOut_L21 fuel (zI am) pv (zI cnt) n (zI i) s = some (zI cnt, s') ∧ SRE v' s' := by
  intro r
  induction r with
  | zero =>
    intro i n v s x0 x1 x2 x3 x4 h h1 h2
    obtain ⟨n, rfl⟩ : ∃ j, n = j + 1 := ⟨n - 1, by omega⟩
    have : i = cnt := by omega
    subst this
    rw [f_X8_carryOut_L31, f_X9_carryOut_L21, if_pos (by rw [mt_len (by omega) (by omega)]; omega), if_pos (by rw [mt_len (by omega) (by omega)]; omega)]
    exact ⟨v, s, _, _, _, _, _, rfl, rfl, h⟩
  | succ r ih =>
    intro i n v s x0 x1 x2 x3 x4 h h1 h2
    obtain ⟨n, rfl⟩ : ∃ j, n = j + 1 := ⟨n - 1, by omega⟩
    obtain ⟨W, L, nl, nb, nr, D, a, b, bal, bv, lv, lub, bot, rv, rfl, hE, hO, hRR⟩ := SR_ev h
    obtain ⟨hG, hw, hQW, hR, hB, hQB, hA, hQA, hU, h5, h6, h7⟩ := id hE
    obtain ⟨k0, k1, hW, hL⟩ := id hG
    have h49 := mt_WL hW.2 hL.2
    obtain ⟨w, hw1, hw2⟩ := hwl i (by omega)
    rw [f_X8_carryOut_L31, f_X9_carryOut_L21, if_neg (by rw [mt_len (by omega) (by omega)]; omega), if_neg (by rw [mt_len (by omega) (by omega)]; omega), show (0 : Int32) = zI ((0 : Nat) : Int) from rfl, c_get (show i < np by omega) (by omega) (by omega) (by omega), Option.bind_some, hwv _ (by omega), Nat.add_zero, show 3 * zI (i : Int) = zI ((3 * i : Nat) : Int) from by rw [Int32.mul_comm, mt_3], if_pos (mt_ixn (by omega) (by omega)), mt_cln (by omega), hw1, show (117 : Int32) = zI ((117 : Nat) : Int) from rfl, mt_p, mt_s1, show zI ((0 : Nat) : Int) = 0 from rfl]
    have hix : mg_ix (zI ((117 + w : Nat) : Int)) 227 = true := mt_ixn (by omega) (by omega)
    have hcl : (zI ((117 + w : Nat) : Int)).toNatClampNeg = 117 + w := mt_cln (by omega)
    have hpb : ∀ (f : Nat → Int32) (x : Int32), f_X4_putBottom f (zI (w : Int)) x = some (upd f w x) := fun f x => mt_pb hw2
    simp only [hix, hcl, hpb, Option.bind_some, ↓reduceIte]
    have still : (∃ (v' : sv_T) (s' : Nat → Int32) (y0 y1 y2 y3 y4 : Int32), ((f_X1_sink fuel (zI D) (zI a) (zI b) bot x3 x4 (zI W) (zI L) (s 5) (s 7) (s 6) bal (zI nb) bv (zI nl) lv lub 20).bind (fun q9 => f_X8_carryOut_L31 fuel (zI am) (zI np) wv (zI cnt) n (zI ((i + 1 : Nat) : Int)) q9.2.2.2.2.2.1 q9.2.2.2.2.2.2.1 q9.2.2.2.2.2.2.2.1 q9.2.2.2.2.2.2.2.2.1 q9.2.2.2.2.2.2.2.2.2 (zI W, zI L, s 5, s 7, s 6, bal, zI nb, bv, zI nl, lv, lub, q9.2.1, q9.2.2.1, q9.2.2.2.1, q9.2.2.2.2.1, zI nr, rv))) = some (zI cnt, y0, y1, y2, y3, y4, v') ∧ ((f_X9_settlesIfLoose fuel (upd s (117 + w) (s (117 + w) + 0))).bind (fun q7 => f_X9_carryOut_L21 fuel (zI am) pv (zI cnt) n (zI ((i + 1 : Nat) : Int)) q7)) = some (zI cnt, s') ∧ SRE v' s') := by
      obtain ⟨m, s', bot', D', a', b', y0, y1, y2, y3, y4, q1, q2, q3, q4⟩ := loose hf hE hO x3 x4
      rw [Int32.add_zero, up_self, q1, q4, Option.bind_some, Option.bind_some]
      exact ih (i + 1) n _ s' _ _ _ _ _ (SR_of (EV_c q3 hE) q2 (RR_c (fun k _ _ => q3 k (by omega) (by omega)) hRR)) (by omega) (by omega)
    by_cases hc : w < W * L
    · rw [c_isWell hW hL hc, r_isWell hG hc, Option.bind_some, Option.bind_some]
      by_cases k : edg W L (w % W) (w / W)
      · rw [if_pos k, if_pos rfl, if_pos rfl]
        exact still
      · obtain ⟨p, hp, hp2⟩ := hO.2.2 w (by omega)
        obtain ⟨rr, hr⟩ := rk_ex (s := s) (W := W) (L := L) (1000 * (w : Int) + p) nb hQB
        have hle := nxb_le (s := s) (nb := nb) (D := D) (c := w) (am := am) (r := rr) hp2
        have hE1 : EV (upd s (117 + w) (zI ((nxb s nb D w p am rr : Nat) : Int))) W L nl nb (s 5) (s 6) (s 7) bal bv lv lub := EV_c (fun k _ _ => up_ne (by omega)) hE
        have hO1 := PO_dug hO hw2 hle.2
        obtain ⟨m, s', bot', D', a', b', y0, y1, y2, y3, y4, q1, q2, q3, q4⟩ := loose hf hE1 hO1 x3 x4
        rw [if_neg k, if_neg n10, if_neg n10, c_bad hf h49 hB hQB hO.2.1 hc hp hp2 ham hO.1.2.1 hr, Option.bind_some, r_sink hf h49 hB hQB hc hp hp2 ham hO.1.1 hO.1.2.1 hr, Option.bind_some, hp, mt_p, show p + (nxb s nb D w p am rr - p) = nxb s nb D w p am rr by omega, q1, q4, Option.bind_some, Option.bind_some]
        exact ih (i + 1) n _ s' _ _ _ _ _ (SR_of (EV_c q3 hE1) q2 (RR_c (fun k _ _ => by rw [q3 k (by omega) (by omega), up_ne (by omega)]) hRR)) (by omega) (by omega)
    · have hx : zI (w : Int) < 0 ∨ zI W * zI L ≤ zI w := by
        right
        rw [zI_mul, ← Int.natCast_mul, mt_len (by omega) (by omega)]
        omega
      rw [c_isWell0 hx, r_isWell0 hG hx, Option.bind_some, Option.bind_some, if_pos rfl, if_pos rfl]
      exact still
theorem m_carryOut {v : sv_T} {s past : Nat → Int32} {nx ct ps : Int32} {sv : Nat → sv_T} {fuel : Nat} (hf : 5000 ≤ fuel) (h : SRE v s) (hH : HR nx ct sv ps past) (aside : Nat → Int32) {pa wc pl pm : Int32} {wv pv : Nat → Int32} (hN : NR pa wc wv pl pm pv) (e0 e1 e2 n1 n2 x : Int32) : TS2 (fun q => q) (f_X8_carryOut fuel pa e0 e1 e2 n1 n2 v nx ct sv wc wv x) (f_X9_carryOut fuel ps pl pm aside past pv s x) := by
  obtain ⟨rfl, ⟨am, rfl, ham⟩, np, rfl, rfl, hnp, hwv, hwl⟩ := hN
  obtain ⟨nx', ct', ps', sv', past', g1, g2, hH'⟩ := push hf h hH aside
  unfold f_X8_carryOut f_X9_carryOut
  rw [fI_in]
  rcases mt_win x 1 (zI np) (l := 1) (h := np) rfl rfl (by omega) (by omega) with ⟨cnt, rfl, h3, h4, e⟩ | e
  · obtain ⟨v', s', y0, y1, y2, y3, y4, q1, q2, q3⟩ := carryL hf hnp h4 ham hwv hwl cnt 0 fuel v s e0 e1 e2 n1 n2 h (by omega) (by omega)
    rw [show zI ((0 : Nat) : Int) = 0 from rfl] at q1 q2
    rw [e, Option.bind_some, if_neg n10, Option.bind_some, if_neg n10, g1, Option.bind_some, q1, Option.bind_some, r_hold hf, Option.bind_some, q2, Option.bind_some, g2, Option.bind_some]
    refine ⟨_, _, rfl, rfl, ?_, q3, hH'⟩
    obtain ⟨W, L, nl, nb, nr, D, a, b, bal, bv, lv, lub, bot, rv, rfl, hE, hO, hRR⟩ := SR_ev q3
    exact hO.1.1.symm
  · rw [e]; exact TS2_stay rfl h hH
theorem t_carryOut : MT_carryOut Cpl := by
  intro fuel hf c r x1 h
  obtain ⟨q1, q2, e1, e2, e3, e4, e5⟩ := m_carryOut hf h.1 h.2.1 _ h.2.2.2 _ _ _ _ _ x1
  exact ⟨q1, q2, e1, e2, e3, e4, e5, h.2.2.1, h.2.2.2⟩
theorem t_settle : MT_settle Cpl := by
  intro fuel hf c r x1 h
  obtain ⟨q1, q2, e1, e2, e3, e4, e5⟩ := m_settle hf h.1 h.2.1 _ _ _ _ _ _ x1
  exact ⟨q1, q2, e1, e2, e3, e4, e5, h.2.2.1, h.2.2.2⟩
