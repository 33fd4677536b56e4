/-! sinking -/
def EV (s : Nat → Int32) (W L nl nb : Nat) (E5 E6 E7 : Int32) (bal bv lv lub : Nat → Int32) : Prop := GR s W L ∧ WR s ∧ QW s ∧ LR s nl lv ∧ BR s nb bv ∧ QB s W L nb ∧ AR s bal ∧ QA s W L ∧ UR s lub ∧ s 5 = E5 ∧ s 6 = E6 ∧ s 7 = E7
def PO (s : Nat → Int32) (D : Nat) (a b : Int) (bot : Nat → Int32) : Prop := PR s D a b ∧ TR s bot ∧ QT s
theorem EV_c {s s' : Nat → Int32} {W L nl nb : Nat} {E5 E6 E7 : Int32} {bal bv lv lub : Nat → Int32} (e : ∀ k, k < 2 ∨ 5 ≤ k → k < 117 ∨ 166 ≤ k → s' k = s k) (h : EV s W L nl nb E5 E6 E7 bal bv lv lub) : EV s' W L nl nb E5 E6 E7 bal bv lv lub := by
  obtain ⟨hG, hw, hQW, hR, hB, hQB, hA, hQA, hU, h5, h6, h7⟩ := h
  exact ⟨GR_c (e _ (by omega) (by omega)) (e _ (by omega) (by omega)) hG, WR_c (e _ (by omega) (by omega)) hw, QW_c (e _ (by omega) (by omega)) hQW, LR_c (fun k _ _ => e k (by omega) (by omega)) hR, BR_c (fun k _ _ => e k (by omega) (by omega)) hB, QB_c hB.2.1 (fun k _ _ => e k (by omega) (by omega)) hQB, AR_c (fun k _ _ => e k (by omega) (by omega)) hA, QA_c (fun k _ _ => e k (by omega) (by omega)) hQA, UR_c (fun k _ _ => e k (by omega) (by omega)) hU, by rw [e _ (by omega) (by omega)]; exact h5, by rw [e _ (by omega) (by omega)]; exact h6, by rw [e _ (by omega) (by omega)]; exact h7⟩
theorem mt_abz : ∀ n : Fin 13, (mg_ab (zI ((n.val : Int) - 6)) ≤ 5) = (-5 ≤ (n.val : Int) - 6 ∧ (n.val : Int) - 6 ≤ 5) := by
  intro n
  apply propext
  revert n
  decide +kernel
theorem mt_abz' {z : Int} (h : -6 ≤ z ∧ z ≤ 6) : (mg_ab (zI z) ≤ 5) = (-5 ≤ z ∧ z ≤ 5) := by
  have := mt_abz ⟨(z + 6).toNat, by omega⟩
  dsimp only at this
  rw [show (((z + 6).toNat : Int) - 6) = z by omega] at this
  exact this
theorem trn_z (s : Nat → Int32) (m : Int32) : ∃ t : Int, trn s m = zI t ∧ -1 ≤ t ∧ t ≤ 1 := by
  unfold trn
  split
  · split
    · exact ⟨0, rfl, by omega⟩
    · exact ⟨1, rfl, by omega⟩
  · exact ⟨-1, rfl, by omega⟩
theorem nxt1 {s : Nat → Int32} {W L nl nb D : Nat} {a b : Int} (hP : PR s D a b) (h : nxt s W L nl nb D a b = 1) : D < 200 ∧ ∃ a1 b1 : Int, s 3 + trn s (mox s W L nl nb D a b) = zI a1 ∧ (-5 ≤ a1 ∧ a1 ≤ 5) ∧ s 4 + trn s (moy s W L nl nb D a b) = zI b1 ∧ (-5 ≤ b1 ∧ b1 ≤ 5) := by
  obtain ⟨p2, hD, p3, ha, p4, hb⟩ := hP
  obtain ⟨t0, e0, h0⟩ := trn_z s (mox s W L nl nb D a b)
  obtain ⟨t1, e1, h1⟩ := trn_z s (moy s W L nl nb D a b)
  unfold nxt at h
  by_cases c1 : D = 200
  · rw [if_pos c1] at h; exact absurd h (by decide)
  · rw [if_neg c1] at h
    by_cases c2 : 0 < exc s W L nl nb D a b
    · rw [if_pos c2, p3, p4, e0, e1, zI_add, zI_add] at h
      by_cases c3 : 5 < mg_ab (zI (a + t0))
      · rw [if_pos c3] at h; exact absurd h (by decide)
      · rw [if_neg c3] at h
        by_cases c4 : mg_ab (zI (b + t1)) ≤ 5
        · have c3' := Int32.not_lt.mp c3
          rw [mt_abz' (by omega)] at c3' c4
          exact ⟨by omega, a + t0, b + t1, by rw [p3, e0, zI_add], c3', by rw [p4, e1, zI_add], c4⟩
        · rw [if_neg c4] at h; exact absurd h (by decide)
    · rw [if_neg c2] at h; exact absurd h (by decide)
theorem sinkL {W L nl nb st fuel : Nat} {E5 E6 E7 : Int32} {bal bv lv lub bot : Nat → Int32} (hf : 5000 ≤ fuel) (hst : st ≤ 50) : ∀ (r i n : Nat) (s : Nat → Int32) (D : Nat) (a b : Int) (x0 x1 x2 m1 m2 : Int32), EV s W L nl nb E5 E6 E7 bal bv lv lub → PO s D a b bot → i + r = st → r < n → (nxt s W L nl nb D a b ≠ 0 → m1 = s 3 + trn s (mox s W L nl nb D a b) ∧ m2 = s 4 + trn s (moy s W L nl nb D a b)) →
    ∃ (m : Nat) (s' : Nat → Int32) (D' : Nat) (a' b' : Int) (z y0 y1 y2 y3 y4 : Int32), f_X1_sink_L15 fuel bot (zI W) (zI L) E5 E7 E6 bal (zI nb) bv (zI nl) lv lub (zI st) n (nxt s W L nl nb D a b) (zI i) (zI D) (zI a) (zI b) x0 x1 x2 m1 m2 = some (z, zI m, zI D', zI a', zI b', y0, y1, y2, y3, y4) ∧ f_X9_settles_L2 fuel (zI st) n (zI i) s = some (zI m, s') ∧ PO s' D' a' b' bot ∧ (∀ k, k < 2 ∨ 5 ≤ k → s' k = s k) := by
  intro r
  induction r with
  | zero =>
    intro i n s D a b x0 x1 x2 m1 m2 hE hO h1 h2 hm
    obtain ⟨n, rfl⟩ : ∃ j, n = j + 1 := ⟨n - 1, by omega⟩
    have : i = st := by omega
    subst this
    refine ⟨i, s, D, a, b, nxt s W L nl nb D a b, x0, x1, x2, m1, m2, ?_, ?_, hO, fun _ _ => rfl⟩
    · rw [f_X1_sink_L15, if_pos (show zI (i : Int) ≤ zI (i : Int) by rw [mt_len (by omega) (by omega)]; omega), ite_self]
    · rw [f_X9_settles_L2, if_pos (by rw [mt_len (by omega) (by omega)]; omega)]
  | succ r ih =>
    intro i n s D a b x0 x1 x2 m1 m2 hE hO h1 h2 hm
    obtain ⟨n, rfl⟩ : ∃ j, n = j + 1 := ⟨n - 1, by omega⟩
    obtain ⟨hG, hw, hQW, hR, hB, hQB, hA, hQA, hU, h5, h6, h7⟩ := id hE
    obtain ⟨hP, hT, hQT⟩ := id hO
    by_cases c : nxt s W L nl nb D a b = 1
    · obtain ⟨hD, a1, b1, ea, ha1, eb, hb1⟩ := nxt1 hP c
      obtain ⟨em1, em2⟩ := hm (by rw [c]; decide)
      have e1 : ∀ k, k < 2 ∨ 5 ≤ k → upd (upd (upd s 3 (s 3 + trn s (mox s W L nl nb D a b))) 4 (upd s 3 (s 3 + trn s (mox s W L nl nb D a b)) 4 + trn s (moy s W L nl nb D a b))) 2 (upd (upd s 3 (s 3 + trn s (mox s W L nl nb D a b))) 4 (upd s 3 (s 3 + trn s (mox s W L nl nb D a b)) 4 + trn s (moy s W L nl nb D a b)) 2 + 1) k = s k := by
        intro k hk
        rw [up_ne (by omega), up_ne (by omega), up_ne (by omega)]
      have hP1 : PR (upd (upd (upd s 3 (s 3 + trn s (mox s W L nl nb D a b))) 4 (upd s 3 (s 3 + trn s (mox s W L nl nb D a b)) 4 + trn s (moy s W L nl nb D a b))) 2 (upd (upd s 3 (s 3 + trn s (mox s W L nl nb D a b))) 4 (upd s 3 (s 3 + trn s (mox s W L nl nb D a b)) 4 + trn s (moy s W L nl nb D a b)) 2 + 1)) (D + 1) a1 b1 := by
        refine ⟨?_, by omega, ?_, ha1, ?_, hb1⟩
        · rw [up_eq, up_ne (by omega), up_ne (by omega), hP.1, mt_s1]
        · rw [up_ne (by omega), up_ne (by omega), up_eq, ea]
        · rw [up_ne (by omega), up_eq, up_ne (by omega), eb]
      generalize hs1 : upd (upd (upd s 3 (s 3 + trn s (mox s W L nl nb D a b))) 4 (upd s 3 (s 3 + trn s (mox s W L nl nb D a b)) 4 + trn s (moy s W L nl nb D a b))) 2 (upd (upd s 3 (s 3 + trn s (mox s W L nl nb D a b))) 4 (upd s 3 (s 3 + trn s (mox s W L nl nb D a b)) 4 + trn s (moy s W L nl nb D a b)) 2 + 1) = s1 at e1 hP1
      have hE1 : EV s1 W L nl nb E5 E6 E7 bal bv lv lub := EV_c (fun k h3 _ => e1 k h3) hE
      have hO1 : PO s1 (D + 1) a1 b1 bot := ⟨hP1, TR_c (fun k _ _ => e1 k (by omega)) hT, QT_c (fun k _ _ => e1 k (by omega)) hQT⟩
      obtain ⟨gG, gw, gQW, gR, gB, gQB, gA, gQA, gU, g5, g6, g7⟩ := id hE1
      obtain ⟨m1', m2', ex, hm'⟩ := c_examine hf gG.2.2.1 gG.2.2.2 gR gB hO1.2.1 gU gA gw hP1 m1 m2
      rw [g5, g6, g7] at ex
      obtain ⟨m, s', D', a', b', z, y0, y1, y2, y3, y4, q1, q2, q3, q4⟩ := ih (i + 1) n s1 (D + 1) a1 b1 _ _ _ m1' m2' hE1 hO1 (by omega) (by omega) hm'
      refine ⟨m, s', D', a', b', z, y0, y1, y2, y3, y4, ?_, ?_, q3, fun k hk => by rw [q4 k hk, e1 k hk]⟩
      · rw [f_X1_sink_L15, if_pos c, if_neg (by rw [mt_len (by omega) (by omega)]; omega), mt_s1, mt_s1, em1, em2, ea, eb]
        rw [em1, em2, ea, eb] at ex
        rw [ex, Option.bind_some]
        exact q1
      · rw [f_X9_settles_L2, if_neg (by rw [mt_len (by omega) (by omega)]; omega), r_next hf hG hR hB hP, Option.bind_some, if_pos c, r_turn0 hf hG hR hB hP, Option.bind_some, r_turn1 hf hG hR hB hP, Option.bind_some, hs1, mt_s1]
        exact q2
    · refine ⟨i, s, D, a, b, nxt s W L nl nb D a b, x0, x1, x2, m1, m2, ?_, ?_, hO, fun _ _ => rfl⟩
      · rw [f_X1_sink_L15, if_neg c]
      · rw [f_X9_settles_L2, if_neg (by rw [mt_len (by omega) (by omega)]; omega), r_next hf hG hR hB hP, Option.bind_some, if_neg c]
/-! heave -/
def hvd (s : Nat → Int32) (nl D : Nat) (z : Int32) : Int32 := if z - zI D ≤ 4 + grd s nl z 0 / 5 then z else zI D
theorem lyr_c {s s' : Nat → Int32} (d : Int32) : ∀ r i, i + r ≤ 8 → (∀ k, 8 ≤ k → k < 33 → s' k = s k) → lyr s' d r i = lyr s d r i := by
  intro r
  induction r with
  | zero => intro i _ _; rfl
  | succ r ih =>
    intro i h e
    unfold lyr
    rw [lts_c (s := s) (s' := s') (i + 1) (fun k hk => e _ (by omega) (by omega)), ih (i + 1) (by omega) e]
theorem grd_c {s s' : Nat → Int32} {nl w : Nat} (d : Int32) (hn : nl ≤ 8) (hw : w < 2) (e : ∀ k, 8 ≤ k → k < 33 → s' k = s k) : grd s' nl d w = grd s nl d w := by
  unfold grd lay
  rw [lyr_c d nl 0 (by omega) e]
  by_cases c : lyr s d nl 0 = nl
  · rw [if_pos c, if_pos c]
  · rw [if_neg c, if_neg c]
    have := (lyr_le s d nl 0)
    exact e _ (by omega) (by omega)
theorem up_self (a : Nat → Int32) (k : Nat) : upd a k (a k) = a := by
  funext j
  by_cases c : j = k
  · subst c; rw [up_eq]
  · rw [up_ne c]
theorem mt_map {F : Nat → Int32 → (Nat → Int32) → Option (Int32 × (Nat → Int32))} {N o : Nat} {g : Int32 → Int32} (hE : ∀ n a, F (n + 1) (zI N) a = some (zI N, a)) (hS : ∀ (n i : Nat) a, 1 ≤ i → i < N → F (n + 1) (zI i) a = F n (zI ((i + 1 : Nat) : Int)) (upd a (o + i) (g (a (o + i))))) : ∀ (r n i : Nat) (a : Nat → Int32), 1 ≤ i → i + r = N → r < n → F n (zI i) a = some (zI N, fun j => if o + i ≤ j ∧ j < o + N then g (a j) else a j) := by
  intro r
  induction r with
  | zero =>
    intro n i a h0 h1 h2
    obtain ⟨n, rfl⟩ : ∃ k, n = k + 1 := ⟨n - 1, by omega⟩
    have : i = N := by omega
    subst this
    rw [hE]
    congr 2
    funext j
    rw [if_neg (by omega)]
  | succ r ih =>
    intro n i a h0 h1 h2
    obtain ⟨n, rfl⟩ : ∃ k, n = k + 1 := ⟨n - 1, by omega⟩
    rw [hS n i a h0 (by omega), ih n (i + 1) _ (by omega) (by omega) (by omega)]
    congr 2
    funext j
    by_cases e : j = o + i
    · subst e
      rw [if_neg (by omega), if_pos (by omega), up_eq]
    · rw [up_ne e]
      by_cases e2 : o + (i + 1) ≤ j ∧ j < o + N
      · rw [if_pos e2, if_pos (by omega)]
      · rw [if_neg e2, if_neg (by omega)]
theorem mt_rowj {W y j : Nat} (hW : 3 ≤ W ∧ W ≤ 7) : (y * W + 1 ≤ j ∧ j < y * W + (W - 1)) ↔ (j / W = y ∧ 1 ≤ j % W ∧ j % W < W - 1) := by
  rcases (show W = 3 ∨ W = 4 ∨ W = 5 ∨ W = 6 ∨ W = 7 by omega) with rfl | rfl | rfl | rfl | rfl <;> omega
theorem c_heave {s lv : Nat → Int32} {W L nl fuel D : Nat} (hf : 5000 ≤ fuel) (hW : 3 ≤ W ∧ W ≤ 7) (hL : 3 ≤ L ∧ L ≤ 7) (hR : LR s nl lv) (bot : Nat → Int32) : f_X1_heave fuel (zI D) bot (zI W) (zI L) (zI nl) lv = some (fun j => if (1 ≤ j / W ∧ j / W < L - 1) ∧ 1 ≤ j % W ∧ j % W < W - 1 then hvd s nl D (bot j) else bot j) := by
  have h49 := mt_WL hW.2 hL.2
  have inner : ∀ (y : Nat) (a : Nat → Int32), 1 ≤ y → y < L - 1 → f_X1_heave_L17 fuel (zI D) (zI W) (zI nl) lv (zI y) fuel 1 a = some (zI ((W - 1 : Nat) : Int), fun j => if y * W + 1 ≤ j ∧ j < y * W + (W - 1) then hvd s nl D (a j) else a j) := by
    intro y a hy1 hy2
    refine mt_map (F := f_X1_heave_L17 fuel (zI D) (zI W) (zI nl) lv (zI y)) (N := W - 1) (o := y * W) (g := hvd s nl D) ?_ ?_ (W - 2) fuel 1 a (by omega) (by omega) (by omega)
    · intro n a
      rw [f_X1_heave_L17, mt_m1 (by omega), if_pos (by rw [mt_len (by omega) (by omega)]; omega)]
    · intro n i a h1 hi
      have hk := mt_xy (W := W) (L := L) (x := i) (y := y) (by omega) (by omega)
      rw [f_X1_heave_L17, mt_m1 (by omega), if_neg (by rw [mt_len (by omega) (by omega)]; omega), zI_mul, ← Int.natCast_mul, mt_p, mt_bo (by omega), Option.bind_some, c_str hf hR, Option.bind_some, mt_pb (by omega), Option.bind_some, mt_s1]
      unfold hvd
      by_cases c : a (y * W + i) - zI D ≤ 4 + grd s nl (a (y * W + i)) 0 / 5
      · rw [if_pos c, if_pos c, up_self]
      · rw [if_neg c, if_neg c]
  have outer : ∀ (r n y : Nat) (a : Nat → Int32), 1 ≤ y → y + r = L - 1 → r < n → f_X1_heave_L2 fuel (zI D) (zI W) (zI L) (zI nl) lv n (zI y) a = some (zI ((L - 1 : Nat) : Int), fun j => if (y ≤ j / W ∧ j / W < L - 1) ∧ 1 ≤ j % W ∧ j % W < W - 1 then hvd s nl D (a j) else a j) := by
    intro r
    induction r with
    | zero =>
      intro n y a h0 h1 h2
      obtain ⟨n, rfl⟩ : ∃ k, n = k + 1 := ⟨n - 1, by omega⟩
      rw [f_X1_heave_L2, mt_m1 (by omega), if_pos (by rw [mt_len (by omega) (by omega)]; omega), show y = L - 1 by omega]
      congr 2
      funext j
      rw [if_neg (by omega)]
    | succ r ih =>
      intro n y a h0 h1 h2
      obtain ⟨n, rfl⟩ : ∃ k, n = k + 1 := ⟨n - 1, by omega⟩
      rw [f_X1_heave_L2, mt_m1 (by omega), if_neg (by rw [mt_len (by omega) (by omega)]; omega), inner y a h0 (by omega), Option.bind_some, mt_s1, ih n (y + 1) _ (by omega) (by omega) (by omega)]
      congr 2
      funext j
      have hj := mt_rowj (W := W) (y := y) (j := j) hW
      by_cases e : y * W + 1 ≤ j ∧ j < y * W + (W - 1)
      · have e' := hj.mp e
        rw [if_neg (by omega), if_pos (by omega)]
        dsimp only
        rw [if_pos e]
      · have e' : ¬ (j / W = y ∧ 1 ≤ j % W ∧ j % W < W - 1) := fun h => e (hj.mpr h)
        dsimp only
        rw [if_neg e]
        by_cases e2 : (y + 1 ≤ j / W ∧ j / W < L - 1) ∧ 1 ≤ j % W ∧ j % W < W - 1
        · rw [if_pos e2, if_pos (by omega)]
        · rw [if_neg e2, if_neg (by omega)]
  unfold f_X1_heave
  have h := outer (L - 2) fuel 1 bot (by omega) (by omega) (by omega)
  rw [show zI ((1 : Nat) : Int) = 1 from rfl] at h
  rw [h, Option.bind_some]
def hvr (s : Nat → Int32) (W L nl D k : Nat) (z : Int32) : Int32 := if edg W L (k % W) (k / W) then z else hvd s nl D z
def hvs (s : Nat → Int32) (W L nl D : Nat) : Nat → Int32 := fun j => if 117 ≤ j ∧ j < 117 + L * W then hvr s W L nl D (j - 117) (s j) else s j
theorem r_heave {s lv : Nat → Int32} {W L nl fuel D : Nat} (hf : 5000 ≤ fuel) (hG : GR s W L) (hR : LR s nl lv) (hD : s 2 = zI D) (x : Int32) : f_X9_settles_J65 fuel s x = some (x, hvs s W L nl D) := by
  obtain ⟨h0, h1, hW, hL⟩ := id hG
  have h49 := mt_WL hL.2 hW.2
  have loop : ∀ (r n k : Nat) (a : Nat → Int32), (∀ j, j < 117 → a j = s j) → k + r = L * W → r < n → f_X9_settles_L67 fuel n (zI k) a = some (zI ((L * W : Nat) : Int), fun j => if 117 + k ≤ j ∧ j < 117 + L * W then hvr s W L nl D (j - 117) (a j) else a j) := by
    intro r
    induction r with
    | zero =>
      intro n k a e h1 h2
      obtain ⟨n, rfl⟩ : ∃ j, n = j + 1 := ⟨n - 1, by omega⟩
      have gG := GR_c (s' := a) (e 0 (by omega)) (e 1 (by omega)) hG
      rw [f_X9_settles_L67, r_cells gG, Option.bind_some, if_pos (by rw [mt_len (by omega) (by omega)]; omega), show k = L * W by omega]
      congr 2
      funext j
      rw [if_neg (by omega)]
    | succ r ih =>
      intro n k a e h1 h2
      obtain ⟨n, rfl⟩ : ∃ j, n = j + 1 := ⟨n - 1, by omega⟩
      have gG := GR_c (s' := a) (e 0 (by omega)) (e 1 (by omega)) hG
      have gR := LR_c (s' := a) (fun k _ _ => e k (by omega)) hR
      have hk : k < W * L := by rw [Nat.mul_comm]; omega
      have step : ∀ z : Int32, z = hvr s W L nl D k (a (117 + k)) → f_X9_settles_L67 fuel n (zI ((k + 1 : Nat) : Int)) (upd a (117 + k) z) = some (zI ((L * W : Nat) : Int), fun j => if 117 + k ≤ j ∧ j < 117 + L * W then hvr s W L nl D (j - 117) (a j) else a j) := by
        intro z hz
        rw [ih n (k + 1) _ (fun j hj => by rw [up_ne (by omega)]; exact e j hj) (by omega) (by omega)]
        congr 2
        funext j
        by_cases c : j = 117 + k
        · subst c
          rw [if_neg (by omega), if_pos (by omega), up_eq, hz, Nat.add_sub_cancel_left]
        · rw [up_ne c]
          by_cases c2 : 117 + (k + 1) ≤ j ∧ j < 117 + L * W
          · rw [if_pos c2, if_pos (by omega)]
          · rw [if_neg c2, if_neg (by omega)]
      rw [f_X9_settles_L67, r_cells gG, Option.bind_some, if_neg (by rw [mt_len (by omega) (by omega)]; omega), show (117 : Int32) = zI ((117 : Nat) : Int) from rfl, mt_p, if_pos (mt_ixn (by omega) (by omega)), r_isWell gG hk, Option.bind_some, mt_s1, mt_cln (by omega), show (0 : Int32) = zI ((0 : Nat) : Int) from rfl, r_grd hf gR _ (by omega), Option.bind_some, if_pos (mt_ixn (by omega) (by omega)), e 2 (by omega), hD, grd_c _ hR.2.1 (by omega) (fun k _ _ => e k (by omega))]
      by_cases c : edg W L (k % W) (k / W)
      · rw [if_pos c, if_pos rfl]
        have := step (a (117 + k)) (by rw [hvr, if_pos c])
        rw [up_self] at this
        exact this
      · rw [if_neg c, if_neg (show ¬ (1 : Int32) = zI ((0 : Nat) : Int) from by decide)]
        by_cases c2 : a (117 + k) - zI D ≤ 4 + grd s nl (a (117 + k)) 0 / 5
        · rw [if_pos c2]
          have := step (a (117 + k)) (by rw [hvr, if_neg c, hvd, if_pos c2])
          rw [up_self] at this
          exact this
        · rw [if_neg c2]
          exact step _ (by rw [hvr, if_neg c, hvd, if_neg c2])
  unfold f_X9_settles_J65
  have h := loop (L * W) fuel 0 s (fun _ _ => rfl) (by omega) (by omega)
  rw [show zI ((0 : Nat) : Int) = 0 from rfl] at h
  rw [h, Option.bind_some]
  rfl
theorem hvs_e {s : Nat → Int32} {W L nl D k : Nat} (hWL : L * W ≤ 49) (h : k < 117 ∨ 166 ≤ k) : hvs s W L nl D k = s k := by
  unfold hvs
  rw [if_neg (by omega)]
theorem mt_wel {W L k : Nat} (hW : 3 ≤ W ∧ W ≤ 7) (hL : 3 ≤ L ∧ L ≤ 7) : ((1 ≤ k / W ∧ k / W < L - 1) ∧ 1 ≤ k % W ∧ k % W < W - 1) ↔ (k < L * W ∧ ¬ edg W L (k % W) (k / W)) := by
  have e1 : k < L * W ↔ k / W < L := by
    rw [Nat.div_lt_iff_lt_mul (by omega)]
  have e2 : k % W < W := Nat.mod_lt _ (by omega)
  rw [e1]
  unfold edg
  generalize k / W = y at *
  generalize k % W = x at *
  omega
theorem PO_hv {s bot : Nat → Int32} {W L nl D : Nat} {a b : Int} (hW : 3 ≤ W ∧ W ≤ 7) (hL : 3 ≤ L ∧ L ≤ 7) (hO : PO s D a b bot) : PO (hvs s W L nl D) D a b (fun j => if (1 ≤ j / W ∧ j / W < L - 1) ∧ 1 ≤ j % W ∧ j % W < W - 1 then hvd s nl D (bot j) else bot j) := by
  have h49 := mt_WL hL.2 hW.2
  obtain ⟨hP, hT, hQT⟩ := hO
  refine ⟨PR_c (hvs_e h49 (by omega)) (hvs_e h49 (by omega)) (hvs_e h49 (by omega)) hP, ?_, ?_⟩
  · intro k hk
    have hw := mt_wel (k := k) hW hL
    unfold hvs hvr
    by_cases c : (1 ≤ k / W ∧ k / W < L - 1) ∧ 1 ≤ k % W ∧ k % W < W - 1
    · have c' := hw.mp c
      rw [if_pos (by omega), Nat.add_sub_cancel_left, if_neg c'.2]
      dsimp only
      rw [if_pos c, hT k hk]
    · dsimp only
      rw [if_neg c, hT k hk]
      by_cases c2 : k < L * W
      · rw [if_pos (by omega), Nat.add_sub_cancel_left]
        have c3 : edg W L (k % W) (k / W) := by
          by_cases c4 : edg W L (k % W) (k / W)
          · exact c4
          · exact absurd (hw.mpr ⟨c2, c4⟩) c
        rw [if_pos c3]
      · rw [if_neg (by omega)]
  · intro k hk
    obtain ⟨n, hn, hn2⟩ := hQT k hk
    unfold hvs hvr hvd
    have hD := hP.2.1
    split
    · rw [Nat.add_sub_cancel_left]
      split
      · exact ⟨n, hn, hn2⟩
      · split
        · exact ⟨n, hn, hn2⟩
        · exact ⟨D, rfl, by omega⟩
    · exact ⟨n, hn, hn2⟩
theorem sinks {s : Nat → Int32} {W L nl nb st fuel D : Nat} {a b : Int} {E5 E6 E7 : Int32} {bal bv lv lub bot : Nat → Int32} (hf : 5000 ≤ fuel) (hst : st ≤ 50) (hE : EV s W L nl nb E5 E6 E7 bal bv lv lub) (hO : PO s D a b bot) (n1 n2 : Int32) : ∃ (m : Nat) (s' bot' : Nat → Int32) (D' : Nat) (a' b' : Int) (y0 y1 y2 y3 y4 : Int32), f_X1_sink fuel (zI D) (zI a) (zI b) bot n1 n2 (zI W) (zI L) E5 E7 E6 bal (zI nb) bv (zI nl) lv lub (zI st) = some (zI m, zI D', zI a', zI b', bot', y0, y1, y2, y3, y4) ∧ PO s' D' a' b' bot' ∧ (∀ k, k < 2 ∨ 5 ≤ k → k < 117 ∨ 166 ≤ k → s' k = s k) ∧ f_X9_next fuel s = some (nxt s W L nl nb D a b) ∧ (nxt s W L nl nb D a b = 0 → m = 0 ∧ s' = s) ∧ (nxt s W L nl nb D a b ≠ 0 → f_X9_settles fuel s (zI st) = some (zI m, s')) := by
  obtain ⟨hG, hw, hQW, hR, hB, hQB, hA, hQA, hU, h5, h6, h7⟩ := id hE
  obtain ⟨hP, hT, hQT⟩ := id hO
  obtain ⟨h0, h1, hW, hL⟩ := id hG
  have h49 := mt_WL hL.2 hW.2
  obtain ⟨m1, m2, ex, hm⟩ := c_examine hf hG.2.2.1 hG.2.2.2 hR hB hT hU hA hw hP n1 n2
  rw [h5, h6, h7] at ex
  unfold f_X1_sink
  rw [ex, Option.bind_some]
  dsimp only
  by_cases c : nxt s W L nl nb D a b = 0
  · rw [if_pos c]
    exact ⟨0, s, bot, D, a, b, _, _, _, _, _, rfl, hO, fun _ _ _ => rfl, r_next hf hG hR hB hP, fun _ => ⟨rfl, rfl⟩, fun h => absurd c h⟩
  · rw [if_neg c]
    obtain ⟨m, s', D', a', b', z, y0, y1, y2, y3, y4, q1, q2, q3, q4⟩ := sinkL hf hst st 0 fuel s D a b (exc s W L nl nb D a b) (mox s W L nl nb D a b) (moy s W L nl nb D a b) m1 m2 hE hO (by omega) (by omega) hm
    rw [show zI ((0 : Nat) : Int) = 0 from rfl] at q1 q2
    have gE : EV s' W L nl nb E5 E6 E7 bal bv lv lub := EV_c (fun k h3 _ => q4 k h3) hE
    rw [q1, Option.bind_some]
    dsimp only
    rw [c_heave hf hW hL gE.2.2.2.1, Option.bind_some]
    refine ⟨m, hvs s' W L nl D', _, D', a', b', _, _, _, _, _, rfl, PO_hv hW hL q3, ?_, r_next hf hG hR hB hP, fun h => absurd h c, ?_⟩
    · intro k hk1 hk2
      rw [hvs_e h49 hk2, q4 k hk1]
    · intro _
      unfold f_X9_settles
      rw [q2, Option.bind_some]
      exact r_heave hf gE.1 gE.2.2.2.1 q3.1.1 _
