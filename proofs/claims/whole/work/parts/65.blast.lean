/-! blasting -/
abbrev rch (s : Nat → Int32) (c p : Nat) (m : Int) (i : Nat) : Prop := s (34 + 3 * i) = zI c ∧ zI p ≤ s (34 + 3 * i + 1) ∧ s (34 + 3 * i + 1) ≤ zI m
theorem r_rchA {s : Nat → Int32} {nb c p : Nat} {m : Int} (hnb : nb ≤ 10) : ∀ (k n : Nat) (x : Int32), k ≤ nb → k < n → (∀ i, i < k → ¬ rch s c p m i) → f_X9_reachable_L56 s (zI c) (zI p) (zI m) n x (zI ((k : Int) - 1)) = some (x, zI (-1)) := by
  intro k
  induction k with
  | zero =>
    intro n x h1 h2 h3
    obtain ⟨n, rfl⟩ : ∃ j, n = j + 1 := ⟨n - 1, by omega⟩
    rw [f_X9_reachable_L56, if_pos (by decide)]
    rfl
  | succ k ih =>
    intro n x h1 h2 h3
    obtain ⟨n, rfl⟩ : ∃ j, n = j + 1 := ⟨n - 1, by omega⟩
    have hk := h3 k (by omega)
    rw [show ((k + 1 : Nat) : Int) - 1 = (k : Int) by omega, f_X9_reachable_L56, if_neg (mt_ge0 (by omega)), mt_343, mt_p1, if_pos (mt_ixn (by omega) (by omega)), if_pos (mt_ixn (by omega) (by omega)), mt_cln (by omega), mt_cln (by omega), fI_in, fI_w, Option.bind_some, show zI (k : Int) + (-1) = zI ((k : Int) - 1) from by rw [show (-1 : Int32) = zI (-1) from rfl, zI_add]; rfl, ih n x (by omega) (by omega) (fun i hi => h3 i (by omega))]
    by_cases c1 : s (34 + 3 * k) = zI c
    · rw [if_pos c1, if_neg (show ¬ (zI (p : Int) ≤ s (34 + 3 * k + 1) ∧ s (34 + 3 * k + 1) ≤ zI m) from fun h => hk ⟨c1, h⟩), if_pos rfl]
    · rw [if_neg c1]
theorem r_rchB {s : Nat → Int32} {nb c p r : Nat} {m : Int} (hnb : nb ≤ 10) (h0 : ∀ i, i < r → ¬ rch s c p m i) (hr : rch s c p m r) : ∀ (k n : Nat) (x : Int32), r < k → k ≤ nb → k < n → f_X9_reachable_L56 s (zI c) (zI p) (zI m) n x (zI ((k : Int) - 1)) = some (zI r, zI (-1)) := by
  intro k
  induction k with
  | zero => intro n x h1; omega
  | succ k ih =>
    intro n x h1 h2 h3
    obtain ⟨n, rfl⟩ : ∃ j, n = j + 1 := ⟨n - 1, by omega⟩
    rw [show ((k + 1 : Nat) : Int) - 1 = (k : Int) by omega, f_X9_reachable_L56, if_neg (mt_ge0 (by omega)), mt_343, mt_p1, if_pos (mt_ixn (by omega) (by omega)), if_pos (mt_ixn (by omega) (by omega)), mt_cln (by omega), mt_cln (by omega), fI_in, fI_w, Option.bind_some, show zI (k : Int) + (-1) = zI ((k : Int) - 1) from by rw [show (-1 : Int32) = zI (-1) from rfl, zI_add]; rfl]
    by_cases ck : k = r
    · subst ck
      rw [if_pos hr.1, if_pos hr.2, if_neg n10]
      exact r_rchA hnb k n _ (by omega) (by omega) h0
    · rw [ih n x (by omega) (by omega) (by omega), ih n (zI k) (by omega) (by omega) (by omega)]
      simp only [ite_self]
theorem mt_rch {s : Nat → Int32} {W L nb c p r : Nat} {m : Int} (hWL : W * L ≤ 49) (hQB : QB s W L nb) (hc : c < 1000) (hp : p < 1000) (hm : -1000 ≤ m ∧ m < 1000) (hr : RK s nb (1000 * (c : Int) + p) r) : (stp s nb c r ∧ s (34 + 3 * r + 1) ≤ zI m → rch s c p m r ∧ ∀ i, i < r → ¬ rch s c p m i) ∧ (¬ (stp s nb c r ∧ s (34 + 3 * r + 1) ≤ zI m) → ∀ i, i < nb → ¬ rch s c p m i) := by
  obtain ⟨hr1, hr2, hr3⟩ := id hr
  refine ⟨?_, ?_⟩
  · rintro ⟨⟨h1, h2⟩, h3⟩
    obtain ⟨ci, di, e1, e2, e3, e4, e5⟩ := hQB.1 r h1
    have hk := bky_z e1 e3 (by omega) (by omega)
    have hb := hr3 r (by omega) h1
    have hci : ci = c := by
      rw [e1, mt_eqn (by omega) (by omega)] at h2; exact h2
    refine ⟨⟨h2, ?_, h3⟩, ?_⟩
    · rw [e3, mt_len (by omega) (by omega)]; omega
    · rintro i hi ⟨g1, g2, g3⟩
      obtain ⟨cj, dj, f1, f2, f3, f4, f5⟩ := hQB.1 i (by omega)
      have hkj := bky_z f1 f3 (by omega) (by omega)
      have hbj := hr2 i hi
      rw [f1, mt_eqn (by omega) (by omega)] at g1
      rw [f3, mt_len (by omega) (by omega)] at g2
      omega
  · rintro h i hi ⟨g1, g2, g3⟩
    apply h
    obtain ⟨cj, dj, f1, f2, f3, f4, f5⟩ := hQB.1 i hi
    have hkj := bky_z f1 f3 (by omega) (by omega)
    rw [f1, mt_eqn (by omega) (by omega)] at g1
    rw [f3, mt_len (by omega) (by omega)] at g2
    rw [f3, zI_le (by omega) (by omega)] at g3
    have hri : r ≤ i := by
      by_cases k : r ≤ i
      · exact k
      · have := hr2 i (by omega); omega
    obtain ⟨ci, di, e1, e2, e3, e4, e5⟩ := hQB.1 r (by omega)
    have hk := bky_z e1 e3 (by omega) (by omega)
    have hb := hr3 r (by omega) (by omega)
    have hle : bky s r ≤ bky s i := by
      by_cases k : r = i
      · rw [k]; exact Int.le_refl _
      · have := bky_mono hQB i r (by omega) hi; omega
    refine ⟨⟨by omega, ?_⟩, ?_⟩
    · rw [e1, mt_eqn (by omega) (by omega)]; omega
    · rw [e3, zI_le (by omega) (by omega)]; omega
theorem r_rch39 {s bv : Nat → Int32} {W L nb c p r fuel : Nat} {m : Int} (hf : 5000 ≤ fuel) (hWL : W * L ≤ 49) (hB : BR s nb bv) (hQB : QB s W L nb) (hc : c < 1000) (hp : p < 1000) (hm : -1000 ≤ m ∧ m < 1000) (hr : RK s nb (1000 * (c : Int) + p) r) : f_X9_reachable_J39 fuel s (zI c) (zI p) (zI m) = some (if stp s nb c r ∧ s (34 + 3 * r + 1) ≤ zI m then zI r else (-1000009)) := by
  obtain ⟨h33, hnb, hv⟩ := hB
  have hmt := mt_rch hWL hQB hc hp hm hr
  unfold f_X9_reachable_J39
  rw [h33, show (1 : Int32) = zI 1 from rfl, zI_sub]
  by_cases k : stp s nb c r ∧ s (34 + 3 * r + 1) ≤ zI m
  · rw [if_pos k, r_rchB hnb (hmt.1 k).2 (hmt.1 k).1 nb fuel _ k.1.1 (by omega) (by omega), Option.bind_some]
  · rw [if_neg k, r_rchA hnb nb fuel _ (by omega) (by omega) (hmt.2 k), Option.bind_some]
theorem c_rch70 {v : sv_T} {s bv : Nat → Int32} {W L nb c p r fuel : Nat} {m : Int} (hf : 5000 ≤ fuel) (hWL : W * L ≤ 49) (h6 : v.2.2.2.2.2.2.1 = zI nb) (h7 : v.2.2.2.2.2.2.2.1 = bv) (hB : BR s nb bv) (hQB : QB s W L nb) (hc : c < 1000) (hp : p < 1000) (hr : RK s nb (1000 * (c : Int) + p) r) : f_X8_reachableBoulder_J69 fuel v (zI c) (zI p) (zI m) = some (if stp s nb c r ∧ s (34 + 3 * r + 1) ≤ zI m then zI r else (-1000009)) := by
  have hnb := hB.2.1
  unfold f_X8_reachableBoulder_J69
  rw [h6, h7, c_first hf hWL hB hQB hc hp hr, Option.bind_some]
  by_cases k : stp s nb c r
  · rw [if_pos (show r < nb ∧ s (34 + 3 * r) = zI c from k), if_neg (mt_none r (by have := k.1; omega)), c_dep hB k.1, Option.bind_some]
    by_cases k2 : s (34 + 3 * r + 1) ≤ zI m
    · rw [if_pos k2, if_pos ⟨k, k2⟩]
    · rw [if_neg k2, if_neg (fun h => k2 h.2)]
  · rw [if_neg (show ¬ (r < nb ∧ s (34 + 3 * r) = zI c) from k), if_pos rfl, if_neg (fun h => k h.1)]
theorem m_reach {s bal bv lv lub bot rv : Nat → Int32} {W L nl nb nr D fuel c : Nat} {a b : Int} (hf : 5000 ≤ fuel) (h : SR (s 0, s 1, s 5, s 7, s 6, bal, s 33, bv, s 8, lv, lub, s 2, s 3, s 4, bot, s 166, rv) s W L nl nb nr D a b) (hc : c < W * L) : (f_X8_reachableBoulder fuel (s 0, s 1, s 5, s 7, s 6, bal, s 33, bv, s 8, lv, lub, s 2, s 3, s 4, bot, s 166, rv) (zI c) = some (-1000009) ∧ f_X9_reachable fuel s (zI c) = some (-1000009)) ∨ ∃ r : Nat, r < nb ∧ f_X8_reachableBoulder fuel (s 0, s 1, s 5, s 7, s 6, bal, s 33, bv, s 8, lv, lub, s 2, s 3, s 4, bot, s 166, rv) (zI c) = some (zI r) ∧ f_X9_reachable fuel s (zI c) = some (zI r) := by
  obtain ⟨bal', bv', lv', lub', bot', rv', hv, hG, hP, hw, hQW, hR, hB, hQB, hA, hQA, hU, hT, hQT, hRR⟩ := h
  simp only [Prod.mk.injEq, true_and] at hv
  obtain ⟨rfl, rfl, rfl, rfl, rfl, rfl⟩ := hv
  obtain ⟨h0, h1, hW, hL⟩ := id hG
  obtain ⟨p2, hD, p3, ha, p4, hb⟩ := id hP
  have h49 := mt_WL hW.2 hL.2
  have hm := mt_mod hc (by omega)
  have he := mt_edp hW hL hm.1 hm.2.1 ha hb hD
  have fin : ∀ (q : Option Int32) (q' : Option Int32) (r : Nat) (m : Int), q = some (if stp s nb c r ∧ s (34 + 3 * r + 1) ≤ zI m then zI r else (-1000009)) → q' = some (if stp s nb c r ∧ s (34 + 3 * r + 1) ≤ zI m then zI r else (-1000009)) → (q = some (-1000009) ∧ q' = some (-1000009)) ∨ ∃ r : Nat, r < nb ∧ q = some (zI r) ∧ q' = some (zI r) := by
    intro q q' r m e1 e2
    by_cases k : stp s nb c r ∧ s (34 + 3 * r + 1) ≤ zI m
    · right
      rw [if_pos k] at e1 e2
      exact ⟨r, k.1.1, e1, e2⟩
    · left
      rw [if_neg k] at e1 e2
      exact ⟨e1, e2⟩
  by_cases k : edg W L (c % W) (c / W)
  · obtain ⟨r, hr⟩ := rk_ex (s := s) (W := W) (L := L) (1000 * (c : Int) + ((0 : Nat) : Int)) nb hQB
    apply fin _ _ r (edp W L D a b (c % W) (c / W))
    · unfold f_X8_reachableBoulder f_X8_reachableBoulder_J28
      dsimp only
      rw [h0, h1, c_isWell hW hL hc, Option.bind_some, if_pos k, if_pos rfl, if_pos rfl, c_col hW hL hc, Option.bind_some, c_row hW hL hc, Option.bind_some, p2, p3, p4, c_edp hW hL hm.1 hm.2.1 ha hb hD, Option.bind_some, show (0 : Int32) = zI ((0 : Nat) : Int) from rfl]
      exact c_rch70 hf h49 hB.1 rfl hB hQB (by omega) (by omega) hr
    · unfold f_X9_reachable f_X9_reachable_J23
      rw [r_isEdge hG hc, Option.bind_some, if_pos k, if_neg n10, if_neg n10, r_edp hG hP hc, Option.bind_some, show (0 : Int32) = zI ((0 : Nat) : Int) from rfl]
      exact r_rch39 hf h49 hB hQB (by omega) (by omega) (by omega) hr
  · obtain ⟨p, hp, hp2⟩ := hQT c (by omega)
    obtain ⟨r, hr⟩ := rk_ex (s := s) (W := W) (L := L) (1000 * (c : Int) + p) nb hQB
    have hbp : bot c = zI p := by rw [hT c (by omega), hp]
    apply fin _ _ r ((p + 1 : Nat) : Int)
    · unfold f_X8_reachableBoulder f_X8_reachableBoulder_J28
      dsimp only
      rw [h0, h1, c_isWell hW hL hc, Option.bind_some, if_neg k, if_neg n10, mt_bo (by omega), Option.bind_some, if_neg n10, hbp, mt_s1]
      exact c_rch70 hf h49 hB.1 rfl hB hQB (by omega) (by omega) hr
    · unfold f_X9_reachable f_X9_reachable_J23
      rw [r_isEdge hG hc, Option.bind_some, if_neg k, if_pos rfl, if_pos rfl, show (117 : Int32) = zI ((117 : Nat) : Int) from rfl, mt_p, if_pos (mt_ixn (by omega) (by omega)), mt_cln (by omega), hp, mt_s1]
      exact r_rch39 hf h49 hB hQB (by omega) (by omega) (by omega) hr
theorem r_blL {m : Nat} (hm : m ≤ 10) : ∀ (q n i : Nat) (a : Nat → Int32), a 33 = zI m → i + q = 3 * m → q < n → f_X9_blast_L97 n (zI i) a = some (zI ((3 * m : Nat) : Int), fun j => if 34 + i ≤ j ∧ j < 34 + 3 * m then a (j + 3) else a j) := by
  intro q
  induction q with
  | zero =>
    intro n i a h33 h1 h2
    obtain ⟨n, rfl⟩ : ∃ j, n = j + 1 := ⟨n - 1, by omega⟩
    rw [f_X9_blast_L97, h33, show (3 : Int32) = zI ((3 : Nat) : Int) from rfl, zI_mul, ← Int.natCast_mul, if_pos (by rw [mt_len (by omega) (by omega)]; omega), show i = 3 * m by omega]
    congr 2
    funext j
    rw [if_neg (by omega)]
  | succ q ih =>
    intro n i a h33 h1 h2
    obtain ⟨n, rfl⟩ : ∃ j, n = j + 1 := ⟨n - 1, by omega⟩
    rw [f_X9_blast_L97, h33, show (3 : Int32) = zI ((3 : Nat) : Int) from rfl, zI_mul, ← Int.natCast_mul, if_neg (by rw [mt_len (by omega) (by omega)]; omega), show (34 : Int32) = zI ((34 : Nat) : Int) from rfl, mt_p, mt_p, if_pos (mt_ixn (by omega) (by omega)), if_pos (mt_ixn (by omega) (by omega)), mt_cln (by omega), mt_cln (by omega), mt_s1, ih n (i + 1) _ (by rw [up_ne (by omega), h33]) (by omega) (by omega)]
    congr 2
    funext j
    by_cases e : j = 34 + i
    · subst e
      rw [if_neg (by omega), if_pos (by omega), up_eq]
    · by_cases e2 : 34 + (i + 1) ≤ j ∧ j < 34 + 3 * m
      · rw [if_pos e2, if_pos (by omega), up_ne (by omega)]
      · rw [if_neg e2, if_neg (by omega), up_ne e]
def rmb (s : Nat → Int32) (r nb : Nat) : Nat → Int32 := fun j => if 34 + 3 * r ≤ j ∧ j < 34 + 3 * (nb - 1) then upd s 33 (s 33 - 1) (j + 3) else upd s 33 (s 33 - 1) j
theorem rmb_hi {s : Nat → Int32} {r nb j : Nat} (h : 34 + 3 * r ≤ j ∧ j < 34 + 3 * (nb - 1)) : rmb s r nb j = s (j + 3) := by
  unfold rmb; rw [if_pos h, up_ne (by omega)]
theorem rmb_lo {s : Nat → Int32} {r nb j : Nat} (h : ¬ (34 + 3 * r ≤ j ∧ j < 34 + 3 * (nb - 1))) (h2 : j ≠ 33) : rmb s r nb j = s j := by
  unfold rmb; rw [if_neg h, up_ne h2]
theorem rmb_33 {s : Nat → Int32} {r nb : Nat} : rmb s r nb 33 = s 33 - 1 := by
  unfold rmb; rw [if_neg (by omega), up_eq]
theorem weak {s bv : Nat → Int32} {W L nb r fuel : Nat} (hf : 5000 ≤ fuel) (hB : BR s nb bv) (hQB : QB s W L nb) (hr : r < nb) (y : Int32) (ps : Int32) (aside past : Nat → Int32) (x : Int32) : ∃ (z : Int32) (bv' s' : Nat → Int32) (nb' : Nat), f_X0_weaken (s 33) bv (zI r) y = some (z, s' 33, bv') ∧ (if s (34 + 3 * r + 2) - y ≤ 0 then ((f_X9_blast_L97 fuel (3 * zI r) (upd s 33 (s 33 - 1))).bind (fun q9 => (f_X9_records fuel q9.2 4 x).bind (fun q11 => (f_X9_ends fuel ps aside past 0).bind (fun q13 => some (q13.1, q13.2.1, aside, q13.2.2, q11))))) else ((f_X9_records fuel (upd s (34 + 3 * r + 2) (s (34 + 3 * r + 2) - y)) 4 x).bind (fun q15 => (f_X9_ends fuel ps aside past (s (34 + 3 * r + 2) - y)).bind (fun q17 => some (q17.1, q17.2.1, aside, q17.2.2, q15))))) = (f_X9_records fuel s' 4 x).bind (fun q15 => (f_X9_ends fuel ps aside past z).bind (fun q17 => some (q17.1, q17.2.1, aside, q17.2.2, q15))) ∧ BR s' nb' bv' ∧ QB s' W L nb' ∧ ∀ k, k < 33 ∨ 64 ≤ k → s' k = s k := by
  obtain ⟨h33, hnb, hv⟩ := id hB
  have hget : f_X7_get 30 (zI nb) bv (zI r) 2 = some (s (34 + 3 * r + 2)) := by
    rw [show (2 : Int32) = zI ((2 : Nat) : Int) from rfl, c_get hr (by omega) (by omega) (by omega), hv _ (by omega)]
    rfl
  by_cases c : 0 < s (34 + 3 * r + 2) - y
  · refine ⟨s (34 + 3 * r + 2) - y, upd bv (3 * r + 2) (s (34 + 3 * r + 2) - y), upd s (34 + 3 * r + 2) (s (34 + 3 * r + 2) - y), nb, ?_, ?_, ⟨?_, hnb, ?_⟩, ⟨?_, ?_⟩, ?_⟩
    · unfold f_X0_weaken f_X7_set
      rw [h33, hget, Option.bind_some, if_pos c, if_neg (mt_ge0 (by omega)), if_neg (by rw [mt_len (by omega) (by omega)]; omega), if_neg (by decide), if_neg (by decide), mt_32, if_pos (mt_ixn (by omega) (by omega)), Option.bind_some, mt_cln (by omega), up_ne (by omega), h33]
    · rw [if_neg (Int32.not_le.mpr c)]
    · rw [up_ne (by omega), h33]
    · intro k hk
      by_cases ck : k = 3 * r + 2
      · subst ck
        rw [up_eq]; exact (up_eq _ _ _).symm
      · rw [up_ne ck, up_ne (by omega)]; exact hv k hk
    · intro i hi
      rw [up_ne (by omega), up_ne (by omega)]
      exact hQB.1 i hi
    · intro i hi
      unfold bky
      rw [up_ne (by omega), up_ne (by omega), up_ne (by omega), up_ne (by omega)]
      exact hQB.2 i hi
    · intro k hk
      rw [up_ne (by omega)]
  · have hbl := r_blL (m := nb - 1) (by omega) (3 * (nb - 1 - r)) fuel (3 * r) (upd s 33 (s 33 - 1)) (by rw [up_eq, h33, mt_m1 (by omega)]) (by omega) (by omega)
    refine ⟨0, va_cpy bv bv (3 * r + 3) (3 * r) (3 * (nb - 1 - r)), rmb s r nb, nb - 1, ?_, ?_, ⟨?_, by omega, ?_⟩, ⟨?_, ?_⟩, ?_⟩
    · unfold f_X0_weaken f_X7_remove
      rw [h33, hget, Option.bind_some, if_neg c, c_has1 hr (by omega), Option.bind_some, if_neg n10, mt_m1 (by omega), mt_sbn (by omega), mt_3, mt_3, mt_33, if_pos (mt_cp (by omega) (by omega) (by omega) (by omega)), Option.bind_some, mt_cln (by omega), mt_cln (by omega), mt_cln (by omega), rmb_33, h33, mt_m1 (by omega)]
    · rw [if_pos (Int32.not_lt.mp c), show 3 * zI (r : Int) = zI ((3 * r : Nat) : Int) from by rw [Int32.mul_comm, mt_3], hbl, Option.bind_some]
      rfl
    · rw [rmb_33, h33, mt_m1 (by omega)]
    · intro k hk
      unfold va_cpy
      by_cases ck : 3 * r ≤ k
      · rw [if_pos (by omega), rmb_hi (by omega), hv _ (by omega)]; congr 1; omega
      · rw [if_neg (by omega), rmb_lo (by omega) (by omega), hv _ (by omega)]
    · intro i hi
      by_cases ck : r ≤ i
      · rw [rmb_hi (by omega), rmb_hi (by omega)]
        have := hQB.1 (i + 1) (by omega)
        rw [show 34 + 3 * i + 3 = 34 + 3 * (i + 1) by omega, show 34 + 3 * i + 1 + 3 = 34 + 3 * (i + 1) + 1 by omega]
        exact this
      · rw [rmb_lo (by omega) (by omega), rmb_lo (by omega) (by omega)]
        exact hQB.1 i (by omega)
    · have bk : ∀ i, i < nb - 1 → bky (rmb s r nb) i = if r ≤ i then bky s (i + 1) else bky s i := by
        intro i hi
        unfold bky
        by_cases ck : r ≤ i
        · rw [if_pos ck, rmb_hi (by omega), rmb_hi (by omega), show 34 + 3 * i + 3 = 34 + 3 * (i + 1) by omega, show 34 + 3 * i + 1 + 3 = 34 + 3 * (i + 1) + 1 by omega]
        · rw [if_neg ck, rmb_lo (by omega) (by omega), rmb_lo (by omega) (by omega)]
      intro i hi
      rw [bk i (by omega), bk (i + 1) hi]
      by_cases c1 : r ≤ i
      · rw [if_pos c1, if_pos (by omega)]; exact hQB.2 (i + 1) (by omega)
      · rw [if_neg c1]
        by_cases c2 : r ≤ i + 1
        · rw [if_pos c2]
          have := bky_mono hQB (i + 2) i (by omega) (by omega)
          exact this
        · rw [if_neg c2]; exact hQB.2 i (by omega)
    · intro k hk
      rw [rmb_lo (by omega) (by omega)]
theorem m_blast {v : sv_T} {s past : Nat → Int32} {nx ct ps : Int32} {sv : Nat → sv_T} {fuel : Nat} (hf : 5000 ≤ fuel) (h : SRE v s) (hH : HR nx ct sv ps past) (aside : Nat → Int32) (x y : Int32) : TS (fun q : sv_T => (v.1, v.2.1, v.2.2.1, v.2.2.2.1, v.2.2.2.2.1, v.2.2.2.2.2.1, q.2.2.2.2.2.2.1, q.2.2.2.2.2.2.2.1, v.2.2.2.2.2.2.2.2.1, v.2.2.2.2.2.2.2.2.2.1, v.2.2.2.2.2.2.2.2.2.2.1, v.2.2.2.2.2.2.2.2.2.2.2.1, v.2.2.2.2.2.2.2.2.2.2.2.2.1, v.2.2.2.2.2.2.2.2.2.2.2.2.2.1, v.2.2.2.2.2.2.2.2.2.2.2.2.2.2.1, q.2.2.2.2.2.2.2.2.2.2.2.2.2.2.2.1, q.2.2.2.2.2.2.2.2.2.2.2.2.2.2.2.2)) (f_X8_blast fuel v nx ct sv x y) (f_X9_blast fuel ps aside past s x y) := by
  have hS := h
  obtain ⟨W, L, nl, nb, nr, D, a, b, hsr⟩ := h
  obtain ⟨bal, bv, lv, lub, bot, rv, rfl, hG, hP, hw, hQW, hR, hB, hQB, hA, hQA, hU, hT, hQT, hRR⟩ := id hsr
  obtain ⟨nx', ct', ps', sv', past', e1, e2, hH'⟩ := push hf hS hH aside
  obtain ⟨h0, h1, hW, hL⟩ := id hG
  have h49 := mt_WL hW.2 hL.2
  have hnb := hB.2.1
  unfold f_X8_blast f_X9_blast
  rw [fI_in]
  dsimp only
  rcases mt_cell hW hL x with ⟨c, hc, rfl⟩ | hx
  · have ci : f_X5_isCell (s 0) (s 1) (zI c) = some 1 := by rw [h0, h1]; exact c_isCell1 hW hL hc
    rw [ci, r_isCell1 hG hc, Option.bind_some, if_neg n10, Option.bind_some, if_neg n10]
    rcases mt_win y 1 50 (l := 1) (h := 50) rfl rfl (by omega) (by omega) with ⟨d, rfl, h3, h4, e⟩ | e
    · rw [e, Option.bind_some, if_neg n10, Option.bind_some, if_neg n10]
      rcases m_reach hf hsr hc with ⟨r1, r2⟩ | ⟨r, hr, r1, r2⟩
      · rw [r1, r2, Option.bind_some, if_pos rfl, Option.bind_some, if_neg (by decide)]
        exact TS_stay rfl hS hH
      · obtain ⟨z, bv', s1, nb', f1, f2, f3, f4, f5⟩ := weak hf hB hQB hr (zI d) ps (hld s aside) past (zI c)
        rw [r1, r2, Option.bind_some, if_neg (mt_none r (by omega)), Option.bind_some, if_pos (by rw [show (0 : Int32) = zI ((0 : Nat) : Int) from rfl, mt_len (by omega) (by omega)]; omega), r_hold hf, Option.bind_some, mt_343, mt_p2, if_pos (mt_ixn (by omega) (by omega)), if_pos (mt_ixn (by omega) (by omega)), mt_cln (by omega), f2, e1, Option.bind_some, f1, Option.bind_some]
        have h2 : SRE (s 0, s 1, s 5, s 7, s 6, bal, s1 33, bv', s 8, lv, lub, s 2, s 3, s 4, bot, s 166, rv) s1 := ⟨W, L, nl, nb', nr, D, a, b, ⟨bal, bv', lv, lub, bot, rv, by rw [f5 0 (by omega), f5 1 (by omega), f5 2 (by omega), f5 3 (by omega), f5 4 (by omega), f5 5 (by omega), f5 6 (by omega), f5 7 (by omega), f5 8 (by omega), f5 166 (by omega)], GR_c (f5 _ (by omega)) (f5 _ (by omega)) hG, PR_c (f5 _ (by omega)) (f5 _ (by omega)) (f5 _ (by omega)) hP, WR_c (f5 _ (by omega)) hw, QW_c (f5 _ (by omega)) hQW, LR_c (fun k _ _ => f5 _ (by omega)) hR, f3, f4, AR_c (fun k _ _ => f5 _ (by omega)) hA, QA_c (fun k _ _ => f5 _ (by omega)) hQA, UR_c (fun k _ _ => f5 _ (by omega)) hU, TR_c (fun k _ _ => f5 _ (by omega)) hT, QT_c (fun k _ _ => f5 _ (by omega)) hQT, RR_c (fun k _ _ => f5 _ (by omega)) hRR⟩⟩
        obtain ⟨rc, rv', s', g1, g2, g3, g4⟩ := recs hf h2 4 (zI c)
        dsimp only
        rw [g1, g2, Option.bind_some, Option.bind_some, e2, Option.bind_some]
        exact ⟨_, _, rfl, rfl, rfl, g4, hH'⟩
    · rw [e]; exact TS_stay rfl hS hH
  · have ci : f_X5_isCell (s 0) (s 1) x = some 0 := by rw [h0, h1]; exact c_isCell0 hx
    rw [ci, r_isCell0 hG hx]; exact TS_stay rfl hS hH
theorem t_blast : MT_blast Cpl := by
  intro fuel hf c r x1 x2 h
  obtain ⟨q1, q2, e1, e2, e3, e4, e5⟩ := m_blast hf h.1 h.2.1 _ x1 x2
  exact ⟨q1, q2, e1, e2, e3, e4, e5, h.2.2.1, h.2.2.2⟩
