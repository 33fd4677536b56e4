/-! reading the text: values of an item -/
theorem bw (x lo hi : Int32) : (f_X8_isWithin x lo hi).bind (fun q => if q &&& 1 = q then some q else none) = f_X8_isWithin x lo hi := by
  rw [fI_w]
  by_cases c : lo ≤ x ∧ x ≤ hi
  · rw [if_pos c]; rfl
  · rw [if_neg c]; rfl
def mny (k : Nat) : Nat := if k = 0 then 2 else if k < 4 then 1 else if k = 4 then 3 else 4
theorem mny_b (k : Nat) : 1 ≤ mny k ∧ mny k ≤ 4 := by unfold mny; split <;> (try split) <;> (try split) <;> omega
def okv (s to : Nat → Int32) (W L nb k j : Nat) (x : Int32) : Prop := (∃ z : Nat, x = zI z ∧ z ≤ 9999) ∧ (k = 0 → ∃ z : Nat, x = zI z ∧ 3 ≤ z ∧ z ≤ 7) ∧ (k = 2 → ∃ z : Nat, x = zI z ∧ z ≤ 400) ∧ (k = 4 → j = 0 → ∃ z : Nat, x = zI z ∧ 1 ≤ z ∧ z ≤ 100) ∧ (k = 5 → j = 0 → ∃ z : Nat, x = zI z ∧ z < W) ∧ (k = 5 → j = 1 → ∃ z : Nat, x = zI z ∧ z < L) ∧ (k = 5 → j = 2 → ∃ z : Nat, x = zI z ∧ 1 ≤ z ∧ z ≤ 200 ∧ ∀ i, i < nb → ¬ tkn s (to 1 * s 0 + to 0) x i)
theorem okv_m {s to : Nat → Int32} {W L nb k j : Nat} (h : okv s to W L nb k j (-1)) : False := by
  obtain ⟨⟨z, h1, h2⟩, _⟩ := h
  rw [show (-1 : Int32) = zI (-1) from rfl, zI_eq (by omega) (by omega)] at h1
  omega
theorem okv_up {s to : Nat → Int32} {W L nb k i j : Nat} {x y : Int32} (hij : i ≤ j) (h : okv s to W L nb k i x) : okv s (upd to j y) W L nb k i x := by
  obtain ⟨h1, h2, h3, h4, h5, h6, h7⟩ := h
  refine ⟨h1, h2, h3, h4, h5, h6, fun e1 e2 => ?_⟩
  rw [up_ne (by omega), up_ne (by omega)]
  exact h7 e1 e2
theorem alw {s to va bv : Nat → Int32} {W L nb k j fuel : Nat} (hf : 5000 ≤ fuel) (hG : GR s W L) (hB : BR s nb bv) (hk : k < 6) (hj : j < mny k) (hv : ∀ i, i < j → va i = to i) (x : Int32) : ∃ β : Int32, f_X6_isAllowed fuel (s 0) (s 1) (s 33) bv x va (zI k) (zI j) = some β ∧ f_X9_isTold fuel x s to (zI k) (zI j) = some β ∧ (β = 0 ∨ (β = 1 ∧ okv s to W L nb k j x)) := by
  obtain ⟨k0, k1, hW, hL⟩ := id hG
  have no : ∀ (a b : Nat) {Q : Prop}, a ≠ b → a = b → Q := fun a b Q h1 h2 => absurd h2 h1
  rcases (show k = 0 ∨ k = 1 ∨ k = 2 ∨ k = 3 ∨ k = 4 ∨ k = 5 by omega) with rfl | rfl | rfl | rfl | rfl | rfl
  · unfold f_X6_isAllowed f_X9_isTold
    rw [if_pos (by decide), if_pos (by decide), fI_in, bw]
    rcases mt_win x 3 7 (l := 3) (h := 7) rfl rfl (by omega) (by omega) with ⟨z, rfl, h1, h2, e⟩ | e
    · exact ⟨1, e, e, Or.inr ⟨rfl, ⟨z, rfl, by omega⟩, fun _ => ⟨z, rfl, h1, h2⟩, no _ _ (by omega), no _ _ (by omega), no _ _ (by omega), no _ _ (by omega), no _ _ (by omega)⟩⟩
    · exact ⟨0, e, e, Or.inl rfl⟩
  · unfold f_X6_isAllowed f_X9_isTold
    rw [if_neg (by decide), if_pos (by decide), if_neg (by decide), if_pos (by decide), fI_in, bw]
    rcases mt_win x 1 9999 (l := 1) (h := 9999) rfl rfl (by omega) (by omega) with ⟨z, rfl, h1, h2, e⟩ | e
    · exact ⟨1, e, e, Or.inr ⟨rfl, ⟨z, rfl, by omega⟩, no _ _ (by omega), no _ _ (by omega), no _ _ (by omega), no _ _ (by omega), no _ _ (by omega), no _ _ (by omega)⟩⟩
    · exact ⟨0, e, e, Or.inl rfl⟩
  · unfold f_X6_isAllowed f_X9_isTold
    rw [if_neg (by decide), if_neg (by decide), if_pos (by decide), if_neg (by decide), if_neg (by decide), if_pos (by decide), fI_in, bw]
    rcases mt_win x 0 400 (l := 0) (h := 400) rfl rfl (by omega) (by omega) with ⟨z, rfl, h1, h2, e⟩ | e
    · exact ⟨1, e, e, Or.inr ⟨rfl, ⟨z, rfl, by omega⟩, no _ _ (by omega), fun _ => ⟨z, rfl, h2⟩, no _ _ (by omega), no _ _ (by omega), no _ _ (by omega), no _ _ (by omega)⟩⟩
    · exact ⟨0, e, e, Or.inl rfl⟩
  · unfold f_X6_isAllowed f_X9_isTold
    rw [if_neg (by decide), if_neg (by decide), if_neg (by decide), if_pos (by decide), if_neg (by decide), if_neg (by decide), if_neg (by decide), if_pos (by decide), fI_in, bw]
    rcases mt_win x 0 9999 (l := 0) (h := 9999) rfl rfl (by omega) (by omega) with ⟨z, rfl, h1, h2, e⟩ | e
    · exact ⟨1, e, e, Or.inr ⟨rfl, ⟨z, rfl, by omega⟩, no _ _ (by omega), no _ _ (by omega), no _ _ (by omega), no _ _ (by omega), no _ _ (by omega), no _ _ (by omega)⟩⟩
    · exact ⟨0, e, e, Or.inl rfl⟩
  · unfold f_X6_isAllowed f_X9_isTold
    have hj3 : j < 3 := hj
    rw [if_neg (by decide), if_neg (by decide), if_neg (by decide), if_neg (by decide), if_pos (by decide), if_neg (by decide), if_neg (by decide), if_neg (by decide), if_neg (by decide), if_pos (by decide)]
    rcases (show j = 0 ∨ j = 1 ∨ j = 2 by omega) with rfl | rfl | rfl
    · rw [if_pos (by decide)]
      unfold f_X6_isAllowedInLayer f_X9_isTold_J96
      rw [if_pos (by decide), if_pos (by decide)]
      simp only [fI_in, bw]
      rcases mt_win x 1 100 (l := 1) (h := 100) rfl rfl (by omega) (by omega) with ⟨z, rfl, h1, h2, e⟩ | e
      · exact ⟨1, e, e, Or.inr ⟨rfl, ⟨z, rfl, by omega⟩, no _ _ (by omega), no _ _ (by omega), fun _ _ => ⟨z, rfl, h1, h2⟩, no _ _ (by omega), no _ _ (by omega), no _ _ (by omega)⟩⟩
      · exact ⟨0, e, e, Or.inl rfl⟩
    · rw [if_neg (by decide)]
      unfold f_X6_isAllowedInLayer f_X9_isTold_J96
      rw [if_neg (by decide), if_pos (by decide), if_neg (by decide), if_pos (by decide)]
      simp only [fI_in, bw]
      rcases mt_win x 0 50 (l := 0) (h := 50) rfl rfl (by omega) (by omega) with ⟨z, rfl, h1, h2, e⟩ | e
      · exact ⟨1, e, e, Or.inr ⟨rfl, ⟨z, rfl, by omega⟩, no _ _ (by omega), no _ _ (by omega), fun _ => no _ _ (by omega), no _ _ (by omega), no _ _ (by omega), no _ _ (by omega)⟩⟩
      · exact ⟨0, e, e, Or.inl rfl⟩
    · rw [if_neg (by decide)]
      unfold f_X6_isAllowedInLayer f_X9_isTold_J96
      rw [if_neg (by decide), if_neg (by decide), if_neg (by decide), if_neg (by decide)]
      simp only [fI_in, bw]
      rcases mt_win x 0 9 (l := 0) (h := 9) rfl rfl (by omega) (by omega) with ⟨z, rfl, h1, h2, e⟩ | e
      · exact ⟨1, e, e, Or.inr ⟨rfl, ⟨z, rfl, by omega⟩, no _ _ (by omega), no _ _ (by omega), fun _ => no _ _ (by omega), no _ _ (by omega), no _ _ (by omega), no _ _ (by omega)⟩⟩
      · exact ⟨0, e, e, Or.inl rfl⟩
  · unfold f_X6_isAllowed f_X9_isTold
    have hj4 : j < 4 := hj
    rw [if_neg (by decide), if_neg (by decide), if_neg (by decide), if_neg (by decide), if_neg (by decide), if_pos (by decide), if_neg (by decide), if_neg (by decide), if_neg (by decide), if_neg (by decide), if_neg (by decide)]
    unfold f_X6_isAllowedInBoulder f_X9_isBoulderTold
    rcases (show j = 0 ∨ j = 1 ∨ j = 2 ∨ j = 3 by omega) with rfl | rfl | rfl | rfl
    · rw [if_pos (by decide), if_neg (by decide), if_pos (by decide)]
      simp only [fI_in, bw]
      rw [k0, mt_m1 (by omega)]
      rcases mt_win x 0 (zI ((W - 1 : Nat) : Int)) (l := 0) (h := W - 1) rfl rfl (by omega) (by omega) with ⟨z, rfl, h1, h2, e⟩ | e
      · exact ⟨1, e, e, Or.inr ⟨rfl, ⟨z, rfl, by omega⟩, no _ _ (by omega), no _ _ (by omega), no _ _ (by omega), fun _ _ => ⟨z, rfl, by omega⟩, fun _ => no _ _ (by omega), fun _ => no _ _ (by omega)⟩⟩
      · exact ⟨0, e, e, Or.inl rfl⟩
    · rw [if_neg (by decide), if_pos (by decide), if_neg (by decide), if_neg (by decide)]
      simp only [fI_in, bw]
      rw [k1, mt_m1 (by omega)]
      rcases mt_win x 0 (zI ((L - 1 : Nat) : Int)) (l := 0) (h := L - 1) rfl rfl (by omega) (by omega) with ⟨z, rfl, h1, h2, e⟩ | e
      · exact ⟨1, e, e, Or.inr ⟨rfl, ⟨z, rfl, by omega⟩, no _ _ (by omega), no _ _ (by omega), no _ _ (by omega), fun _ => no _ _ (by omega), fun _ _ => ⟨z, rfl, by omega⟩, fun _ => no _ _ (by omega)⟩⟩
      · exact ⟨0, e, e, Or.inl rfl⟩
    · rw [if_neg (by decide), if_neg (by decide), if_pos (by decide), if_pos (by decide), if_neg (by decide), fI_in]
      rcases mt_win x 1 200 (l := 1) (h := 200) rfl rfl (by omega) (by omega) with ⟨z, rfl, h1, h2, e⟩ | e
      · rw [e, Option.bind_some, if_neg n10, Option.bind_some, if_neg n10]
        unfold f_X6_cellInValues
        rw [Option.bind_some, hv 0 (by omega), hv 1 (by omega)]
        by_cases tk : ∃ i, i < nb ∧ tkn s (to 1 * s 0 + to 0) (zI z) i
        · obtain ⟨t1, q, hq, t2⟩ := c_tak1 hf hB (to 1 * s 0 + to 0) (zI z) tk
          rw [← hB.1] at t1
          have hnb := hB.2.1
          rw [t1, t2, Option.bind_some, if_neg n10, Option.bind_some, Option.bind_some, if_pos (show (0 : Int32) ≤ zI (q : Int) from Int32.not_lt.mp (mt_ge0 (by omega)))]
          exact ⟨0, rfl, rfl, Or.inl rfl⟩
        · have tk' : ∀ i, i < nb → ¬ tkn s (to 1 * s 0 + to 0) (zI z) i := fun i hi ht => tk ⟨i, hi, ht⟩
          obtain ⟨t1, t2⟩ := c_tak0 hf hB (to 1 * s 0 + to 0) (zI z) tk'
          rw [← hB.1] at t1
          rw [t1, t2, Option.bind_some, if_pos rfl, Option.bind_some, Option.bind_some, if_neg (show ¬ (0 : Int32) ≤ -1000009 by decide)]
          exact ⟨1, rfl, rfl, Or.inr ⟨rfl, ⟨z, rfl, by omega⟩, no _ _ (by omega), no _ _ (by omega), no _ _ (by omega), fun _ => no _ _ (by omega), fun _ => no _ _ (by omega), fun _ _ => ⟨z, rfl, h1, h2, tk'⟩⟩⟩
      · rw [e]
        exact ⟨0, rfl, rfl, Or.inl rfl⟩
    · rw [if_neg (by decide), if_neg (by decide), if_neg (by decide), if_pos (by decide), if_pos (by decide)]
      simp only [fI_in, bw]
      rcases mt_win x 1 50 (l := 1) (h := 50) rfl rfl (by omega) (by omega) with ⟨z, rfl, h1, h2, e⟩ | e
      · exact ⟨1, e, e, Or.inr ⟨rfl, ⟨z, rfl, by omega⟩, no _ _ (by omega), no _ _ (by omega), no _ _ (by omega), fun _ => no _ _ (by omega), fun _ => no _ _ (by omega), fun _ => no _ _ (by omega)⟩⟩
      · exact ⟨0, e, e, Or.inl rfl⟩
theorem r_rd0 (fuel : Nat) (ty : Int32) (s tx : Nat → Int32) (x1 x2 : Int32) (m : Nat) (x4 a kd fr vl : Int32) (to : Nat → Int32) : f_X9_isRead_L10 fuel ty s tx x1 x2 (m + 1) 0 x4 a kd fr vl to = some (0, x4, a, kd, fr, vl, to) := by
  rw [f_X9_isRead_L10]
  by_cases c : x2 ≤ x4
  · rw [if_pos c]
  · rw [if_neg c, if_pos rfl]
theorem rdV {s ch tx bv : Nat → Int32} {n W L nb k fuel : Nat} (hf : 5000 ≤ fuel) (hn : n ≤ 200) (hx : ∀ i, i < n → ch i = tx i) (hG : GR s W L) (hB : BR s nb bv) (hk : k < 6) : ∀ (r j m p : Nat) (tc sc tr sr nu vl : Int32) (va to : Nat → Int32), j + r = mny k → r + 1 < m → p ≤ n → (∀ i, i < j → va i = to i ∧ okv s to W L nb k i (to i)) → ∃ (u : Nat) (z z' β : Int32) (p' : Nat) (tc' sc' tr' sr' nu' vl' : Int32) (va' to' : Nat → Int32), f_X6_readValues_L31 fuel (s 0) (s 1) (s 33) bv (zI n) ch (zI k) (zI (mny k : Nat)) m (zI j) (zI p) tc sc nu va = some (u, z, zI p', tc', sc', nu', va') ∧ f_X9_isRead_L10 fuel (zI n) s tx (zI k) (zI (mny k : Nat)) m 1 (zI j) (zI p) tr sr vl to = some (β, z', zI p', tr', sr', vl', to') ∧ p ≤ p' ∧ p' ≤ n ∧ ((u = 0 ∧ β = 1 ∧ ∀ i, i < mny k → va' i = to' i ∧ okv s to' W L nb k i (to' i)) ∨ (u = 1 ∧ β = 0 ∧ ∃ f' : Nat, sc' = zI f' ∧ sr' = zI f' ∧ f' ≤ n)) := by
  have hb := mny_b k
  intro r
  induction r with
  | zero =>
    intro j m p tc sc tr sr nu vl va to h1 h2 hp hv
    obtain ⟨m, rfl⟩ : ∃ q, m = q + 1 := ⟨m - 1, by omega⟩
    have hle : zI (mny k : Nat) ≤ zI (j : Int) := by rw [mt_len (by omega) (by omega)]; omega
    rw [f_X6_readValues_L31, f_X9_isRead_L10, if_pos hle, if_pos hle]
    exact ⟨0, _, _, 1, p, _, _, _, _, _, _, _, _, rfl, rfl, by omega, hp, Or.inl ⟨rfl, rfl, fun i hi => hv i (by omega)⟩⟩
  | succ r ih =>
    intro j m p tc sc tr sr nu vl va to h1 h2 hp hv
    obtain ⟨m, rfl⟩ : ∃ q, m = q + 2 := ⟨m - 2, by omega⟩
    obtain ⟨p', f, kc, nu', kr, vl', a1, a2, a3, b1, b2, b3⟩ := t_tok hf hn hx hp nu vl
    have hlt : ¬ zI (mny k : Nat) ≤ zI (j : Int) := by rw [mt_len (by omega) (by omega)]; omega
    have hix : mg_ix (zI (j : Int)) 4 = true := mt_ixn (by omega) (by omega)
    have hcl : (zI (j : Int)).toNatClampNeg = j := mt_cln (by omega)
    rw [f_X6_readValues_L31, f_X9_isRead_L10, if_neg hlt, if_neg hlt, if_neg n10, a1, a2, Option.bind_some, Option.bind_some]
    simp only [hix, hcl, ↓reduceIte, r_rd0, mt_s1]
    rcases b3 with ⟨rfl, rfl⟩ | ⟨b4, ⟨rfl, rfl⟩ | ⟨rfl, rfl⟩ | ⟨rfl, rfl⟩ | ⟨rfl, rfl, rfl⟩ | ⟨rfl, rfl, rfl⟩⟩
    · rw [if_neg (by decide), if_neg (by decide)]
      exact ⟨1, _, _, 0, p', _, _, _, _, _, _, _, _, rfl, rfl, by omega, b2, Or.inr ⟨rfl, rfl, f, rfl, rfl, by omega⟩⟩
    · rw [if_neg (by decide), if_neg (by decide)]
      exact ⟨1, _, _, 0, p', _, _, _, _, _, _, _, _, rfl, rfl, by omega, b2, Or.inr ⟨rfl, rfl, f, rfl, rfl, by omega⟩⟩
    · rw [if_neg (by decide), if_neg (by decide)]
      exact ⟨1, _, _, 0, p', _, _, _, _, _, _, _, _, rfl, rfl, by omega, b2, Or.inr ⟨rfl, rfl, f, rfl, rfl, by omega⟩⟩
    · rw [if_neg (by decide), if_neg (by decide)]
      exact ⟨1, _, _, 0, p', _, _, _, _, _, _, _, _, rfl, rfl, by omega, b2, Or.inr ⟨rfl, rfl, f, rfl, rfl, by omega⟩⟩
    · obtain ⟨β, d1, d2, d3⟩ := alw (va := va) (to := to) hf hG hB hk (show j < mny k by omega) (fun i hi => (hv i hi).1) nu'
      rw [if_pos rfl, if_pos rfl, d1, d2, Option.bind_some, Option.bind_some]
      rcases d3 with rfl | ⟨rfl, ok⟩
      · rw [if_pos rfl, if_pos rfl]
        exact ⟨1, _, _, 0, p', _, _, _, _, _, _, _, _, rfl, rfl, by omega, b2, Or.inr ⟨rfl, rfl, f, rfl, rfl, by omega⟩⟩
      · rw [if_neg n10, if_neg n10]
        obtain ⟨u, z, z', β, p2, tc', sc', tr', sr', nu2, vl2, va', to', e1, e2, e3, e4, e5⟩ := ih (j + 1) (m + 1) p' 2 (zI f) 2 (zI f) nu' nu' (upd va j nu') (upd to j nu') (by omega) (by omega) b2 (fun i hi => by
          by_cases c : i = j
          · subst c
            rw [up_eq, up_eq]
            exact ⟨rfl, okv_up (Nat.le_refl _) ok⟩
          · rw [up_ne c, up_ne c]
            exact ⟨(hv i (by omega)).1, okv_up (by omega) (hv i (by omega)).2⟩)
        exact ⟨u, z, z', β, p2, tc', sc', tr', sr', nu2, vl2, va', to', e1, e2, by omega, e4, e5⟩
    · obtain ⟨β, d1, d2, d3⟩ := alw (va := va) (to := to) hf hG hB hk (show j < mny k by omega) (fun i hi => (hv i hi).1) (-1)
      rw [if_pos rfl, if_neg (by decide), d1, Option.bind_some]
      rcases d3 with rfl | ⟨rfl, ok⟩
      · rw [if_pos rfl]
        exact ⟨1, _, _, 0, p', _, _, _, _, _, _, _, _, rfl, rfl, by omega, b2, Or.inr ⟨rfl, rfl, f, rfl, rfl, by omega⟩⟩
      · exact absurd ok (fun h => okv_m h)
/-! entering an item -/
def FR (s : Nat → Int32) : Prop := s 2 = 0 ∧ s 3 = 0 ∧ s 4 = 0 ∧ s 33 = 0 ∧ ∀ j, 64 ≤ j → j < 166 → s j = 0
theorem FR_rsz {s : Nat → Int32} (h : FR s) (x y : Int32) (k : Nat) : upd (upd s 0 x) 1 y k = rsz s x y k := by
  obtain ⟨h2, h3, h4, h33, hz⟩ := h
  unfold rsz
  by_cases c : 64 ≤ k ∧ k < 166
  · rw [if_pos c, up_ne (by omega), up_ne (by omega), hz k c.1 c.2]
  · rw [if_neg c]
    by_cases c33 : k = 33
    · subst c33; rw [up_eq, up_ne (by omega), up_ne (by omega), h33]
    · rw [up_ne c33]
      by_cases c4 : k = 4
      · subst c4; rw [up_eq, up_ne (by omega), up_ne (by omega), h4]
      · rw [up_ne c4]
        by_cases c3 : k = 3
        · subst c3; rw [up_eq, up_ne (by omega), up_ne (by omega), h3]
        · rw [up_ne c3]
          by_cases c2 : k = 2
          · subst c2; rw [up_eq, up_ne (by omega), up_ne (by omega), h2]
          · rw [up_ne c2]
theorem ent {v : sv_T} {s va to : Nat → Int32} {W L nl nb nr D k fuel : Nat} {a b : Int} (hf : 5000 ≤ fuel) (h : SR v s W L nl nb nr D a b) (hk : k < 6) (hv : ∀ i, i < mny k → va i = to i ∧ okv s to W L nb k i (to i)) (h0 : k = 0 → FR s) (h4 : k = 4 → nl < 8) (h5 : k = 5 → nb < 10) : ∃ (v1 : sv_T) (s' : Nat → Int32), f_X6_enter fuel v va (zI k) = some v1 ∧ f_X9_puts fuel s to (zI k) = some s' ∧ SRE (v1.1, v1.2.1, v1.2.2.1, v1.2.2.2.1, v1.2.2.2.2.1, v1.2.2.2.2.2.1, v1.2.2.2.2.2.2.1, v1.2.2.2.2.2.2.2.1, v1.2.2.2.2.2.2.2.2.1, v1.2.2.2.2.2.2.2.2.2.1, v1.2.2.2.2.2.2.2.2.2.2.1, v1.2.2.2.2.2.2.2.2.2.2.2.1, v1.2.2.2.2.2.2.2.2.2.2.2.2.1, v1.2.2.2.2.2.2.2.2.2.2.2.2.2.1, v1.2.2.2.2.2.2.2.2.2.2.2.2.2.2.1, v.2.2.2.2.2.2.2.2.2.2.2.2.2.2.2.1, v.2.2.2.2.2.2.2.2.2.2.2.2.2.2.2.2) s' := by
  have hsr := h
  obtain ⟨bal, bv, lv, lub, bot, rv, rfl, hG, hP, hw, hQW, hR, hB, hQB, hA, hQA, hU, hT, hQT, hRR⟩ := h
  have hG' := id hG
  obtain ⟨k0, k1, hW, hL⟩ := hG'
  have h49 := mt_WL hW.2 hL.2
  unfold f_X6_enter f_X9_puts
  rcases (show k = 0 ∨ k = 1 ∨ k = 2 ∨ k = 3 ∨ k = 4 ∨ k = 5 by omega) with rfl | rfl | rfl | rfl | rfl | rfl
  · obtain ⟨e0, o0⟩ := hv 0 (by decide)
    obtain ⟨e1, o1⟩ := hv 1 (by decide)
    obtain ⟨x, x1, x2, x3⟩ := o0.2.1 rfl
    obtain ⟨y, y1, y2, y3⟩ := o1.2.1 rfl
    rw [if_pos (by decide), if_pos (by decide), mt_X5_replaceCaisson hf, Option.bind_some, e0, e1, x1, y1]
    refine ⟨_, _, rfl, rfl, ?_⟩
    exact SRE_c (s := rsz s (zI x) (zI y)) (fun k _ => FR_rsz (h0 rfl) _ _ k) ⟨x, y, nl, 0, nr, 0, 0, 0, SR_rsz hsr ⟨x2, x3⟩ ⟨y2, y3⟩ bal bv lub bot⟩
  · obtain ⟨e0, o0⟩ := hv 0 (by decide)
    obtain ⟨m, m1, m2⟩ := o0.1
    rw [if_neg (by decide), if_pos (by decide), if_neg (by decide), if_neg (by decide), if_neg (by decide), if_pos (by decide), e0, m1]
    refine ⟨_, _, rfl, rfl, ?_⟩
    show SRE (s 0, s 1, zI m, s 7, s 6, bal, s 33, bv, s 8, lv, lub, s 2, s 3, s 4, bot, s 166, rv) (upd s 5 (zI m))
    exact ⟨W, L, nl, nb, nr, D, a, b, ⟨bal, bv, lv, lub, bot, rv, rfl, GR_c (up_ne (by omega)) (up_ne (by omega)) hG, PR_c (up_ne (by omega)) (up_ne (by omega)) (up_ne (by omega)) hP, WR_c (up_ne (by omega)) hw, ⟨m, up_eq _ _ _, m2⟩, LR_c (fun k _ _ => up_ne (by omega)) hR, BR_c (fun k _ _ => up_ne (by omega)) hB, QB_c hB.2.1 (fun k _ _ => up_ne (by omega)) hQB, AR_c (fun k _ _ => up_ne (by omega)) hA, QA_c (fun k _ _ => up_ne (by omega)) hQA, UR_c (fun k _ _ => up_ne (by omega)) hU, TR_c (fun k _ _ => up_ne (by omega)) hT, QT_c (fun k _ _ => up_ne (by omega)) hQT, RR_c (fun k _ _ => up_ne (by omega)) hRR⟩⟩
  · obtain ⟨e0, o0⟩ := hv 0 (by decide)
    obtain ⟨m, m1, m2⟩ := o0.2.2.1 rfl
    rw [if_neg (by decide), if_neg (by decide), if_pos (by decide), if_neg (by decide), if_neg (by decide), if_neg (by decide), if_neg (by decide), if_pos (by decide), e0, m1]
    refine ⟨_, _, rfl, rfl, ?_⟩
    show SRE (s 0, s 1, s 5, s 7, zI m, bal, s 33, bv, s 8, lv, lub, s 2, s 3, s 4, bot, s 166, rv) (upd s 6 (zI m))
    exact ⟨W, L, nl, nb, nr, D, a, b, ⟨bal, bv, lv, lub, bot, rv, rfl, GR_c (up_ne (by omega)) (up_ne (by omega)) hG, PR_c (up_ne (by omega)) (up_ne (by omega)) (up_ne (by omega)) hP, ⟨m, up_eq _ _ _, m2⟩, QW_c (up_ne (by omega)) hQW, LR_c (fun k _ _ => up_ne (by omega)) hR, BR_c (fun k _ _ => up_ne (by omega)) hB, QB_c hB.2.1 (fun k _ _ => up_ne (by omega)) hQB, AR_c (fun k _ _ => up_ne (by omega)) hA, QA_c (fun k _ _ => up_ne (by omega)) hQA, UR_c (fun k _ _ => up_ne (by omega)) hU, TR_c (fun k _ _ => up_ne (by omega)) hT, QT_c (fun k _ _ => up_ne (by omega)) hQT, RR_c (fun k _ _ => up_ne (by omega)) hRR⟩⟩
  · obtain ⟨e0, o0⟩ := hv 0 (by decide)
    rw [if_neg (by decide), if_neg (by decide), if_neg (by decide), if_pos (by decide), if_neg (by decide), if_neg (by decide), if_neg (by decide), if_neg (by decide), if_neg (by decide), e0]
    refine ⟨_, _, rfl, rfl, ?_⟩
    show SRE (s 0, s 1, s 5, to 0, s 6, bal, s 33, bv, s 8, lv, lub, s 2, s 3, s 4, bot, s 166, rv) (upd s 7 (to 0))
    exact ⟨W, L, nl, nb, nr, D, a, b, ⟨bal, bv, lv, lub, bot, rv, rfl, GR_c (up_ne (by omega)) (up_ne (by omega)) hG, PR_c (up_ne (by omega)) (up_ne (by omega)) (up_ne (by omega)) hP, WR_c (up_ne (by omega)) hw, QW_c (up_ne (by omega)) hQW, LR_c (fun k _ _ => up_ne (by omega)) hR, BR_c (fun k _ _ => up_ne (by omega)) hB, QB_c hB.2.1 (fun k _ _ => up_ne (by omega)) hQB, AR_c (fun k _ _ => up_ne (by omega)) hA, QA_c (fun k _ _ => up_ne (by omega)) hQA, UR_c (fun k _ _ => up_ne (by omega)) hU, TR_c (fun k _ _ => up_ne (by omega)) hT, QT_c (fun k _ _ => up_ne (by omega)) hQT, RR_c (fun k _ _ => up_ne (by omega)) hRR⟩⟩
  · obtain ⟨e0, o0⟩ := hv 0 (by decide)
    obtain ⟨e1, _⟩ := hv 1 (by decide)
    obtain ⟨e2, _⟩ := hv 2 (by decide)
    obtain ⟨t, t1, t2⟩ := o0.2.2.2.1 rfl rfl
    obtain ⟨lv', s', f1, f2, f3, f4⟩ := putL hR (h4 rfl) t2 (to 1) (to 2)
    rw [if_neg (by decide), if_neg (by decide), if_neg (by decide), if_neg (by decide), if_pos (by decide), if_neg (by decide), if_pos (by decide), e0, e1, e2, t1]
    dsimp only
    rw [f1, f2, Option.bind_some, Option.bind_some]
    refine ⟨_, _, rfl, rfl, ?_⟩
    show SRE (s 0, s 1, s 5, s 7, s 6, bal, s 33, bv, s' 8, lv', lub, s 2, s 3, s 4, bot, s 166, rv) s'
    exact ⟨W, L, nl + 1, nb, nr, D, a, b, ⟨bal, bv, lv', lub, bot, rv, by rw [f4 0 (by omega), f4 1 (by omega), f4 2 (by omega), f4 3 (by omega), f4 4 (by omega), f4 5 (by omega), f4 6 (by omega), f4 7 (by omega), f4 33 (by omega), f4 166 (by omega)], GR_c (f4 _ (by omega)) (f4 _ (by omega)) hG, PR_c (f4 _ (by omega)) (f4 _ (by omega)) (f4 _ (by omega)) hP, WR_c (f4 _ (by omega)) hw, QW_c (f4 _ (by omega)) hQW, f3, BR_c (fun k _ _ => f4 _ (by omega)) hB, QB_c hB.2.1 (fun k _ _ => f4 _ (by omega)) hQB, AR_c (fun k _ _ => f4 _ (by omega)) hA, QA_c (fun k _ _ => f4 _ (by omega)) hQA, UR_c (fun k _ _ => f4 _ (by omega)) hU, TR_c (fun k _ _ => f4 _ (by omega)) hT, QT_c (fun k _ _ => f4 _ (by omega)) hQT, RR_c (fun k _ _ => f4 _ (by omega)) hRR⟩⟩
  · obtain ⟨e0, o0⟩ := hv 0 (by decide)
    obtain ⟨e1, o1⟩ := hv 1 (by decide)
    obtain ⟨e2, o2⟩ := hv 2 (by decide)
    obtain ⟨e3, _⟩ := hv 3 (by decide)
    obtain ⟨x, x1, x2⟩ := o0.2.2.2.2.1 rfl rfl
    obtain ⟨y, y1, y2⟩ := o1.2.2.2.2.2.1 rfl rfl
    obtain ⟨d, d1, d2, d3, d4⟩ := o2.2.2.2.2.2.2 rfl rfl
    have hxy := (mt_xy x2 y2).1
    have hc : to 1 * s 0 + to 0 = zI ((y * W + x : Nat) : Int) := by rw [y1, k0, x1, zI_mul, zI_add]; congr 1
    rw [hc, d1] at d4
    obtain ⟨bv', s', k', f1, f2, f3, f4, f5⟩ := putB hf h49 hB (h5 rfl) hQB hxy ⟨d2, d3⟩ d4 (to 3)
    unfold f_X6_cellInValues
    rw [if_neg (by decide), if_neg (by decide), if_neg (by decide), if_neg (by decide), if_neg (by decide), if_neg (by decide), if_neg (by decide), if_pos (by decide), e0, e1, e2, e3, Option.bind_some]
    dsimp only
    rw [hc, d1, f1, f2, Option.bind_some, Option.bind_some]
    refine ⟨_, _, rfl, rfl, ?_⟩
    show SRE (s 0, s 1, s 5, s 7, s 6, bal, s' 33, bv', s 8, lv, lub, s 2, s 3, s 4, bot, s 166, rv) s'
    exact ⟨W, L, nl, nb + 1, nr, D, a, b, ⟨bal, bv', lv, lub, bot, rv, by rw [f5 0 (by omega), f5 1 (by omega), f5 2 (by omega), f5 3 (by omega), f5 4 (by omega), f5 5 (by omega), f5 6 (by omega), f5 7 (by omega), f5 8 (by omega), f5 166 (by omega)], GR_c (f5 _ (by omega)) (f5 _ (by omega)) hG, PR_c (f5 _ (by omega)) (f5 _ (by omega)) (f5 _ (by omega)) hP, WR_c (f5 _ (by omega)) hw, QW_c (f5 _ (by omega)) hQW, LR_c (fun k _ _ => f5 _ (by omega)) hR, f3, f4, AR_c (fun k _ _ => f5 _ (by omega)) hA, QA_c (fun k _ _ => f5 _ (by omega)) hQA, UR_c (fun k _ _ => f5 _ (by omega)) hU, TR_c (fun k _ _ => f5 _ (by omega)) hT, QT_c (fun k _ _ => f5 _ (by omega)) hQT, RR_c (fun k _ _ => f5 _ (by omega)) hRR⟩⟩
