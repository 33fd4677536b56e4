/-! putting and weakening boulders -/
def tkn (s : Nat → Int32) (c d : Int32) (i : Nat) : Prop := s (34 + 3 * i) = c ∧ s (34 + 3 * i + 1) = d
theorem c_tak0 {s bv : Nat → Int32} {nb fuel : Nat} (hf : 5000 ≤ fuel) (hB : BR s nb bv) (c d : Int32) (hn : ∀ i, i < nb → ¬ tkn s c d i) : f_X0_isTaken fuel (zI nb) bv c d = some 0 ∧ f_X9_boulderAt fuel s c d = some (-1000009) := by
  obtain ⟨h33, hnb, hv⟩ := hB
  have l1 : ∀ (q i n : Nat), i + q = nb → q < n → f_X0_isTaken_L2 (zI nb) bv c d n (zI i) = some (0, zI nb) := by
    intro q
    induction q with
    | zero =>
      intro i n h1 h2
      obtain ⟨n, rfl⟩ : ∃ j, n = j + 1 := ⟨n - 1, by omega⟩
      have : i = nb := by omega
      subst this
      rw [f_X0_isTaken_L2, if_pos (by rw [mt_len (by omega) (by omega)]; omega)]
    | succ q ih =>
      intro i n h1 h2
      obtain ⟨n, rfl⟩ : ∃ j, n = j + 1 := ⟨n - 1, by omega⟩
      have ihh := ih (i + 1) n (by omega) (by omega)
      rw [f_X0_isTaken_L2, if_neg (by rw [mt_len (by omega) (by omega)]; omega), mt_s1, show (0 : Int32) = zI ((0 : Nat) : Int) from rfl, c_get (by omega) (by omega) (by omega) (by omega), Option.bind_some, show (1 : Int32) = zI ((1 : Nat) : Int) from rfl, c_get (by omega) (by omega) (by omega) (by omega), Option.bind_some]
      have a1 := hv (3 * i + 0) (by omega)
      have a2 := hv (3 * i + 1) (by omega)
      simp only [a1, a2]
      by_cases k1 : s (34 + (3 * i + 0)) = c
      · rw [if_pos k1, if_neg (show ¬ s (34 + (3 * i + 1)) = d from fun k2 => hn i (by omega) ⟨k1, k2⟩)]; exact ihh
      · rw [if_neg k1]; exact ihh
  have l2 : ∀ (q i n : Nat), i + q = nb → q < n → f_X9_boulderAt_L6 s c d n (-1000009) (zI i) = some (-1000009, zI nb) := by
    intro q
    induction q with
    | zero =>
      intro i n h1 h2
      obtain ⟨n, rfl⟩ : ∃ j, n = j + 1 := ⟨n - 1, by omega⟩
      have : i = nb := by omega
      subst this
      rw [f_X9_boulderAt_L6, h33, if_pos (by rw [mt_len (by omega) (by omega)]; omega)]
    | succ q ih =>
      intro i n h1 h2
      obtain ⟨n, rfl⟩ : ∃ j, n = j + 1 := ⟨n - 1, by omega⟩
      have ihh := ih (i + 1) n (by omega) (by omega)
      rw [f_X9_boulderAt_L6, h33, if_neg (by rw [mt_len (by omega) (by omega)]; omega), mt_343, mt_p1, if_pos (mt_ixn (by omega) (by omega)), if_pos (mt_ixn (by omega) (by omega)), mt_cln (by omega), mt_cln (by omega), mt_s1]
      by_cases k1 : s (34 + 3 * i) = c
      · rw [if_pos k1, if_neg (fun k2 => hn i (by omega) ⟨k1, k2⟩)]; exact ihh
      · rw [if_neg k1]; exact ihh
  unfold f_X0_isTaken f_X9_boulderAt
  have g1 := l1 nb 0 fuel (by omega) (by omega)
  have g2 := l2 nb 0 fuel (by omega) (by omega)
  rw [show zI ((0 : Nat) : Int) = 0 from rfl] at g1 g2
  rw [g1, g2]
  exact ⟨rfl, rfl⟩
theorem c_tak1 {s bv : Nat → Int32} {nb fuel : Nat} (hf : 5000 ≤ fuel) (hB : BR s nb bv) (c d : Int32) (hn : ∃ i, i < nb ∧ tkn s c d i) : f_X0_isTaken fuel (zI nb) bv c d = some 1 ∧ ∃ k : Nat, k < nb ∧ f_X9_boulderAt fuel s c d = some (zI k) := by
  obtain ⟨h33, hnb, hv⟩ := hB
  have l1 : ∀ (q i n : Nat), i + q = nb → q < n → (∃ j, i ≤ j ∧ j < nb ∧ tkn s c d j) → ∃ z, f_X0_isTaken_L2 (zI nb) bv c d n (zI i) = some (1, z) := by
    intro q
    induction q with
    | zero =>
      intro i n h1 h2 h3
      obtain ⟨j, h4, h5, _⟩ := h3
      omega
    | succ q ih =>
      intro i n h1 h2 h3
      obtain ⟨n, rfl⟩ : ∃ j, n = j + 1 := ⟨n - 1, by omega⟩
      have ihh : ¬ tkn s c d i → ∃ z, f_X0_isTaken_L2 (zI nb) bv c d n (zI ((i + 1 : Nat) : Int)) = some (1, z) := by
        intro h
        obtain ⟨j, h4, h5, h6⟩ := h3
        refine ih (i + 1) n (by omega) (by omega) ⟨j, ?_, h5, h6⟩
        by_cases e : i = j
        · subst e; exact absurd h6 h
        · omega
      rw [f_X0_isTaken_L2, if_neg (by rw [mt_len (by omega) (by omega)]; omega), mt_s1, show (0 : Int32) = zI ((0 : Nat) : Int) from rfl, c_get (by omega) (by omega) (by omega) (by omega), Option.bind_some, show (1 : Int32) = zI ((1 : Nat) : Int) from rfl, c_get (by omega) (by omega) (by omega) (by omega), Option.bind_some]
      have a1 := hv (3 * i + 0) (by omega)
      have a2 := hv (3 * i + 1) (by omega)
      simp only [a1, a2]
      by_cases k1 : s (34 + (3 * i + 0)) = c
      · rw [if_pos k1]
        by_cases k2 : s (34 + (3 * i + 1)) = d
        · rw [if_pos k2]; exact ⟨_, rfl⟩
        · rw [if_neg k2]; exact ihh (fun h => k2 h.2)
      · rw [if_neg k1]; exact ihh (fun h => k1 h.1)
  have l2 : ∀ (q i n : Nat) (x : Int32), i + q = nb → q < n → ((∃ j, i ≤ j ∧ j < nb ∧ tkn s c d j) ∨ ∃ k : Nat, k < nb ∧ x = zI k) → ∃ (k : Nat) (z : Int32), k < nb ∧ f_X9_boulderAt_L6 s c d n x (zI i) = some (zI k, z) := by
    intro q
    induction q with
    | zero =>
      intro i n x h1 h2 h3
      obtain ⟨n, rfl⟩ : ∃ j, n = j + 1 := ⟨n - 1, by omega⟩
      rcases h3 with ⟨j, h4, h5, _⟩ | ⟨k, hk, rfl⟩
      · omega
      · rw [f_X9_boulderAt_L6, h33, if_pos (by rw [mt_len (by omega) (by omega)]; omega)]
        exact ⟨k, _, hk, rfl⟩
    | succ q ih =>
      intro i n x h1 h2 h3
      obtain ⟨n, rfl⟩ : ∃ j, n = j + 1 := ⟨n - 1, by omega⟩
      rw [f_X9_boulderAt_L6, h33, if_neg (by rw [mt_len (by omega) (by omega)]; omega), mt_343, mt_p1, if_pos (mt_ixn (by omega) (by omega)), if_pos (mt_ixn (by omega) (by omega)), mt_cln (by omega), mt_cln (by omega), mt_s1]
      have no : ¬ tkn s c d i → ∃ (k : Nat) (z : Int32), k < nb ∧ f_X9_boulderAt_L6 s c d n x (zI ((i + 1 : Nat) : Int)) = some (zI k, z) := by
        intro h
        refine ih (i + 1) n x (by omega) (by omega) ?_
        rcases h3 with ⟨j, h4, h5, h6⟩ | h3
        · left
          refine ⟨j, ?_, h5, h6⟩
          by_cases e : i = j
          · subst e; exact absurd h6 h
          · omega
        · right; exact h3
      by_cases k1 : s (34 + 3 * i) = c
      · rw [if_pos k1]
        by_cases k2 : s (34 + 3 * i + 1) = d
        · rw [if_pos k2]; exact ih (i + 1) n _ (by omega) (by omega) (Or.inr ⟨i, by omega, rfl⟩)
        · rw [if_neg k2]; exact no (fun h => k2 h.2)
      · rw [if_neg k1]; exact no (fun h => k1 h.1)
  obtain ⟨i, hi, ht⟩ := hn
  unfold f_X0_isTaken f_X9_boulderAt
  obtain ⟨z1, g1⟩ := l1 nb 0 fuel (by omega) (by omega) ⟨i, by omega, hi, ht⟩
  obtain ⟨k, z2, hk, g2⟩ := l2 nb 0 fuel (-1000009) (by omega) (by omega) (Or.inl ⟨i, by omega, hi, ht⟩)
  rw [show zI ((0 : Nat) : Int) = 0 from rfl] at g1 g2
  rw [g1, g2]
  exact ⟨rfl, k, hk, rfl⟩
/-- the row with the boulders from k on moved by one place -/
def shb (s : Nat → Int32) (k nb : Nat) : Nat → Int32 := fun j => if 34 + 3 * (k + 1) ≤ j ∧ j < 34 + 3 * (nb + 1) then s (j - 3) else s j
theorem mt_343m {k : Nat} (h : 1 ≤ k) : 34 + 3 * zI k - 3 = zI ((34 + 3 * (k - 1) : Nat) : Int) := by
  rw [mt_343, show (3 : Int32) = zI ((3 : Nat) : Int) from rfl, mt_sbn (by omega)]; congr 1; omega
theorem mt_342m {k : Nat} (h : 1 ≤ k) : 34 + 3 * zI k - 2 = zI ((34 + 3 * (k - 1) + 1 : Nat) : Int) := by
  rw [mt_343, show (2 : Int32) = zI ((2 : Nat) : Int) from rfl, mt_sbn (by omega)]; congr 1; omega
theorem r_shb3 {a : Nat → Int32} {k fuel : Nat} (hk : 1 ≤ k) (hk2 : k ≤ 9) : f_X9_putsBoulder_L60 (zI k) (fuel + 4) 0 a = some (3, upd (upd (upd a (34 + 3 * k) (a (34 + 3 * (k - 1)))) (34 + 3 * k + 1) (a (34 + 3 * (k - 1) + 1))) (34 + 3 * k + 2) (a (34 + 3 * (k - 1) + 2))) := by
  rw [f_X9_putsBoulder_L60, if_neg (by decide), mt_343m hk, mt_343, show (0 : Int32) = zI ((0 : Nat) : Int) from rfl, mt_p, mt_p, if_pos (mt_ixn (by omega) (by omega)), if_pos (mt_ixn (by omega) (by omega)), mt_cln (by omega), mt_cln (by omega), show zI ((0 : Nat) : Int) + 1 = zI ((1 : Nat) : Int) from by decide]
  rw [f_X9_putsBoulder_L60, if_neg (by decide), mt_343m hk, mt_343, mt_p, mt_p, if_pos (mt_ixn (by omega) (by omega)), if_pos (mt_ixn (by omega) (by omega)), mt_cln (by omega), mt_cln (by omega), show zI ((1 : Nat) : Int) + 1 = zI ((2 : Nat) : Int) from by decide]
  rw [f_X9_putsBoulder_L60, if_neg (by decide), mt_343m hk, mt_343, mt_p, mt_p, if_pos (mt_ixn (by omega) (by omega)), if_pos (mt_ixn (by omega) (by omega)), mt_cln (by omega), mt_cln (by omega), show zI ((2 : Nat) : Int) + 1 = zI ((3 : Nat) : Int) from by decide]
  rw [f_X9_putsBoulder_L60, if_pos (by decide), up_ne (by omega), up_ne (by omega), up_ne (by omega)]
  rfl
theorem shb_step {s : Nat → Int32} {k nb : Nat} (hk : 1 ≤ k) (hkn : k ≤ nb) : upd (upd (upd (shb s k nb) (34 + 3 * k) (shb s k nb (34 + 3 * (k - 1)))) (34 + 3 * k + 1) (shb s k nb (34 + 3 * (k - 1) + 1))) (34 + 3 * k + 2) (shb s k nb (34 + 3 * (k - 1) + 2)) = shb s (k - 1) nb := by
  funext j
  have e0 : shb s k nb (34 + 3 * (k - 1)) = s (34 + 3 * (k - 1)) := by unfold shb; rw [if_neg (by omega)]
  have e1 : shb s k nb (34 + 3 * (k - 1) + 1) = s (34 + 3 * (k - 1) + 1) := by unfold shb; rw [if_neg (by omega)]
  have e2 : shb s k nb (34 + 3 * (k - 1) + 2) = s (34 + 3 * (k - 1) + 2) := by unfold shb; rw [if_neg (by omega)]
  rw [e0, e1, e2]
  by_cases c2 : j = 34 + 3 * k + 2
  · subst c2
    rw [up_eq]; unfold shb; rw [if_pos (by omega)]; congr 1; omega
  · rw [up_ne c2]
    by_cases c1 : j = 34 + 3 * k + 1
    · subst c1
      rw [up_eq]; unfold shb; rw [if_pos (by omega)]; congr 1; omega
    · rw [up_ne c1]
      by_cases c0 : j = 34 + 3 * k
      · subst c0
        rw [up_eq]; unfold shb; rw [if_pos (by omega)]; congr 1; omega
      · rw [up_ne c0]
        unfold shb
        by_cases c : 34 + 3 * (k + 1) ≤ j ∧ j < 34 + 3 * (nb + 1)
        · rw [if_pos c, if_pos (by omega)]
        · rw [if_neg c, if_neg (by omega)]
theorem r_shbL {s bv : Nat → Int32} {W L nb fuel c d r : Nat} (hf : 5000 ≤ fuel) (hWL : W * L ≤ 49) (hB : BR s nb bv) (hnb : nb < 10) (hQB : QB s W L nb) (hc : c < 1000) (hd : d < 1000) (hr : RK s nb (1000 * (c : Int) + d) r) (hnt : ∀ i, i < nb → ¬ tkn s (zI c) (zI d) i) : ∀ (q n k : Nat), r + q = k → k ≤ nb → q < n → f_X9_putsBoulder_L9 fuel (zI c) (zI d) n (zI k) (shb s k nb) = some (zI r, shb s r nb) := by
  obtain ⟨hr1, hr2, hr3⟩ := hr
  have key : 1000 * zI c + zI d = zI (1000 * (c : Int) + d) := by rw [show (1000 : Int32) = zI 1000 from rfl, zI_mul, zI_add]
  have rd : ∀ k i, 1 ≤ k → k ≤ nb → i < 3 → shb s k nb (34 + 3 * (k - 1) + i) = s (34 + 3 * (k - 1) + i) := by
    intro k i h1 h2 h3; unfold shb; rw [if_neg (by omega)]
  intro q
  induction q with
  | zero =>
    intro n k h1 h2 h3
    obtain ⟨n, rfl⟩ : ∃ j, n = j + 1 := ⟨n - 1, by omega⟩
    have : k = r := by omega
    subst this
    rw [f_X9_putsBoulder_L9]
    by_cases k0 : k = 0
    · subst k0; rw [if_pos (by decide)]
    · obtain ⟨ci, di, e1, e2, e3, e4, e5⟩ := hQB.1 (k - 1) (by omega)
      have hb := hr2 (k - 1) (by omega)
      rw [bky_z e1 e3 (by omega) (by omega)] at hb
      have r0 := rd k 0 (by omega) (by omega) (by omega)
      have r1 := rd k 1 (by omega) (by omega) (by omega)
      rw [Nat.add_zero] at r0
      rw [if_neg (by rw [show (0 : Int32) = zI ((0 : Nat) : Int) from rfl, mt_len (by omega) (by omega)]; omega), mt_343m (by omega), mt_342m (by omega), if_pos (mt_ixn (by omega) (by omega)), if_pos (mt_ixn (by omega) (by omega)), mt_cln (by omega), mt_cln (by omega), r0, r1, e1, e3, key, show (1000 : Int32) = zI 1000 from rfl, zI_mul, zI_add, if_pos (by rw [zI_le (by omega) (by omega)]; omega)]
  | succ q ih =>
    intro n k h1 h2 h3
    obtain ⟨n, rfl⟩ : ∃ j, n = j + 1 := ⟨n - 1, by omega⟩
    obtain ⟨ci, di, e1, e2, e3, e4, e5⟩ := hQB.1 (k - 1) (by omega)
    have hb := hr3 (k - 1) (by omega) (by omega)
    rw [bky_z e1 e3 (by omega) (by omega)] at hb
    have hne : ¬ (c = ci ∧ d = di) := by
      rintro ⟨rfl, rfl⟩
      exact hnt (k - 1) (by omega) ⟨e1, e3⟩
    have r0 := rd k 0 (by omega) (by omega) (by omega)
    have r1 := rd k 1 (by omega) (by omega) (by omega)
    rw [Nat.add_zero] at r0
    obtain ⟨f4, hf4⟩ : ∃ f4, fuel = f4 + 4 := ⟨fuel - 4, by omega⟩
    have sh := r_shb3 (a := shb s k nb) (k := k) (fuel := f4) (by omega) (by omega)
    rw [← hf4, shb_step (by omega) (by omega)] at sh
    rw [f_X9_putsBoulder_L9, if_neg (by rw [show (0 : Int32) = zI ((0 : Nat) : Int) from rfl, mt_len (by omega) (by omega)]; omega), mt_343m (by omega), mt_342m (by omega), if_pos (mt_ixn (by omega) (by omega)), if_pos (mt_ixn (by omega) (by omega)), mt_cln (by omega), mt_cln (by omega), r0, r1, e1, e3, key, show (1000 : Int32) = zI 1000 from rfl, zI_mul, zI_add, if_neg (by rw [zI_le (by omega) (by omega)]; omega), sh, Option.bind_some, show zI (k : Int) + (-1) = zI ((k - 1 : Nat) : Int) from by rw [show (-1 : Int32) = zI (-1) from rfl, zI_add]; congr 1; omega]
    exact ih n (k - 1) (by omega) (by omega) (by omega)
theorem putB {s bv : Nat → Int32} {W L nb fuel c d : Nat} (hf : 5000 ≤ fuel) (hWL : W * L ≤ 49) (hB : BR s nb bv) (hnb : nb < 10) (hQB : QB s W L nb) (hc : c < W * L) (hd : 1 ≤ d ∧ d ≤ 200) (hnt : ∀ i, i < nb → ¬ tkn s (zI c) (zI d) i) (x : Int32) : ∃ (bv' s' : Nat → Int32) (k : Int32), f_X0_place fuel (s 33) bv (zI c) (zI d) x = some (k, s' 33, bv') ∧ f_X9_putsBoulder fuel s (zI c) (zI d) x = some (k, s') ∧ BR s' (nb + 1) bv' ∧ QB s' W L (nb + 1) ∧ ∀ k, k < 33 ∨ 64 ≤ k → s' k = s k := by
  obtain ⟨r, hr⟩ := rk_ex (s := s) (W := W) (L := L) (1000 * (c : Int) + d) nb hQB
  obtain ⟨h33, _, hv⟩ := id hB
  obtain ⟨hr1, hr2, hr3⟩ := id hr
  have hins := c_ins (N := 30) (cap := 10) (m := nb) (at_ := r) (by omega) (by omega) (by omega) (by omega) (by omega) bv (zI c) (zI d) x
  rw [show min nb (10 - 1) = nb by omega, show zI ((10 : Nat) : Int) = 10 from rfl] at hins
  have hL9 := r_shbL hf hWL hB hnb hQB (by omega) (by omega) hr hnt (nb - r) fuel nb (by omega) (by omega) (by omega)
  have hs0 : shb s nb nb = s := by
    funext j; unfold shb; rw [if_neg (by omega)]
  rw [hs0] at hL9
  have h33b : shb s r nb 33 = zI nb := by unfold shb; rw [if_neg (by omega), h33]
  have lo : ∀ j, j < 34 + 3 * r → shb s r nb j = s j := by intro j hj; unfold shb; rw [if_neg (by omega)]
  have hi : ∀ i p, r < i → i ≤ nb → p < 3 → shb s r nb (34 + 3 * i + p) = s (34 + 3 * (i - 1) + p) := by
    intro i p h1 h2 h3; unfold shb; rw [if_pos (by omega)]; congr 1; omega
  refine ⟨upd (upd (upd (va_cpy bv bv (3 * r) (3 * r + 3) (3 * (nb - r))) (3 * r) (zI c)) (3 * r + 1) (zI d)) (3 * r + 2) x, upd (upd (upd (upd (shb s r nb) (34 + 3 * r) (zI c)) (34 + 3 * r + 1) (zI d)) (34 + 3 * r + 2) x) 33 (zI ((nb + 1 : Nat) : Int)), zI r, ?_, ?_, ⟨up_eq _ _ _, by omega, ?_⟩, ⟨?_, ?_⟩, ?_⟩
  · unfold f_X0_place
    rw [h33, c_rank hf hWL hB hQB (by omega) (by omega) hr, Option.bind_some, hins, Option.bind_some, up_eq]
  · unfold f_X9_putsBoulder f_X9_putsBoulder_J110
    rw [h33, hL9, Option.bind_some]
    dsimp only
    rw [mt_343, mt_p1, mt_p2, if_pos (mt_ixn (by omega) (by omega)), if_pos (mt_ixn (by omega) (by omega)), if_pos (mt_ixn (by omega) (by omega)), mt_cln (by omega), mt_cln (by omega), mt_cln (by omega), up_ne (by omega), up_ne (by omega), up_ne (by omega), h33b, mt_s1]
  · intro k hk
    rw [up_ne (show 34 + k ≠ 33 by omega)]
    by_cases c2 : k = 3 * r + 2
    · subst c2
      rw [up_eq]; exact (up_eq _ _ _).symm
    · rw [up_ne c2, up_ne (show 34 + k ≠ 34 + 3 * r + 2 by omega)]
      by_cases c1 : k = 3 * r + 1
      · subst c1
        rw [up_eq]; exact (up_eq _ _ _).symm
      · rw [up_ne c1, up_ne (show 34 + k ≠ 34 + 3 * r + 1 by omega)]
        by_cases c0 : k = 3 * r
        · subst c0
          rw [up_eq, up_eq]
        · rw [up_ne c0, up_ne (show 34 + k ≠ 34 + 3 * r by omega)]
          unfold va_cpy shb
          by_cases ck : 3 * r + 3 ≤ k
          · rw [if_pos (by omega), if_pos (by omega), hv _ (by omega)]; congr 1; omega
          · rw [if_neg (by omega), if_neg (by omega), hv _ (by omega)]
  · intro i hi1
    rw [up_ne (by omega), up_ne (show 34 + 3 * i + 1 ≠ 33 by omega), up_ne (by omega), up_ne (show 34 + 3 * i + 1 ≠ 34 + 3 * r + 2 by omega)]
    rw [up_ne (show 34 + 3 * i ≠ 34 + 3 * r + 1 by omega)]
    by_cases ci : i = r
    · subst ci
      rw [up_eq, up_eq]
      exact ⟨c, d, rfl, hc, rfl, hd⟩
    · rw [up_ne (by omega), up_ne (by omega), up_ne (by omega)]
      by_cases c2 : i < r
      · rw [lo _ (by omega), lo _ (by omega)]
        exact hQB.1 i (by omega)
      · have z0 := hi i 0 (by omega) (by omega) (by omega)
        rw [Nat.add_zero, Nat.add_zero] at z0
        rw [z0, hi i 1 (by omega) (by omega) (by omega)]
        exact hQB.1 (i - 1) (by omega)
  · have bk : ∀ i, i ≤ nb → bky (upd (upd (upd (upd (shb s r nb) (34 + 3 * r) (zI c)) (34 + 3 * r + 1) (zI d)) (34 + 3 * r + 2) x) 33 (zI ((nb + 1 : Nat) : Int))) i = if i < r then bky s i else if i = r then 1000 * (c : Int) + d else bky s (i - 1) := by
      intro i hi1
      unfold bky
      rw [up_ne (by omega), up_ne (show 34 + 3 * i + 1 ≠ 33 by omega), up_ne (by omega), up_ne (show 34 + 3 * i + 1 ≠ 34 + 3 * r + 2 by omega)]
      rw [up_ne (show 34 + 3 * i ≠ 34 + 3 * r + 1 by omega)]
      by_cases ci : i = r
      · subst ci
        rw [up_eq, up_eq, if_neg (by omega), if_pos rfl, zI_int (by omega), zI_int (by omega)]
      · rw [up_ne (by omega), up_ne (by omega), up_ne (by omega)]
        by_cases c2 : i < r
        · rw [if_pos c2, lo _ (by omega), lo _ (by omega)]
        · have z0 := hi i 0 (by omega) (by omega) (by omega)
          rw [Nat.add_zero, Nat.add_zero] at z0
          rw [if_neg c2, if_neg ci, z0, hi i 1 (by omega) (by omega) (by omega)]
    intro i hi1
    rw [bk i (by omega), bk (i + 1) (by omega)]
    by_cases c1 : i + 1 < r
    · rw [if_pos (by omega), if_pos c1]; exact hQB.2 i (by omega)
    · rw [if_neg c1]
      by_cases c2 : i + 1 = r
      · rw [if_pos (by omega), if_pos c2]; exact hr2 i (by omega)
      · rw [if_neg c2, if_neg (by omega)]
        by_cases c3 : i = r
        · rw [if_pos c3, Nat.add_sub_cancel]
          have h1 := hr3 i (by omega) (by omega)
          obtain ⟨ci, di, e1, e2, e3, e4, e5⟩ := hQB.1 i (by omega)
          have hk := bky_z e1 e3 (by omega) (by omega)
          have hne : ¬ (c = ci ∧ d = di) := by
            rintro ⟨rfl, rfl⟩
            exact hnt i (by omega) ⟨e1, e3⟩
          omega
        · rw [if_neg c3, Nat.add_sub_cancel]
          have := hQB.2 (i - 1) (by omega)
          rw [show i - 1 + 1 = i by omega] at this
          exact this
  · intro k hk
    by_cases ck : k < 33
    · rw [up_ne (by omega), up_ne (by omega), up_ne (by omega), up_ne (by omega), lo _ (by omega)]
    · rw [up_ne (by omega), up_ne (by omega), up_ne (by omega), up_ne (by omega)]
      unfold shb; rw [if_neg (by omega)]
theorem m_addBoulder {v : sv_T} {s past : Nat → Int32} {nx ct ps : Int32} {sv : Nat → sv_T} {fuel : Nat} (hf : 5000 ≤ fuel) (h : SRE v s) (hH : HR nx ct sv ps past) (aside : Nat → Int32) (x y z : Int32) : TS (fun q : sv_T => (v.1, v.2.1, v.2.2.1, v.2.2.2.1, v.2.2.2.2.1, v.2.2.2.2.2.1, q.2.2.2.2.2.2.1, q.2.2.2.2.2.2.2.1, v.2.2.2.2.2.2.2.2.1, v.2.2.2.2.2.2.2.2.2.1, v.2.2.2.2.2.2.2.2.2.2.1, v.2.2.2.2.2.2.2.2.2.2.2.1, v.2.2.2.2.2.2.2.2.2.2.2.2.1, v.2.2.2.2.2.2.2.2.2.2.2.2.2.1, v.2.2.2.2.2.2.2.2.2.2.2.2.2.2.1, v.2.2.2.2.2.2.2.2.2.2.2.2.2.2.2.1, v.2.2.2.2.2.2.2.2.2.2.2.2.2.2.2.2)) (f_X8_addBoulder fuel v nx ct sv x y z) (f_X9_addBoulder fuel ps aside past s x y z) := by
  have hS := h
  obtain ⟨W, L, nl, nb, nr, D, a, b, bal, bv, lv, lub, bot, rv, rfl, hG, hP, hw, hQW, hR, hB, hQB, hA, hQA, hU, hT, hQT, hRR⟩ := h
  obtain ⟨nx', ct', ps', sv', past', e1, e2, hH'⟩ := push hf hS hH aside
  obtain ⟨h0, h1, hW, hL⟩ := id hG
  have h49 := mt_WL hW.2 hL.2
  have hnb := hB.2.1
  unfold f_X8_addBoulder f_X9_addBoulder
  rw [fI_in, fI_in]
  dsimp only
  rcases mt_cell hW hL x with ⟨c, hc, rfl⟩ | hx
  · have ci : f_X5_isCell (s 0) (s 1) (zI c) = some 1 := by rw [h0, h1]; exact c_isCell1 hW hL hc
    rw [ci, r_isCell1 hG hc, Option.bind_some, if_neg n10, Option.bind_some, if_neg n10]
    rcases mt_win y 1 200 (l := 1) (h := 200) rfl rfl (by omega) (by omega) with ⟨d, rfl, h3, h4, e⟩ | e
    · rw [e, Option.bind_some, if_neg n10, Option.bind_some, if_neg n10]
      rcases mt_win z 1 50 (l := 1) (h := 50) rfl rfl (by omega) (by omega) with ⟨o, rfl, h5, h6, e⟩ | e
      · rw [e, Option.bind_some, if_neg n10, Option.bind_some, if_neg n10]
        by_cases tk : ∃ i, i < nb ∧ tkn s (zI c) (zI d) i
        · obtain ⟨t1, k, hk, t2⟩ := c_tak1 hf hB (zI c) (zI d) tk
          rw [← hB.1] at t1
          rw [t1, t2, Option.bind_some, if_neg n10, Option.bind_some, if_neg (mt_ge0 (by omega))]
          exact TS_stay rfl hS hH
        · have tk' : ∀ i, i < nb → ¬ tkn s (zI c) (zI d) i := fun i hi ht => tk ⟨i, hi, ht⟩
          obtain ⟨t1, t2⟩ := c_tak0 hf hB (zI c) (zI d) tk'
          rw [← hB.1] at t1
          rw [t1, t2, Option.bind_some, if_pos rfl, Option.bind_some, if_pos (by decide)]
          unfold f_X7_isFull
          have c1 : (s 33 < 10) = (nb < 10) := by rw [hB.1, show (10 : Int32) = zI ((10 : Nat) : Int) from rfl, mt_ltn (by omega) (by omega)]
          have c2 : (s 33 = 10) = (nb = 10) := by rw [hB.1, show (10 : Int32) = zI ((10 : Nat) : Int) from rfl, mt_eqn (by omega) (by omega)]
          simp only [c1, c2]
          by_cases cn : nb = 10
          · rw [if_neg (by omega), if_pos cn, Option.bind_some, if_neg n10]; exact TS_stay rfl hS hH
          · obtain ⟨bv', s', k, f1, f2, f3, f4, f5⟩ := putB hf h49 hB (by omega) hQB hc ⟨h3, h4⟩ tk' (zI o)
            rw [if_pos (show nb < 10 by omega), if_neg cn, Option.bind_some, if_pos rfl, e1, Option.bind_some, f1, Option.bind_some, r_hold hf, Option.bind_some, f2, Option.bind_some, e2, Option.bind_some]
            refine ⟨_, _, rfl, rfl, rfl, ?_, hH'⟩
            show SRE (s 0, s 1, s 5, s 7, s 6, bal, s' 33, bv', s 8, lv, lub, s 2, s 3, s 4, bot, s 166, rv) s'
            exact ⟨W, L, nl, nb + 1, nr, D, a, b, ⟨bal, bv', lv, lub, bot, rv, by rw [f5 0 (by omega), f5 1 (by omega), f5 2 (by omega), f5 3 (by omega), f5 4 (by omega), f5 5 (by omega), f5 6 (by omega), f5 7 (by omega), f5 8 (by omega), f5 166 (by omega)], GR_c (f5 _ (by omega)) (f5 _ (by omega)) hG, PR_c (f5 _ (by omega)) (f5 _ (by omega)) (f5 _ (by omega)) hP, WR_c (f5 _ (by omega)) hw, QW_c (f5 _ (by omega)) hQW, LR_c (fun k _ _ => f5 _ (by omega)) hR, f3, f4, AR_c (fun k _ _ => f5 _ (by omega)) hA, QA_c (fun k _ _ => f5 _ (by omega)) hQA, UR_c (fun k _ _ => f5 _ (by omega)) hU, TR_c (fun k _ _ => f5 _ (by omega)) hT, QT_c (fun k _ _ => f5 _ (by omega)) hQT, RR_c (fun k _ _ => f5 _ (by omega)) hRR⟩⟩
      · rw [e]; exact TS_stay rfl hS hH
    · rw [e]; exact TS_stay rfl hS hH
  · have ci : f_X5_isCell (s 0) (s 1) x = some 0 := by rw [h0, h1]; exact c_isCell0 hx
    rw [ci, r_isCell0 hG hx]; exact TS_stay rfl hS hH
theorem t_addBoulder : MT_addBoulder Cpl := by
  intro fuel hf c r x1 x2 x3 h
  obtain ⟨q1, q2, e1, e2, e3, e4, e5⟩ := m_addBoulder hf h.1 h.2.1 _ x1 x2 x3
  exact ⟨q1, q2, e1, e2, e3, e4, e5, h.2.2.1, h.2.2.2⟩
