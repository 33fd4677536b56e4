/-! the reference's sums; what the next step would be -/
theorem mt_688 (i : Nat) : 68 + zI i = zI ((68 + i : Nat) : Int) := mt_p 68 i
theorem r_cells {s : Nat → Int32} {W L : Nat} (hG : GR s W L) : f_X9_cells s = some (zI ((L * W : Nat) : Int)) := by
  unfold f_X9_cells
  rw [hG.1, hG.2.1, zI_mul, Int.mul_comm]; norm_cast
theorem r_loadL {s : Nat → Int32} {W L : Nat} (hG : GR s W L) : ∀ (r k n : Nat) (x : Int32), k + r = L * W → r < n → f_X9_loadOf_L9 s n x (zI k) = some (x + ss (fun k => s (68 + k)) k r, zI ((L * W : Nat) : Int)) := by
  obtain ⟨h0, h1, hW, hL⟩ := id hG
  have h49 := mt_WL hL.2 hW.2
  intro r
  induction r with
  | zero =>
    intro k n x h1 h2
    obtain ⟨n, rfl⟩ : ∃ j, n = j + 1 := ⟨n - 1, by omega⟩
    rw [f_X9_loadOf_L9, r_cells hG, Option.bind_some, if_pos (by rw [mt_len (by omega) (by omega)]; omega)]
    simp only [ss, Int32.add_zero]
    rw [show k = L * W by omega]
  | succ r ih =>
    intro k n x h1 h2
    obtain ⟨n, rfl⟩ : ∃ j, n = j + 1 := ⟨n - 1, by omega⟩
    rw [f_X9_loadOf_L9, r_cells hG, Option.bind_some, if_neg (by rw [mt_len (by omega) (by omega)]; omega), mt_688, if_pos (mt_ixn (by omega) (by omega)), mt_cln (by omega), mt_s1, ih (k + 1) n _ (by omega) (by omega)]
    simp only [ss, mt_r2]
def lod (s : Nat → Int32) (W L : Nat) : Int32 := 4 * (s 5 + ss (fun k => s (68 + k)) 0 (L * W))
theorem r_load {s : Nat → Int32} {W L fuel : Nat} (hf : 5000 ≤ fuel) (hG : GR s W L) : f_X9_loadOf fuel s = some (lod s W L) := by
  unfold f_X9_loadOf lod
  have h49 := mt_WL hG.2.2.2.2 hG.2.2.1.2
  have h := r_loadL hG (L * W) 0 fuel (s 5) (by omega) (by omega)
  rw [show zI ((0 : Nat) : Int) = 0 from rfl] at h
  rw [h, Option.bind_some]
theorem r_overL {s lv bv : Nat → Int32} {W L nl nb D fuel : Nat} {a b : Int} (hf : 5000 ≤ fuel) (hG : GR s W L) (hR : LR s nl lv) (hB : BR s nb bv) (hP : PR s D a b) : ∀ (r k n : Nat) (x : Int32), k + r = L * W → r < n → f_X9_over_L7 fuel s n x (zI k) = some (x - ss (edr s W L nl nb D a b) k r, zI ((L * W : Nat) : Int)) := by
  obtain ⟨h0, h1, hW, hL⟩ := id hG
  have h49 := mt_WL hL.2 hW.2
  intro r
  induction r with
  | zero =>
    intro k n x h1 h2
    obtain ⟨n, rfl⟩ : ∃ j, n = j + 1 := ⟨n - 1, by omega⟩
    rw [f_X9_over_L7, r_cells hG, Option.bind_some, if_pos (by rw [mt_len (by omega) (by omega)]; omega)]
    simp only [ss, Int32.sub_zero]
    rw [show k = L * W by omega]
  | succ r ih =>
    intro k n x h1 h2
    obtain ⟨n, rfl⟩ : ∃ j, n = j + 1 := ⟨n - 1, by omega⟩
    have hk : k < W * L := by rw [Nat.mul_comm]; omega
    rw [f_X9_over_L7, r_cells hG, Option.bind_some, if_neg (by rw [mt_len (by omega) (by omega)]; omega), r_isEdge hG hk, Option.bind_some, r_res hf hG hR hB hP hk, Option.bind_some, mt_s1, ih (k + 1) n _ (by omega) (by omega), ih (k + 1) n _ (by omega) (by omega)]
    simp only [ss, mt_r1, edr]
    by_cases h : edg W L (k % W) (k / W)
    · rw [if_pos h, if_neg (by decide), if_pos h]
    · rw [if_neg h, if_pos rfl, if_neg h]
theorem r_over {s lv bv : Nat → Int32} {W L nl nb D fuel : Nat} {a b : Int} (hf : 5000 ≤ fuel) (hG : GR s W L) (hR : LR s nl lv) (hB : BR s nb bv) (hP : PR s D a b) : f_X9_over fuel s = some (exc s W L nl nb D a b) := by
  unfold f_X9_over
  have h49 := mt_WL hG.2.2.2.2 hG.2.2.1.2
  have h := r_overL hf hG hR hB hP (L * W) 0 fuel (lod s W L) (by omega) (by omega)
  rw [show zI ((0 : Nat) : Int) = 0 from rfl] at h
  rw [r_load hf hG, Option.bind_some, h, Option.bind_some]
  unfold exc lod
  have e : ss (upw s W L nl nb D a b) 0 (L * W) = ss (edr s W L nl nb D a b) 0 (L * W) - 4 * ss (fun k => s (68 + k)) 0 (L * W) := by
    rw [← ss_mul, ← ss_minus]; rfl
  rw [e]
  congr 1
  grind
theorem r_momL {s lv bv : Nat → Int32} {W L nl nb D fuel : Nat} {a b : Int} (hf : 5000 ≤ fuel) (hG : GR s W L) (hR : LR s nl lv) (hB : BR s nb bv) (hP : PR s D a b) (ax : Int32) (g : Nat → Int32) (hg : ∀ k, k < W * L → f_X9_arm s (zI k) ax = some (g k)) : ∀ (r k n : Nat) (x : Int32), k + r = L * W → r < n → f_X9_momentOf_L4 fuel s ax n x (zI k) = some (x + ss (fun k => g k * upw s W L nl nb D a b k) k r, zI ((L * W : Nat) : Int)) := by
  obtain ⟨h0, h1, hW, hL⟩ := id hG
  have h49 := mt_WL hL.2 hW.2
  intro r
  induction r with
  | zero =>
    intro k n x h1 h2
    obtain ⟨n, rfl⟩ : ∃ j, n = j + 1 := ⟨n - 1, by omega⟩
    rw [f_X9_momentOf_L4, r_cells hG, Option.bind_some, if_pos (by rw [mt_len (by omega) (by omega)]; omega)]
    simp only [ss, Int32.add_zero]
    rw [show k = L * W by omega]
  | succ r ih =>
    intro k n x h1 h2
    obtain ⟨n, rfl⟩ : ∃ j, n = j + 1 := ⟨n - 1, by omega⟩
    have hk : k < W * L := by rw [Nat.mul_comm]; omega
    have J : ∀ y2 : Int32, y2 = edr s W L nl nb D a b k → f_X9_momentOf_J36 (f_X9_momentOf_L4 fuel s ax n) s (zI k) x (g k) y2 = some (x + ss (fun k => g k * upw s W L nl nb D a b k) k (r + 1), zI ((L * W : Nat) : Int)) := by
      intro y2 hy
      unfold f_X9_momentOf_J36
      rw [mt_688, if_pos (mt_ixn (by omega) (by omega)), mt_cln (by omega), mt_s1, ih (k + 1) n _ (by omega) (by omega), hy]
      simp only [ss, mt_r2, upw]
    rw [f_X9_momentOf_L4, r_cells hG, Option.bind_some, if_neg (by rw [mt_len (by omega) (by omega)]; omega), hg k hk, Option.bind_some, r_isEdge hG hk, Option.bind_some, r_res hf hG hR hB hP hk, Option.bind_some]
    by_cases h : edg W L (k % W) (k / W)
    · rw [if_pos h, if_neg (by decide)]
      exact J _ (by unfold edr; rw [if_pos h])
    · rw [if_neg h, if_pos rfl]
      exact J _ (by unfold edr; rw [if_neg h])
theorem r_mom0 {s lv bv : Nat → Int32} {W L nl nb D fuel : Nat} {a b : Int} (hf : 5000 ≤ fuel) (hG : GR s W L) (hR : LR s nl lv) (hB : BR s nb bv) (hP : PR s D a b) : f_X9_momentOf fuel s 0 = some (mox s W L nl nb D a b) := by
  unfold f_X9_momentOf
  have h49 := mt_WL hG.2.2.2.2 hG.2.2.1.2
  have h := r_momL hf hG hR hB hP 0 (fun k => zI (arx W (k % W))) (fun k hk => r_arm0 hG hk) (L * W) 0 fuel 0 (by omega) (by omega)
  rw [show zI ((0 : Nat) : Int) = 0 from rfl] at h
  rw [h, Option.bind_some, Int32.zero_add]
  rfl
theorem r_mom1 {s lv bv : Nat → Int32} {W L nl nb D fuel : Nat} {a b : Int} (hf : 5000 ≤ fuel) (hG : GR s W L) (hR : LR s nl lv) (hB : BR s nb bv) (hP : PR s D a b) : f_X9_momentOf fuel s 1 = some (moy s W L nl nb D a b) := by
  unfold f_X9_momentOf
  have h49 := mt_WL hG.2.2.2.2 hG.2.2.1.2
  have h := r_momL hf hG hR hB hP 1 (fun k => zI (arx L (k / W))) (fun k hk => r_arm1 hG hk) (L * W) 0 fuel 0 (by omega) (by omega)
  rw [show zI ((0 : Nat) : Int) = 0 from rfl] at h
  rw [h, Option.bind_some, Int32.zero_add]
  rfl
def trn (s : Nat → Int32) (m : Int32) : Int32 := if m ≤ s 7 then (if -(s 7) ≤ m then 0 else 1) else -1
theorem c_turn (s : Nat → Int32) (m : Int32) : f_X1_turn (s 7) m = some (trn s m) := by
  unfold f_X1_turn trn
  split
  · split <;> rfl
  · rfl
theorem r_turn0 {s lv bv : Nat → Int32} {W L nl nb D fuel : Nat} {a b : Int} (hf : 5000 ≤ fuel) (hG : GR s W L) (hR : LR s nl lv) (hB : BR s nb bv) (hP : PR s D a b) : f_X9_turn fuel s 0 = some (trn s (mox s W L nl nb D a b)) := by
  unfold f_X9_turn trn
  rw [r_mom0 hf hG hR hB hP, Option.bind_some]
  split
  · split <;> rfl
  · rfl
theorem r_turn1 {s lv bv : Nat → Int32} {W L nl nb D fuel : Nat} {a b : Int} (hf : 5000 ≤ fuel) (hG : GR s W L) (hR : LR s nl lv) (hB : BR s nb bv) (hP : PR s D a b) : f_X9_turn fuel s 1 = some (trn s (moy s W L nl nb D a b)) := by
  unfold f_X9_turn trn
  rw [r_mom1 hf hG hR hB hP, Option.bind_some]
  split
  · split <;> rfl
  · rfl
theorem r_size (x : Int32) : f_X9_size x = some (mg_ab x) := by
  unfold f_X9_size mg_ab
  rw [mt_sif, Int32.zero_sub]
def nxt (s : Nat → Int32) (W L nl nb D : Nat) (a b : Int) : Int32 := if D = 200 then 0 else if 0 < exc s W L nl nb D a b then (if 5 < mg_ab (s 3 + trn s (mox s W L nl nb D a b)) then 2 else if mg_ab (s 4 + trn s (moy s W L nl nb D a b)) ≤ 5 then 1 else 2) else 0
theorem r_next {s lv bv : Nat → Int32} {W L nl nb D fuel : Nat} {a b : Int} (hf : 5000 ≤ fuel) (hG : GR s W L) (hR : LR s nl lv) (hB : BR s nb bv) (hP : PR s D a b) : f_X9_next fuel s = some (nxt s W L nl nb D a b) := by
  unfold f_X9_next nxt
  have hD := hP.2.1
  rw [hP.1, r_over hf hG hR hB hP, Option.bind_some, r_turn0 hf hG hR hB hP, Option.bind_some, r_size, Option.bind_some, r_turn1 hf hG hR hB hP, Option.bind_some, r_size, Option.bind_some, show (200 : Int32) = zI ((200 : Nat) : Int) from rfl]
  simp (disch := omega) only [mt_eqn]
  split
  · rfl
  · split
    · split
      · rfl
      · rw [mt_sif]
    · rfl
theorem c_examine {s lv bv bot lub bal : Nat → Int32} {W L nl nb D fuel : Nat} {a b : Int} (hf : 5000 ≤ fuel) (hW : 3 ≤ W ∧ W ≤ 7) (hL : 3 ≤ L ∧ L ≤ 7) (hR : LR s nl lv) (hB : BR s nb bv) (hT : TR s bot) (hU : UR s lub) (hA : AR s bal) (hw : WR s) (hP : PR s D a b) (n1 n2 : Int32) : ∃ m1 m2 : Int32, f_X1_examine fuel (zI D) (zI a) (zI b) bot n1 n2 (zI W) (zI L) (s 5) (s 7) (s 6) bal (zI nb) bv (zI nl) lv lub = some (nxt s W L nl nb D a b, exc s W L nl nb D a b, mox s W L nl nb D a b, moy s W L nl nb D a b, m1, m2) ∧ (nxt s W L nl nb D a b ≠ 0 → m1 = s 3 + trn s (mox s W L nl nb D a b) ∧ m2 = s 4 + trn s (moy s W L nl nb D a b)) := by
  obtain ⟨p2, hD, p3, ha, p4, hb⟩ := id hP
  unfold f_X1_examine
  rw [c_sums hf hW hL hR hB hT hU hA hw ha hb hD, Option.bind_some, c_turn, Option.bind_some, c_turn, Option.bind_some, ← p3, ← p4, show (200 : Int32) = zI ((200 : Nat) : Int) from rfl]
  simp (disch := omega) only [mt_ltn]
  unfold nxt
  by_cases h1 : exc s W L nl nb D a b ≤ 0
  · rw [if_pos h1, if_neg (Int32.not_lt.mpr h1)]
    refine ⟨n1, n2, ?_, ?_⟩
    · rw [ite_self]
    · rw [ite_self]; exact fun h => absurd rfl h
  · rw [if_neg h1, if_pos (Int32.not_le.mp h1)]
    by_cases h2 : D < 200
    · rw [if_pos h2, if_neg (show ¬ D = 200 by omega)]
      refine ⟨s 3 + trn s (mox s W L nl nb D a b), s 4 + trn s (moy s W L nl nb D a b), ?_, fun _ => ⟨rfl, rfl⟩⟩
      by_cases h3 : 5 < mg_ab (s 3 + trn s (mox s W L nl nb D a b))
      · rw [if_pos h3, if_pos h3]
      · rw [if_neg h3, if_neg h3]
        by_cases h4 : mg_ab (s 4 + trn s (moy s W L nl nb D a b)) ≤ 5
        · rw [if_pos h4, if_pos h4]
        · rw [if_neg h4, if_neg h4]
    · rw [if_neg h2, if_pos (show D = 200 by omega)]
      exact ⟨n1, n2, rfl, fun h => absurd rfl h⟩
