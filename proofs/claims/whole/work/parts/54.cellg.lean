/-! depth of the edge, support, skin, buoyancy, resistance -/
def PR (s : Nat → Int32) (D : Nat) (a b : Int) : Prop := s 2 = zI D ∧ D ≤ 200 ∧ s 3 = zI a ∧ (-5 ≤ a ∧ a ≤ 5) ∧ s 4 = zI b ∧ (-5 ≤ b ∧ b ≤ 5)
def arx (W x : Nat) : Int := 2 * x - W + 1
def edp (W L D : Nat) (a b : Int) (x y : Nat) : Int := if 0 < (D : Int) + (a * arx W x + b * arx L y) / 2 then (D : Int) + (a * arx W x + b * arx L y) / 2 else 0
theorem mt_fd : ∀ n : Nat, n < 141 → f_J9_floorDiv_7cf53 (zI ((n : Int) - 70)) 2 = some (zI (((n : Int) - 70) / 2)) := by decide +kernel
theorem mt_fdz {t : Int} (h : -70 ≤ t ∧ t ≤ 70) : f_J9_floorDiv_7cf53 (zI t) 2 = some (zI (t / 2)) := by
  have := mt_fd (t + 70).toNat (by omega)
  rw [show (((t + 70).toNat : Int) - 70) = t by omega] at this
  exact this
theorem mt_m30 {a c : Int} (ha : -5 ≤ a ∧ a ≤ 5) (hc : -6 ≤ c ∧ c ≤ 6) : -30 ≤ a * c ∧ a * c ≤ 30 := by
  rcases (show a = -5 ∨ a = -4 ∨ a = -3 ∨ a = -2 ∨ a = -1 ∨ a = 0 ∨ a = 1 ∨ a = 2 ∨ a = 3 ∨ a = 4 ∨ a = 5 by omega) with rfl | rfl | rfl | rfl | rfl | rfl | rfl | rfl | rfl | rfl | rfl <;> omega
theorem mt_arx {W x : Nat} (hW : 3 ≤ W ∧ W ≤ 7) (hx : x < W) : -6 ≤ arx W x ∧ arx W x ≤ 6 := by unfold arx; omega
theorem mt_tw {W L x y : Nat} {a b : Int} (hW : 3 ≤ W ∧ W ≤ 7) (hL : 3 ≤ L ∧ L ≤ 7) (hx : x < W) (hy : y < L) (ha : -5 ≤ a ∧ a ≤ 5) (hb : -5 ≤ b ∧ b ≤ 5) : -60 ≤ a * arx W x + b * arx L y ∧ a * arx W x + b * arx L y ≤ 60 := by
  have h1 := mt_m30 ha (mt_arx hW hx)
  have h2 := mt_m30 hb (mt_arx hL hy)
  omega
theorem mt_edp {W L D x y : Nat} {a b : Int} (hW : 3 ≤ W ∧ W ≤ 7) (hL : 3 ≤ L ∧ L ≤ 7) (hx : x < W) (hy : y < L) (ha : -5 ≤ a ∧ a ≤ 5) (hb : -5 ≤ b ∧ b ≤ 5) (hD : D ≤ 200) : 0 ≤ edp W L D a b x y ∧ edp W L D a b x y ≤ 230 := by
  have := mt_tw hW hL hx hy ha hb
  unfold edp
  split <;> omega
theorem mt_arz (W x : Nat) : 2 * zI x - zI W + 1 = zI (arx W x) := by
  rw [show (2 : Int32) = zI 2 from rfl, show (1 : Int32) = zI 1 from rfl, zI_mul, zI_sub, zI_add]; rfl
theorem c_edp {W L D x y : Nat} {a b : Int} (hW : 3 ≤ W ∧ W ≤ 7) (hL : 3 ≤ L ∧ L ≤ 7) (hx : x < W) (hy : y < L) (ha : -5 ≤ a ∧ a ≤ 5) (hb : -5 ≤ b ∧ b ≤ 5) (hD : D ≤ 200) : f_X1_edgeDepth (zI D) (zI a) (zI b) (zI W) (zI L) (zI x) (zI y) = some (zI (edp W L D a b x y)) := by
  have ht := mt_tw hW hL hx hy ha hb
  unfold f_X1_edgeDepth edp mg_mx
  rw [mt_arz, mt_arz, zI_mul, zI_mul, zI_add, mt_fdz (by omega), Option.bind_some, zI_add, show (0 : Int32) = zI 0 from rfl]
  simp (disch := omega) only [zI_lt]
  split <;> rfl
theorem r_arm0 {s : Nat → Int32} {W L n : Nat} (hG : GR s W L) (hn : n < W * L) : f_X9_arm s (zI n) 0 = some (zI (arx W (n % W))) := by
  unfold f_X9_arm
  rw [if_pos rfl, r_col hG hn, Option.bind_some, hG.1, mt_arz]
theorem r_arm1 {s : Nat → Int32} {W L n : Nat} (hG : GR s W L) (hn : n < W * L) : f_X9_arm s (zI n) 1 = some (zI (arx L (n / W))) := by
  unfold f_X9_arm
  rw [if_neg (by decide), r_row hG hn, Option.bind_some, hG.2.1, mt_arz]
theorem mt_rd : ∀ n : Nat, n < 141 → (if 0 ≤ zI ((n : Int) - 70) then zI ((n : Int) - 70) / 2 else if zI ((n : Int) - 70) - zI ((n : Int) - 70) / 2 * 2 = 0 then zI ((n : Int) - 70) / 2 else zI ((n : Int) - 70) / 2 - 1) = zI (((n : Int) - 70) / 2) := by decide +kernel
theorem mt_rdz {t : Int} (h : -70 ≤ t ∧ t ≤ 70) : (if 0 ≤ zI t then zI t / 2 else if zI t - zI t / 2 * 2 = 0 then zI t / 2 else zI t / 2 - 1) = zI (t / 2) := by
  have := mt_rd (t + 70).toNat (by omega)
  rw [show (((t + 70).toNat : Int) - 70) = t by omega] at this
  exact this
theorem r_edp {s : Nat → Int32} {W L D n : Nat} {a b : Int} (hG : GR s W L) (hP : PR s D a b) (hn : n < W * L) : f_X9_edgeDepth s (zI n) = some (zI (edp W L D a b (n % W) (n / W))) := by
  obtain ⟨h0, h1, hW, hL⟩ := id hG
  obtain ⟨p2, hD, p3, ha, p4, hb⟩ := hP
  have hm := mt_mod hn (by omega)
  have ht := mt_tw hW hL hm.1 hm.2.1 ha hb
  have key := mt_rdz (t := a * arx W (n % W) + b * arx L (n / W)) (by omega)
  unfold f_X9_edgeDepth edp
  rw [r_arm0 hG hn, Option.bind_some, r_arm1 hG hn, Option.bind_some, p2, p3, p4, zI_mul, zI_mul, zI_add]
  generalize a * arx W (n % W) + b * arx L (n / W) = t at ht key ⊢
  have fin : ∀ q : Int32, q = zI (t / 2) → (if 0 ≤ zI D + q then some (zI D + q) else some 0) = some (zI (if 0 < (D : Int) + t / 2 then (D : Int) + t / 2 else 0)) := by
    intro q hq
    rw [hq, zI_add, show (0 : Int32) = zI 0 from rfl]
    simp (disch := omega) only [zI_le]
    by_cases h1 : 0 < (D : Int) + t / 2
    · rw [if_pos (by omega), if_pos h1]
    · rw [if_neg h1]
      by_cases h2 : 0 ≤ (D : Int) + t / 2
      · rw [if_pos h2, show (D : Int) + t / 2 = 0 by omega]
      · rw [if_neg h2]
  by_cases h1 : 0 ≤ zI t
  · rw [if_pos h1] at key ⊢
    exact fin _ key
  · rw [if_neg h1] at key ⊢
    by_cases h2 : zI t - zI t / 2 * 2 = 0
    · rw [if_pos h2] at key ⊢
      exact fin _ key
    · rw [if_neg h2] at key ⊢
      exact fin _ key
theorem mt_and {p q : Prop} [Decidable p] [Decidable q] {α : Type} (a b : α) : (if p then (if q then a else b) else b) = if p ∧ q then a else b := by
  by_cases h1 : p <;> by_cases h2 : q <;> simp [h1, h2]
theorem mt_andn {p q : Prop} [Decidable p] [Decidable q] {α : Type} (a b : α) : (if (if p then (1 : Int32) else 0) = 0 then b else (if q then a else b)) = if p ∧ q then a else b := by
  by_cases h1 : p <;> by_cases h2 : q <;> simp [h1, h2]
theorem mt_or4 (p1 q1 p2 q2 p3 q3 p4 q4 : Prop) [Decidable p1] [Decidable q1] [Decidable p2] [Decidable q2] [Decidable p3] [Decidable q3] [Decidable p4] [Decidable q4] : (if p1 then (if q1 then some (1 : Int32) else (if p2 then (if q2 then some 1 else (if p3 then (if q3 then some 1 else (if p4 then (if q4 then some 1 else some 4) else some 4)) else (if p4 then (if q4 then some 1 else some 4) else some 4))) else (if p3 then (if q3 then some 1 else (if p4 then (if q4 then some 1 else some 4) else some 4)) else (if p4 then (if q4 then some 1 else some 4) else some 4)))) else (if p2 then (if q2 then some 1 else (if p3 then (if q3 then some 1 else (if p4 then (if q4 then some 1 else some 4) else some 4)) else (if p4 then (if q4 then some 1 else some 4) else some 4))) else (if p3 then (if q3 then some 1 else (if p4 then (if q4 then some 1 else some 4) else some 4)) else (if p4 then (if q4 then some 1 else some 4) else some 4)))) = some (if (p1 ∧ q1) ∨ (p2 ∧ q2) ∨ (p3 ∧ q3) ∨ (p4 ∧ q4) then 1 else 4) := by
  simp only [mt_and]
  by_cases h1 : p1 ∧ q1
  · rw [if_pos h1, if_pos (Or.inl h1)]
  · rw [if_neg h1]
    by_cases h2 : p2 ∧ q2
    · rw [if_pos h2, if_pos (Or.inr (Or.inl h2))]
    · rw [if_neg h2]
      by_cases h3 : p3 ∧ q3
      · rw [if_pos h3, if_pos (Or.inr (Or.inr (Or.inl h3)))]
      · rw [if_neg h3]
        by_cases h4 : p4 ∧ q4
        · rw [if_pos h4, if_pos (Or.inr (Or.inr (Or.inr h4)))]
        · rw [if_neg h4, if_neg (by rintro (h | h | h | h) <;> contradiction)]
theorem mt_or4r (p1 p2 p3 p4 : Prop) [Decidable p1] [Decidable p2] [Decidable p3] [Decidable p4] : (if p4 then (1 : Int32) else if p3 then 1 else if p2 then 1 else if p1 then 1 else 4) = (if p1 ∨ p2 ∨ p3 ∨ p4 then 1 else 4) := by
  by_cases h1 : p1 <;> by_cases h2 : p2 <;> by_cases h3 : p3 <;> by_cases h4 : p4 <;> simp [h1, h2, h3, h4]
/-- times of the skin force -/
def skf (s : Nat → Int32) (W L x y : Nat) : Int32 := if (x = 0 ∧ s 64 = 1) ∨ (x = W - 1 ∧ s 65 = 1) ∨ (y = 0 ∧ s 66 = 1) ∨ (y = L - 1 ∧ s 67 = 1) then 1 else 4
def UR (s lub : Nat → Int32) : Prop := ∀ k, k < 4 → lub k = s (64 + k)
theorem c_skf {s lub : Nat → Int32} {W L x y : Nat} (hU : UR s lub) (hW : 3 ≤ W ∧ W ≤ 7) (hL : 3 ≤ L ∧ L ≤ 7) (hx : x < W) (hy : y < L) : f_X5_skinFactor (zI W) (zI L) lub (zI x) (zI y) = some (skf s W L x y) := by
  have u0 := hU 0 (by omega)
  have u1 := hU 1 (by omega)
  have u2 := hU 2 (by omega)
  have u3 := hU 3 (by omega)
  unfold f_X5_skinFactor f_X5_skinFactor_J14 f_X5_skinFactor_J34 f_X5_skinFactor_J48 skf
  simp (disch := omega) only [mt_eq0, mt_eqp, u0, u1, u2, u3]
  exact mt_or4 _ _ _ _ _ _ _ _
theorem r_skfL {s : Nat → Int32} {W L n k : Nat} (hG : GR s W L) (hn : n < W * L) (x3 : Int32) : f_X9_skin_L5 s (zI n) (k + 5) x3 0 = some (if (n / W = L - 1 ∧ s 67 = 1) then 1 else if (n / W = 0 ∧ s 66 = 1) then 1 else if (n % W = W - 1 ∧ s 65 = 1) then 1 else if (n % W = 0 ∧ s 64 = 1) then 1 else x3, 4) := by
  have e4 : ∀ z : Int32, f_X9_skin_L5 s (zI n) (k + 1) z 4 = some (z, 4) := by
    intro z; rw [f_X9_skin_L5, if_pos (by decide)]
  have e3 : ∀ z : Int32, f_X9_skin_L5 s (zI n) (k + 2) z 3 = some (if (n / W = L - 1 ∧ s 67 = 1) then 1 else z, 4) := by
    intro z
    rw [f_X9_skin_L5, if_neg (by decide), r_isOn3 hG hn, Option.bind_some, if_pos (show mg_ix (64 + 3) 227 = true from by decide), show ((3 : Int32) + 1) = 4 from by decide, e4, e4, show (Int32.toNatClampNeg (64 + 3)) = 67 from by decide]
    rw [mt_andn]
    by_cases h : n / W = L - 1 ∧ s 67 = 1
    · rw [if_pos h, if_pos h]
    · rw [if_neg h, if_neg h]
  have e2 : ∀ z : Int32, f_X9_skin_L5 s (zI n) (k + 3) z 2 = some (if (n / W = L - 1 ∧ s 67 = 1) then 1 else if (n / W = 0 ∧ s 66 = 1) then 1 else z, 4) := by
    intro z
    rw [f_X9_skin_L5, if_neg (by decide), r_isOn2 hG hn, Option.bind_some, if_pos (show mg_ix (64 + 2) 227 = true from by decide), show ((2 : Int32) + 1) = 3 from by decide, e3, e3, show (Int32.toNatClampNeg (64 + 2)) = 66 from by decide]
    rw [mt_andn]
    by_cases h : n / W = 0 ∧ s 66 = 1
    · rw [if_pos h, if_pos h]
    · rw [if_neg h, if_neg h]
  have e1 : ∀ z : Int32, f_X9_skin_L5 s (zI n) (k + 4) z 1 = some (if (n / W = L - 1 ∧ s 67 = 1) then 1 else if (n / W = 0 ∧ s 66 = 1) then 1 else if (n % W = W - 1 ∧ s 65 = 1) then 1 else z, 4) := by
    intro z
    rw [f_X9_skin_L5, if_neg (by decide), r_isOn1 hG hn, Option.bind_some, if_pos (show mg_ix (64 + 1) 227 = true from by decide), show ((1 : Int32) + 1) = 2 from by decide, e2, e2, show (Int32.toNatClampNeg (64 + 1)) = 65 from by decide]
    rw [mt_andn]
    by_cases h : n % W = W - 1 ∧ s 65 = 1
    · rw [if_pos h, if_pos h]
    · rw [if_neg h, if_neg h]
  rw [f_X9_skin_L5, if_neg (by decide), r_isOn0 hG hn, Option.bind_some, if_pos (show mg_ix (64 + 0) 227 = true from by decide), show ((0 : Int32) + 1) = 1 from by decide, e1, e1, show (Int32.toNatClampNeg (64 + 0)) = 64 from by decide]
  rw [mt_andn]
  by_cases h : n % W = 0 ∧ s 64 = 1
  · rw [if_pos h, if_pos h]
  · rw [if_neg h, if_neg h]
theorem r_skin {s lv : Nat → Int32} {W L nl n fuel : Nat} (hf : 5000 ≤ fuel) (hG : GR s W L) (hR : LR s nl lv) (hn : n < W * L) (e : Int) (he : 0 ≤ e ∧ e ≤ 5000) : f_X9_skin fuel s (zI n) (zI e) = some (skf s W L (n % W) (n / W) * fri s nl e) := by
  unfold f_X9_skin
  obtain ⟨k, rfl⟩ : ∃ k, fuel = k + 5 := ⟨fuel - 5, by omega⟩
  rw [r_skfL hG hn, Option.bind_some, r_fri hf hR e he, Option.bind_some]
  congr 2
  unfold skf
  exact mt_or4r _ _ _ _
theorem c_skin {s lv lub : Nat → Int32} {W L nl x y fuel : Nat} (hf : 5000 ≤ fuel) (hU : UR s lub) (hW : 3 ≤ W ∧ W ≤ 7) (hL : 3 ≤ L ∧ L ≤ 7) (hR : LR s nl lv) (hx : x < W) (hy : y < L) (e : Int) (he : 0 ≤ e ∧ e ≤ 5000) : f_X1_skinForce fuel (zI W) (zI L) (zI nl) lv lub (zI x) (zI y) (zI e) = some (skf s W L x y * fri s nl e) := by
  unfold f_X1_skinForce
  rw [c_skf hU hW hL hx hy, Option.bind_some, c_friA hf hR e he, Option.bind_some]
