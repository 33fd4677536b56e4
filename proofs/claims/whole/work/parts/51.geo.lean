/-! cells, sides, wells -/
theorem fb_rng' (x : Int32) : -2147483648 ≤ x.toInt ∧ x.toInt < 2147483648 := ⟨Int32.le_toInt x, Int32.toInt_lt x⟩
def GR (s : Nat → Int32) (W L : Nat) : Prop := s 0 = zI W ∧ s 1 = zI L ∧ (3 ≤ W ∧ W ≤ 7) ∧ (3 ≤ L ∧ L ≤ 7)
abbrev edg (W L x y : Nat) : Prop := x = 0 ∨ x = W - 1 ∨ y = 0 ∨ y = L - 1
abbrev sid (W L x y d : Nat) : Prop := (d = 0 ∧ x = 0) ∨ (d = 1 ∧ x = W - 1) ∨ (d = 2 ∧ y = 0) ∨ (d = 3 ∧ y = L - 1)
def nea (x W : Nat) : Nat := if x = 0 then 1 else if x = W - 1 then W - 2 else x
def wbs (W L x y : Nat) : Nat := nea y L * W + nea x W
theorem mt_mod {W L n : Nat} (hn : n < W * L) (hW : 0 < W) : n % W < W ∧ n / W < L ∧ n / W * W + n % W = n := by
  refine ⟨Nat.mod_lt _ hW, Nat.div_lt_of_lt_mul hn, ?_⟩
  rw [Nat.mul_comm]; exact Nat.div_add_mod n W
theorem mt_xy {W L x y : Nat} (hx : x < W) (hy : y < L) : y * W + x < W * L ∧ (y * W + x) % W = x ∧ (y * W + x) / W = y := by
  have hW : 0 < W := by omega
  refine ⟨?_, ?_, ?_⟩
  · calc y * W + x < y * W + W := by omega
      _ = (y + 1) * W := by rw [Nat.succ_mul]
      _ ≤ L * W := Nat.mul_le_mul_right W hy
      _ = W * L := Nat.mul_comm _ _
  · rw [Nat.add_comm, Nat.add_mul_mod_self_right, Nat.mod_eq_of_lt hx]
  · rw [Nat.add_comm, Nat.add_mul_div_right _ _ hW, Nat.div_eq_of_lt hx, Nat.zero_add]
theorem mt_WL {W L : Nat} (hW : W ≤ 7) (hL : L ≤ 7) : W * L ≤ 49 := Nat.mul_le_mul hW hL
theorem r_col {s : Nat → Int32} {W L n : Nat} (hG : GR s W L) (hn : n < W * L) : f_X9_columnOf s (zI n) = some (zI (n % W : Nat)) := by
  obtain ⟨h0, h1, hW, hL⟩ := hG
  have := mt_WL hW.2 hL.2
  unfold f_X9_columnOf
  rw [h0, if_neg (by rw [show (0 : Int32) = zI 0 from rfl, zI_eq (by omega) (by omega)]; omega), zI_rem (by omega) (by omega)]
  rfl
theorem r_row {s : Nat → Int32} {W L n : Nat} (hG : GR s W L) (hn : n < W * L) : f_X9_rowOf s (zI n) = some (zI (n / W : Nat)) := by
  obtain ⟨h0, h1, hW, hL⟩ := hG
  have := mt_WL hW.2 hL.2
  unfold f_X9_rowOf
  rw [h0, if_neg (by rw [show (0 : Int32) = zI 0 from rfl, zI_eq (by omega) (by omega)]; omega), zI_div (by omega) (by omega)]
  rfl
theorem c_col {W L n : Nat} (hW : 3 ≤ W ∧ W ≤ 7) (hL : 3 ≤ L ∧ L ≤ 7) (hn : n < W * L) : f_X5_columnOf (zI W) (zI n) = some (zI (n % W : Nat)) := by
  have := mt_WL hW.2 hL.2
  unfold f_X5_columnOf
  rw [if_neg (by rw [show (0 : Int32) = zI 0 from rfl, zI_le (by omega) (by omega)]; omega), if_neg (by rw [show (0 : Int32) = zI 0 from rfl, zI_eq (by omega) (by omega)]; omega), zI_rem (by omega) (by omega)]
  rfl
theorem c_row {W L n : Nat} (hW : 3 ≤ W ∧ W ≤ 7) (hL : 3 ≤ L ∧ L ≤ 7) (hn : n < W * L) : f_X5_rowOf (zI W) (zI n) = some (zI (n / W : Nat)) := by
  have := mt_WL hW.2 hL.2
  unfold f_X5_rowOf
  rw [if_neg (by rw [show (0 : Int32) = zI 0 from rfl, zI_le (by omega) (by omega)]; omega), if_neg (by rw [show (0 : Int32) = zI 0 from rfl, zI_eq (by omega) (by omega)]; omega), zI_div (by omega) (by omega)]
  rfl
theorem mt_eqn {a b : Nat} (ha : a < 2147483648) (hb : b < 2147483648) : (zI a = zI b) = (a = b) := by
  rw [zI_eq (by omega) (by omega)]; exact propext Int.ofNat_inj
theorem mt_eq0 {a : Nat} (ha : a < 2147483648) : (zI a = 0) = (a = 0) := mt_eqn (b := 0) ha (by omega)
theorem mt_eqp {a W : Nat} (ha : a < 2147483648) (hW : 1 ≤ W ∧ W < 2147483648) : (zI a = zI W - 1) = (a = W - 1) := by
  rw [show (1 : Int32) = zI 1 from rfl, zI_sub, zI_eq (by omega) (by omega)]
  apply propext; omega
theorem mt_eql {a : Nat} (n : Nat) (ha : a < 2147483648) (hn : n < 2147483648) : (zI a = (OfNat.ofNat n : Int32)) = (a = n) := mt_eqn ha hn
theorem mt_one (p : Prop) [Decidable p] : (if p then some (1 : Int32) else some 0) = some (if p then 1 else 0) := by by_cases h : p <;> simp [h]
theorem mt_sif {α : Type} (p : Prop) [Decidable p] (a b : α) : (if p then some a else some b) = some (if p then a else b) := by by_cases h : p <;> simp [h]
theorem r_isOn0 {s : Nat → Int32} {W L n : Nat} (hG : GR s W L) (hn : n < W * L) : f_X9_isOn s (zI n) 0 = some (if n % W = 0 then 1 else 0) := by
  obtain ⟨h0, h1, hW, hL⟩ := id hG
  have hm := mt_mod hn (by omega)
  unfold f_X9_isOn
  rw [if_pos rfl, r_col hG hn, Option.bind_some, mt_sif]
  simp (disch := omega) only [mt_eq0]
theorem r_isOn1 {s : Nat → Int32} {W L n : Nat} (hG : GR s W L) (hn : n < W * L) : f_X9_isOn s (zI n) 1 = some (if n % W = W - 1 then 1 else 0) := by
  obtain ⟨h0, h1, hW, hL⟩ := id hG
  have hm := mt_mod hn (by omega)
  unfold f_X9_isOn
  rw [if_neg (by decide), if_pos rfl, r_col hG hn, Option.bind_some, mt_sif, h0]
  simp (disch := omega) only [mt_eqp]
theorem r_isOn2 {s : Nat → Int32} {W L n : Nat} (hG : GR s W L) (hn : n < W * L) : f_X9_isOn s (zI n) 2 = some (if n / W = 0 then 1 else 0) := by
  obtain ⟨h0, h1, hW, hL⟩ := id hG
  have hm := mt_mod hn (by omega)
  unfold f_X9_isOn
  rw [if_neg (by decide), if_neg (by decide), if_pos rfl, r_row hG hn, Option.bind_some, mt_sif]
  simp (disch := omega) only [mt_eq0]
theorem r_isOn3 {s : Nat → Int32} {W L n : Nat} (hG : GR s W L) (hn : n < W * L) : f_X9_isOn s (zI n) 3 = some (if n / W = L - 1 then 1 else 0) := by
  obtain ⟨h0, h1, hW, hL⟩ := id hG
  have hm := mt_mod hn (by omega)
  unfold f_X9_isOn
  rw [if_neg (by decide), if_neg (by decide), if_neg (by decide), r_row hG hn, Option.bind_some, mt_sif, h1]
  simp (disch := omega) only [mt_eqp]
theorem r_isOn {s : Nat → Int32} {W L n d : Nat} (hG : GR s W L) (hn : n < W * L) (hd : d < 4) : f_X9_isOn s (zI n) (zI d) = some (if sid W L (n % W) (n / W) d then 1 else 0) := by
  rcases (show d = 0 ∨ d = 1 ∨ d = 2 ∨ d = 3 by omega) with rfl | rfl | rfl | rfl
  · rw [show zI ((0 : Nat) : Int) = 0 from rfl, r_isOn0 hG hn]; simp [sid]
  · rw [show zI ((1 : Nat) : Int) = 1 from rfl, r_isOn1 hG hn]; simp [sid]
  · rw [show zI ((2 : Nat) : Int) = 2 from rfl, r_isOn2 hG hn]; simp [sid]
  · rw [show zI ((3 : Nat) : Int) = 3 from rfl, r_isOn3 hG hn]; simp [sid]
theorem mt_cell {W L : Nat} (hW : 3 ≤ W ∧ W ≤ 7) (hL : 3 ≤ L ∧ L ≤ 7) (x : Int32) : (∃ n : Nat, n < W * L ∧ x = zI n) ∨ (x < 0 ∨ zI W * zI L ≤ x) := by
  have := mt_WL hW.2 hL.2
  have hp : 0 < W * L := Nat.mul_pos (by omega) (by omega)
  have hr := fb_rng' x
  by_cases h1 : x < 0
  · exact Or.inr (Or.inl h1)
  · by_cases h2 : zI W * zI L ≤ x
    · exact Or.inr (Or.inr h2)
    · refine Or.inl ⟨x.toInt.toNat, ?_, ?_⟩
      · rw [zI_mul, Int32.le_iff_toInt_le, zI_int (by rw [← Int.natCast_mul]; omega), ← Int.natCast_mul] at h2
        rw [Int32.lt_iff_toInt_lt] at h1
        have e0 : (0 : Int32).toInt = 0 := rfl
        rw [e0] at h1
        omega
      · rw [Int32.lt_iff_toInt_lt] at h1
        have e0 : (0 : Int32).toInt = 0 := rfl
        rw [e0] at h1
        rw [Int.toNat_of_nonneg (by omega)]
        exact zI_of x
theorem mt_cellin {W L n : Nat} (hW : 3 ≤ W ∧ W ≤ 7) (hL : 3 ≤ L ∧ L ≤ 7) (hn : n < W * L) : ¬ zI n < 0 ∧ ¬ zI W * zI L ≤ zI n := by
  have := mt_WL hW.2 hL.2
  refine ⟨?_, ?_⟩
  · rw [show (0 : Int32) = zI 0 from rfl, zI_lt (by omega) (by omega)]; omega
  · rw [zI_mul, ← Int.natCast_mul, zI_le (by omega) (by omega)]; omega
theorem c_isCell1 {W L n : Nat} (hW : 3 ≤ W ∧ W ≤ 7) (hL : 3 ≤ L ∧ L ≤ 7) (hn : n < W * L) : f_X5_isCell (zI W) (zI L) (zI n) = some 1 := by
  unfold f_X5_isCell
  have := mt_cellin hW hL hn
  rw [if_neg this.1, if_neg this.2]
theorem c_isCell0 {W L : Nat} {x : Int32} (h : x < 0 ∨ zI W * zI L ≤ x) : f_X5_isCell (zI W) (zI L) x = some 0 := by
  unfold f_X5_isCell
  by_cases h1 : x < 0
  · rw [if_pos h1]
  · rw [if_neg h1, if_pos (h.resolve_left h1)]
theorem r_isCell1 {s : Nat → Int32} {W L n : Nat} (hG : GR s W L) (hn : n < W * L) : f_X9_isCell s (zI n) = some 1 := by
  obtain ⟨h0, h1, hW, hL⟩ := id hG
  have := mt_WL hW.2 hL.2
  unfold f_X9_isCell
  rw [h0, h1, fI_in, fI_w, if_pos, Option.bind_some, if_pos (by decide)]
  rw [show (0 : Int32) = zI 0 from rfl, show (1 : Int32) = zI 1 from rfl, zI_mul, zI_sub, ← Int.natCast_mul, zI_le (by omega) (by omega), zI_le (by omega) (by omega)]
  omega
theorem r_isCell0 {s : Nat → Int32} {W L : Nat} {x : Int32} (hG : GR s W L) (h : x < 0 ∨ zI W * zI L ≤ x) : f_X9_isCell s x = some 0 := by
  obtain ⟨h0, h1, hW, hL⟩ := id hG
  have := mt_WL hW.2 hL.2
  have hp : 0 < W * L := Nat.mul_pos (by omega) (by omega)
  unfold f_X9_isCell
  rw [h0, h1, fI_in, fI_w, if_neg, Option.bind_some, if_pos (by decide)]
  rw [zI_mul, ← Int.natCast_mul] at h
  rw [show (1 : Int32) = zI 1 from rfl, zI_mul, zI_sub, ← Int.natCast_mul]
  rw [Int32.lt_iff_toInt_lt, Int32.le_iff_toInt_le, zI_int (by omega)] at h
  rw [Int32.le_iff_toInt_le, Int32.le_iff_toInt_le, zI_int (by omega)]
  have e0 : (0 : Int32).toInt = 0 := rfl
  rw [e0] at h ⊢
  omega
theorem c_edgeAt {W L x y : Nat} (hW : 3 ≤ W ∧ W ≤ 7) (hL : 3 ≤ L ∧ L ≤ 7) (hx : x < W) (hy : y < L) : f_X5_isEdgeAt (zI W) (zI L) (zI x) (zI y) = some (if edg W L x y then 1 else 0) := by
  unfold f_X5_isEdgeAt
  simp (disch := omega) only [mt_eq0, mt_eqp]
  by_cases h1 : x = 0
  · simp [edg, h1]
  · by_cases h2 : x = W - 1
    · simp [edg, h2]
    · by_cases h3 : y = 0
      · simp [edg, h3]
      · by_cases h4 : y = L - 1
        · simp [edg, h4]
        · simp [edg, h1, h2, h3, h4]
theorem c_isEdge {W L n : Nat} (hW : 3 ≤ W ∧ W ≤ 7) (hL : 3 ≤ L ∧ L ≤ 7) (hn : n < W * L) : f_X5_isEdge (zI W) (zI L) (zI n) = some (if edg W L (n % W) (n / W) then 1 else 0) := by
  have hm := mt_mod hn (by omega)
  unfold f_X5_isEdge
  rw [c_isCell1 hW hL hn, Option.bind_some, if_neg (by decide), c_col hW hL hn, Option.bind_some, c_row hW hL hn, Option.bind_some, c_edgeAt hW hL hm.1 hm.2.1, Option.bind_some]
  by_cases h : edg W L (n % W) (n / W)
  · rw [if_pos h]; rfl
  · rw [if_neg h]; rfl
theorem c_isWell {W L n : Nat} (hW : 3 ≤ W ∧ W ≤ 7) (hL : 3 ≤ L ∧ L ≤ 7) (hn : n < W * L) : f_X5_isWell (zI W) (zI L) (zI n) = some (if edg W L (n % W) (n / W) then 0 else 1) := by
  have hm := mt_mod hn (by omega)
  unfold f_X5_isWell
  rw [c_isCell1 hW hL hn, Option.bind_some, if_neg (by decide), c_col hW hL hn, Option.bind_some, c_row hW hL hn, Option.bind_some, c_edgeAt hW hL hm.1 hm.2.1, Option.bind_some]
  by_cases h : edg W L (n % W) (n / W)
  · rw [if_pos h, if_pos h]; rfl
  · rw [if_neg h, if_neg h]; rfl
theorem c_isEdge0 {W L : Nat} {x : Int32} (h : x < 0 ∨ zI W * zI L ≤ x) : f_X5_isEdge (zI W) (zI L) x = some 0 := by
  unfold f_X5_isEdge
  rw [c_isCell0 h]; rfl
theorem c_isWell0 {W L : Nat} {x : Int32} (h : x < 0 ∨ zI W * zI L ≤ x) : f_X5_isWell (zI W) (zI L) x = some 0 := by
  unfold f_X5_isWell
  rw [c_isCell0 h]; rfl
theorem r_isEdge {s : Nat → Int32} {W L n : Nat} (hG : GR s W L) (hn : n < W * L) : f_X9_isEdge s (zI n) = some (if edg W L (n % W) (n / W) then 1 else 0) := by
  unfold f_X9_isEdge
  rw [r_isCell1 hG hn, Option.bind_some, if_neg (by decide), r_isOn0 hG hn, Option.bind_some, r_isOn1 hG hn, Option.bind_some, r_isOn2 hG hn, Option.bind_some, r_isOn3 hG hn, Option.bind_some]
  by_cases h1 : n % W = 0
  · rw [if_pos h1, if_neg (by decide), if_pos (Or.inl h1)]
  · rw [if_neg h1, if_pos rfl]
    by_cases h2 : n % W = W - 1
    · rw [if_pos h2, if_neg (by decide), if_pos (Or.inr (Or.inl h2))]
    · rw [if_neg h2, if_pos rfl]
      by_cases h3 : n / W = 0
      · rw [if_pos h3, if_neg (by decide), if_pos (Or.inr (Or.inr (Or.inl h3)))]
      · rw [if_neg h3, if_pos rfl]
        by_cases h4 : n / W = L - 1
        · rw [if_pos h4, if_neg (by decide), if_pos (Or.inr (Or.inr (Or.inr h4)))]
        · rw [if_neg h4, if_pos rfl, if_neg (by simp [edg, h1, h2, h3, h4])]
theorem r_isEdge0 {s : Nat → Int32} {W L : Nat} {x : Int32} (hG : GR s W L) (h : x < 0 ∨ zI W * zI L ≤ x) : f_X9_isEdge s x = some 0 := by
  unfold f_X9_isEdge
  rw [r_isCell0 hG h]; rfl
theorem r_isWell {s : Nat → Int32} {W L n : Nat} (hG : GR s W L) (hn : n < W * L) : f_X9_isWell s (zI n) = some (if edg W L (n % W) (n / W) then 0 else 1) := by
  unfold f_X9_isWell
  rw [r_isCell1 hG hn, Option.bind_some, if_neg (by decide), r_isEdge hG hn, Option.bind_some]
  by_cases h : edg W L (n % W) (n / W)
  · rw [if_pos h, if_pos h]; rfl
  · rw [if_neg h, if_neg h]; rfl
theorem r_isWell0 {s : Nat → Int32} {W L : Nat} {x : Int32} (hG : GR s W L) (h : x < 0 ∨ zI W * zI L ≤ x) : f_X9_isWell s x = some 0 := by
  unfold f_X9_isWell
  rw [r_isCell0 hG h]; rfl
theorem mt_nea {x W : Nat} (hW : 3 ≤ W ∧ W ≤ 7) (hx : x < W) : 1 ≤ nea x W ∧ nea x W ≤ W - 2 := by
  unfold nea
  split
  · omega
  · split <;> omega
theorem mt_wbs {W L x y : Nat} (hW : 3 ≤ W ∧ W ≤ 7) (hL : 3 ≤ L ∧ L ≤ 7) (hx : x < W) (hy : y < L) : wbs W L x y < W * L ∧ (wbs W L x y) % W = nea x W ∧ (wbs W L x y) / W = nea y L := mt_xy (by have := mt_nea hW hx; omega) (by have := mt_nea hL hy; omega)
theorem r_near {x W : Nat} (hW : 3 ≤ W ∧ W ≤ 7) (hx : x < W) : f_X9_near (zI x) (zI W) = some (zI (nea x W : Nat)) := by
  unfold f_X9_near nea
  rw [show (1 : Int32) = zI 1 from rfl, show (2 : Int32) = zI 2 from rfl, zI_sub]
  by_cases h1 : x = 0
  · subst h1
    rw [if_neg (by rw [zI_le (by omega) (by omega)]; omega), if_pos rfl]
    rfl
  · rw [if_pos (by rw [zI_le (by omega) (by omega)]; omega), if_neg h1]
    by_cases h2 : x = W - 1
    · rw [if_neg (by rw [zI_le (by omega) (by omega)]; omega), if_pos h2]
      rw [show ((W - 2 : Nat) : Int) = (W : Int) - 2 by omega]
    · rw [if_pos (by rw [zI_le (by omega) (by omega)]; omega), if_neg h2]
theorem r_wbs {s : Nat → Int32} {W L n : Nat} (hG : GR s W L) (hn : n < W * L) : f_X9_wellBeside s (zI n) = some (zI (wbs W L (n % W) (n / W) : Nat)) := by
  obtain ⟨h0, h1, hW, hL⟩ := id hG
  have hm := mt_mod hn (by omega)
  unfold f_X9_wellBeside wbs
  rw [r_row hG hn, Option.bind_some, h1, r_near hL hm.2.1, Option.bind_some, r_col hG hn, Option.bind_some, h0, r_near hW hm.1, Option.bind_some, zI_mul, zI_add]
  norm_cast
theorem c_wbs {W L x y : Nat} (hW : 3 ≤ W ∧ W ≤ 7) (hL : 3 ≤ L ∧ L ≤ 7) (hx : x < W) (hy : y < L) : f_X5_wellBeside (zI W) (zI L) (zI x) (zI y) = some (zI (wbs W L x y : Nat)) := by
  have e : ∀ z : Nat, f_X5_wellBeside_J28 (zI W) (zI L) (zI y) (zI z) = some (zI ((nea y L * W + z : Nat))) := by
    intro z
    unfold f_X5_wellBeside_J28 nea
    simp (disch := omega) only [mt_eq0, mt_eqp]
    by_cases h1 : y = 0
    · rw [if_pos h1, if_pos h1, show (1 : Int32) = zI 1 from rfl, zI_mul, zI_add]; norm_cast
    · rw [if_neg h1, if_neg h1]
      by_cases h2 : y = L - 1
      · rw [if_pos h2, if_pos h2, show (2 : Int32) = zI 2 from rfl, zI_sub, zI_mul, zI_add, show ((L : Int) - 2) = ((L - 2 : Nat) : Int) by omega]; norm_cast
      · rw [if_neg h2, if_neg h2, zI_mul, zI_add]; norm_cast
  unfold f_X5_wellBeside wbs
  simp (disch := omega) only [mt_eq0, mt_eqp]
  by_cases h1 : x = 0
  · rw [if_pos h1, show (1 : Int32) = zI ((1 : Nat) : Int) from rfl, e]; simp [nea, h1]
  · rw [if_neg h1]
    by_cases h2 : x = W - 1
    · rw [if_pos h2, show (2 : Int32) = zI 2 from rfl, zI_sub, show ((W : Int) - 2) = ((W - 2 : Nat) : Int) by omega, e]; simp only [nea, if_neg h1, if_pos h2]
    · rw [if_neg h2, e]; simp only [nea, if_neg h1, if_neg h2]
