/-! layers -/
def lts (s : Nat → Int32) : Nat → Int32
  | 0 => 0
  | n + 1 => lts s n + s (9 + 3 * n)
def LR (s : Nat → Int32) (nl : Nat) (lv : Nat → Int32) : Prop := s 8 = zI nl ∧ nl ≤ 8 ∧ (∀ i, i < nl → lv (3 * i) = lts s (i + 1) ∧ lv (3 * i + 1) = s (9 + 3 * i + 1) ∧ lv (3 * i + 2) = s (9 + 3 * i + 2)) ∧ ∀ i, i < nl → ∃ t : Nat, s (9 + 3 * i) = zI t ∧ 1 ≤ t ∧ t ≤ 100
def lyr (s : Nat → Int32) (d : Int32) : Nat → Nat → Nat
  | 0, i => i
  | r + 1, i => if lts s (i + 1) ≤ d then lyr s d r (i + 1) else i
theorem lyr_le (s : Nat → Int32) (d : Int32) : ∀ r i, i ≤ lyr s d r i ∧ lyr s d r i ≤ i + r
  | 0, i => ⟨Nat.le_refl _, Nat.le_refl _⟩
  | r + 1, i => by
    unfold lyr
    split
    · have := lyr_le s d r (i + 1); omega
    · omega
def lay (s : Nat → Int32) (nl : Nat) (d : Int32) : Nat := lyr s d nl 0
theorem lay_le (s : Nat → Int32) (nl : Nat) (d : Int32) : lay s nl d ≤ nl := by
  have := lyr_le s d nl 0
  unfold lay; omega
theorem mt_3 (i : Nat) : zI i * 3 = zI ((3 * i : Nat) : Int) := by
  rw [show (3 : Int32) = zI 3 from rfl, zI_mul]; congr 1; omega
theorem mt_31 (i : Nat) : zI i * 3 + 1 = zI ((3 * i + 1 : Nat) : Int) := by
  rw [mt_3, show (1 : Int32) = zI 1 from rfl, zI_add]; congr 1
theorem mt_32 (i : Nat) : zI i * 3 + 2 = zI ((3 * i + 2 : Nat) : Int) := by
  rw [mt_3, show (2 : Int32) = zI 2 from rfl, zI_add]; congr 1
theorem mt_s1 (i : Nat) : zI i + 1 = zI ((i + 1 : Nat) : Int) := by
  rw [show (1 : Int32) = zI 1 from rfl, zI_add]; congr 1
theorem mt_93 (i : Nat) : 9 + 3 * zI i = zI ((9 + 3 * i : Nat) : Int) := by
  rw [show (3 : Int32) = zI 3 from rfl, show (9 : Int32) = zI 9 from rfl, zI_mul, zI_add]; congr 1
theorem mt_ixn {a n : Nat} (h : a < n) (hn : n < 2147483648) : mg_ix (zI a) n = true := zI_ix (by omega) (by omega) hn
theorem mt_cln {a : Nat} (h : a < 2147483648) : (zI a).toNatClampNeg = a := by
  rw [zI_clamp (by omega)]; omega
theorem mt_len {a b : Nat} (ha : a < 2147483648) (hb : b < 2147483648) : (zI a ≤ zI b) = (a ≤ b) := by
  rw [zI_le (by omega) (by omega)]; apply propext; omega
theorem mt_ltn {a b : Nat} (ha : a < 2147483648) (hb : b < 2147483648) : (zI a < zI b) = (a < b) := by
  rw [zI_lt (by omega) (by omega)]; apply propext; omega
theorem c_layL {s lv : Nat → Int32} {nl : Nat} (hR : LR s nl lv) (d : Int32) : ∀ (r i n : Nat), i + r = nl → r < n → f_X2_layerAt_L2 (zI nl) lv d n (zI i) = some (if lyr s d r i < nl then (1, zI (lyr s d r i)) else (0, zI nl)) := by
  obtain ⟨h8, hnl, hv, ht⟩ := hR
  intro r
  induction r with
  | zero =>
    intro i n h1 h2
    obtain ⟨n, rfl⟩ : ∃ k, n = k + 1 := ⟨n - 1, by omega⟩
    have : i = nl := by omega
    subst this
    rw [f_X2_layerAt_L2, if_pos (by rw [mt_len (by omega) (by omega)]; omega), lyr, if_neg (by omega)]
  | succ r ih =>
    intro i n h1 h2
    obtain ⟨n, rfl⟩ : ∃ k, n = k + 1 := ⟨n - 1, by omega⟩
    rw [f_X2_layerAt_L2, if_neg (by rw [mt_len (by omega) (by omega)]; omega), mt_3, if_pos (mt_ixn (by omega) (by omega)), mt_cln (by omega), (hv i (by omega)).1, lyr]
    by_cases h : lts s (i + 1) ≤ d
    · rw [if_pos h, if_pos h, mt_s1, ih (i + 1) n (by omega) (by omega)]
    · rw [if_neg h, if_neg h, if_pos (by omega)]
theorem c_lay {s lv : Nat → Int32} {nl fuel : Nat} (hf : 5000 ≤ fuel) (hR : LR s nl lv) (d : Int32) : f_X2_layerAt fuel (zI nl) lv d = some (if lay s nl d < nl then zI (lay s nl d) else (-1000009)) := by
  unfold f_X2_layerAt
  have hnl := hR.2.1
  have e := c_layL hR d nl 0 fuel (by omega) (by omega)
  rw [show zI ((0 : Nat) : Int) = 0 from rfl] at e
  rw [e, Option.bind_some]
  unfold lay
  split
  · rw [if_neg (show ¬ (1 : Nat) = 0 from by decide)]
  · rw [if_pos rfl]
theorem mt_none (a : Nat) (h : a < 1000) : ¬ zI a = (-1000009) := by
  rw [show (-1000009 : Int32) = zI (-1000009) from rfl, zI_eq (by omega) (by omega)]; omega
theorem c_get {nl n p : Nat} {vs : Nat → Int32} {i : Nat} (hi : i < nl) (hp : p < 3) (hn : 3 * nl ≤ n) (hN : n < 2147483648) : f_X7_get n (zI nl) vs (zI i) (zI p) = some (vs (3 * i + p)) := by
  unfold f_X7_get
  rw [if_neg (by rw [show (0 : Int32) = zI 0 from rfl, zI_lt (by omega) (by omega)]; omega), if_neg (by rw [mt_len (by omega) (by omega)]; omega), if_neg (by rw [show (0 : Int32) = zI 0 from rfl, zI_lt (by omega) (by omega)]; omega), if_pos (by rw [show (3 : Int32) = zI ((3 : Nat) : Int) from rfl, mt_ltn (by omega) (by omega)]; exact hp)]
  rw [mt_3, zI_add, show (((3 * i : Nat) : Int) + (p : Int)) = ((3 * i + p : Nat) : Int) by omega, if_pos (mt_ixn (by omega) hN), mt_cln (by omega)]
theorem c_get0 {nl n : Nat} {vs : Nat → Int32} {i : Int32} {p : Int32} (hi : i < 0 ∨ zI nl ≤ i) : f_X7_get n (zI nl) vs i p = some (-1000009) := by
  unfold f_X7_get
  by_cases h : i < 0
  · rw [if_pos h]
  · rw [if_neg h, if_pos (hi.resolve_left h)]
/-- strength (w = 0) and friction (w = 1) at a depth -/
def grd (s : Nat → Int32) (nl : Nat) (d : Int32) (w : Nat) : Int32 := if lay s nl d = nl then (if w = 0 then 60 else 9) else s (9 + 3 * lay s nl d + 1 + w)
theorem c_str {s lv : Nat → Int32} {nl fuel : Nat} (hf : 5000 ≤ fuel) (hR : LR s nl lv) (d : Int32) : f_X2_strengthAt fuel (zI nl) lv d = some (grd s nl d 0) := by
  unfold f_X2_strengthAt grd
  have hl := lay_le s nl d
  have hnl := hR.2.1
  rw [c_lay hf hR, Option.bind_some]
  by_cases h : lay s nl d < nl
  · rw [if_pos h, if_neg (mt_none _ (by omega)), if_neg (by omega), show (1 : Int32) = zI ((1 : Nat) : Int) from rfl, c_get h (by omega) (by omega) (by omega), Option.bind_some, (hR.2.2.1 _ h).2.1]
  · rw [if_neg h, if_pos rfl, if_pos (by omega), if_pos rfl]
theorem c_fri {s lv : Nat → Int32} {nl fuel : Nat} (hf : 5000 ≤ fuel) (hR : LR s nl lv) (d : Int32) : f_X2_frictionAt fuel (zI nl) lv d = some (grd s nl d 1) := by
  unfold f_X2_frictionAt grd
  have hl := lay_le s nl d
  have hnl := hR.2.1
  rw [c_lay hf hR, Option.bind_some]
  by_cases h : lay s nl d < nl
  · rw [if_pos h, if_neg (mt_none _ (by omega)), if_neg (by omega), show (2 : Int32) = zI ((2 : Nat) : Int) from rfl, c_get h (by omega) (by omega) (by omega), Option.bind_some, (hR.2.2.1 _ h).2.2]
  · rw [if_neg h, if_pos rfl, if_pos (by omega), if_neg (by omega)]
theorem r_layL {s lv : Nat → Int32} {nl : Nat} (hR : LR s nl lv) (d : Int32) : ∀ (r i n : Nat), i + r = nl → r < n → f_X9_layerAt_L4 s d n (zI i) (lts s i) = some (zI (lyr s d r i), lts s (lyr s d r i)) := by
  obtain ⟨h8, hnl, hv, ht⟩ := hR
  intro r
  induction r with
  | zero =>
    intro i n h1 h2
    obtain ⟨n, rfl⟩ : ∃ k, n = k + 1 := ⟨n - 1, by omega⟩
    have : i = nl := by omega
    subst this
    rw [f_X9_layerAt_L4, h8, if_pos (by rw [mt_len (by omega) (by omega)]; omega), lyr]
  | succ r ih =>
    intro i n h1 h2
    obtain ⟨n, rfl⟩ : ∃ k, n = k + 1 := ⟨n - 1, by omega⟩
    rw [f_X9_layerAt_L4, h8, if_neg (by rw [mt_len (by omega) (by omega)]; omega), mt_93, if_pos (mt_ixn (by omega) (by omega)), if_pos (mt_ixn (by omega) (by omega)), mt_cln (by omega), lyr]
    have e : lts s i + s (9 + 3 * i) = lts s (i + 1) := rfl
    rw [e]
    by_cases h : lts s (i + 1) ≤ d
    · rw [if_neg (Int32.not_lt.mpr h), if_pos h, mt_s1, ih (i + 1) n (by omega) (by omega)]
    · rw [if_pos (Int32.not_le.mp h), if_neg h]
theorem r_lay {s lv : Nat → Int32} {nl fuel : Nat} (hf : 5000 ≤ fuel) (hR : LR s nl lv) (d : Int32) : f_X9_layerAt fuel s d = some (zI (lay s nl d)) := by
  unfold f_X9_layerAt
  have hnl := hR.2.1
  have e := r_layL hR d nl 0 fuel (by omega) (by omega)
  rw [show zI ((0 : Nat) : Int) = 0 from rfl, show lts s 0 = 0 from rfl] at e
  rw [e]; rfl
theorem r_grd {s lv : Nat → Int32} {nl fuel w : Nat} (hf : 5000 ≤ fuel) (hR : LR s nl lv) (d : Int32) (hw : w < 2) : f_X9_groundAt fuel s d (zI w) = some (grd s nl d w) := by
  unfold f_X9_groundAt grd
  have hl := lay_le s nl d
  have hnl := hR.2.1
  rw [r_lay hf hR, Option.bind_some, hR.1]
  simp (disch := omega) only [mt_eqn, mt_eq0]
  by_cases h : lay s nl d = nl
  · rw [if_pos h, if_pos h, mt_sif]
  · rw [if_neg h, if_neg h, mt_93, show (1 : Int32) = zI 1 from rfl, zI_add, zI_add, show (((9 + 3 * lay s nl d : Nat) : Int) + 1 + (w : Int)) = ((9 + 3 * lay s nl d + 1 + w : Nat) : Int) by omega, if_pos (mt_ixn (by omega) (by omega)), mt_cln (by omega)]
