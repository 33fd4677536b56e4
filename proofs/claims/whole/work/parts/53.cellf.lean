/-! forces at one edge cell -/
/-- the frictions above a depth: what is left of it, layer by layer -/
def frv (s : Nat → Int32) : Nat → Nat → Int32 → Int → Int32
  | 0, _, sum, left => sum + 9 * zI left
  | r + 1, i, sum, left => if left ≤ (s (9 + 3 * i)).toInt then sum + zI left * s (9 + 3 * i + 2) else frv s r (i + 1) (sum + s (9 + 3 * i) * s (9 + 3 * i + 2)) (left - (s (9 + 3 * i)).toInt)
def fri (s : Nat → Int32) (nl : Nat) (e : Int) : Int32 := frv s nl 0 0 e
theorem lts_z {s lv : Nat → Int32} {nl : Nat} (hR : LR s nl lv) : ∀ i, i ≤ nl → ∃ T : Nat, lts s i = zI T ∧ T ≤ 100 * i := by
  intro i
  induction i with
  | zero => intro _; exact ⟨0, rfl, by omega⟩
  | succ i ih =>
    intro hi
    obtain ⟨T, h1, h2⟩ := ih (by omega)
    obtain ⟨t, h3, h4, h5⟩ := hR.2.2.2 i (by omega)
    refine ⟨T + t, ?_, by omega⟩
    show lts s i + s (9 + 3 * i) = _
    rw [h1, h3, zI_add]; congr 1
theorem c_friL {s lv : Nat → Int32} {nl : Nat} (hR : LR s nl lv) (e : Int) (he : 0 ≤ e ∧ e ≤ 5000) : ∀ (r i n : Nat) (sum : Int32) (T : Nat), i + r = nl → r < n → lts s i = zI T → T ≤ 100 * i → (T : Int) ≤ e →
    (f_X2_frictionAbove_L7 (zI nl) lv (zI e) n sum (lts s i) (zI i)).bind (fun q1 => if q1.1 = 0 then (some (q1.2.1 + ((zI e - q1.2.2.1) * 9))) else (some (q1.2.1 + ((zI e - q1.2.2.1) * q1.2.2.2.2)))) = some (frv s r i sum (e - T)) := by
  obtain ⟨h8, hnl, hv, ht⟩ := id hR
  intro r
  induction r with
  | zero =>
    intro i n sum T h1 h2 hT hT2 hTe
    obtain ⟨n, rfl⟩ : ∃ k, n = k + 1 := ⟨n - 1, by omega⟩
    have : i = nl := by omega
    subst this
    rw [f_X2_frictionAbove_L7, if_pos (by rw [mt_len (by omega) (by omega)]; omega), Option.bind_some, if_pos rfl, frv, hT, zI_sub, Int32.mul_comm]
  | succ r ih =>
    intro i n sum T h1 h2 hT hT2 hTe
    obtain ⟨n, rfl⟩ : ∃ k, n = k + 1 := ⟨n - 1, by omega⟩
    obtain ⟨t, h3, h4, h5⟩ := ht i (by omega)
    have hT1 : lts s (i + 1) = zI ((T + t : Nat) : Int) := by
      show lts s i + s (9 + 3 * i) = _
      rw [hT, h3, zI_add]; congr 1
    rw [f_X2_frictionAbove_L7, if_neg (by rw [mt_len (by omega) (by omega)]; omega), mt_32, mt_3, if_pos (mt_ixn (by omega) (by omega)), if_pos (mt_ixn (by omega) (by omega)), mt_cln (by omega), mt_cln (by omega), (hv i (by omega)).1, (hv i (by omega)).2.2, frv, h3, zI_int (by omega)]
    by_cases h : (T + t : Int) < e
    · rw [if_pos (by rw [hT1, zI_lt (by omega) (by omega)]; omega), if_neg (by omega), mt_s1]
      have e1 : lts s (i + 1) - lts s i = zI t := by rw [hT1, hT, zI_sub]; congr 1; omega
      rw [e1, ih (i + 1) n _ (T + t) (by omega) (by omega) hT1 (by omega) (by omega)]
      congr 2
      omega
    · rw [if_neg (by rw [hT1, zI_lt (by omega) (by omega)]; omega), if_pos (by omega), Option.bind_some, if_neg (show ¬ (1 : Nat) = 0 from by decide), hT, zI_sub]
theorem c_friA {s lv : Nat → Int32} {nl fuel : Nat} (hf : 5000 ≤ fuel) (hR : LR s nl lv) (e : Int) (he : 0 ≤ e ∧ e ≤ 5000) : f_X2_frictionAbove fuel (zI nl) lv (zI e) = some (fri s nl e) := by
  unfold f_X2_frictionAbove
  have hnl := hR.2.1
  have := c_friL hR e he nl 0 fuel 0 0 (by omega) (by omega) rfl (by omega) (by omega)
  rw [show zI ((0 : Nat) : Int) = 0 from rfl, show lts s 0 = 0 from rfl] at this
  rw [this]
  show some (frv s nl 0 0 (e - ((0 : Nat) : Int))) = some (frv s nl 0 0 e)
  rw [show e - ((0 : Nat) : Int) = e by omega]
theorem r_friZ {s lv : Nat → Int32} {nl : Nat} (hR : LR s nl lv) : ∀ (r i n : Nat) (sum : Int32), i + r = nl → r < n → f_X9_frictions_L7 s n 0 sum (zI i) = some (0, sum, zI nl) := by
  obtain ⟨h8, hnl, hv, ht⟩ := id hR
  intro r
  induction r with
  | zero =>
    intro i n sum h1 h2
    obtain ⟨n, rfl⟩ : ∃ k, n = k + 1 := ⟨n - 1, by omega⟩
    have : i = nl := by omega
    subst this
    rw [f_X9_frictions_L7, h8, if_pos (by rw [mt_len (by omega) (by omega)]; omega)]
  | succ r ih =>
    intro i n sum h1 h2
    obtain ⟨n, rfl⟩ : ∃ k, n = k + 1 := ⟨n - 1, by omega⟩
    obtain ⟨t, h3, h4, h5⟩ := ht i (by omega)
    rw [f_X9_frictions_L7, h8, if_neg (by rw [mt_len (by omega) (by omega)]; omega), mt_93, if_pos (mt_ixn (by omega) (by omega)), mt_cln (by omega), h3, if_pos (by rw [show (0 : Int32) = zI ((0 : Nat) : Int) from rfl, mt_len (by omega) (by omega)]; omega)]
    unfold f_X9_frictions_J51
    rw [mt_93, show (2 : Int32) = zI 2 from rfl, zI_add, show (((9 + 3 * i : Nat) : Int) + 2) = ((9 + 3 * i + 2 : Nat) : Int) by omega, if_pos (mt_ixn (by omega) (by omega)), mt_s1, Int32.sub_self, Int32.zero_mul, Int32.add_zero]
    exact ih (i + 1) n sum (by omega) (by omega)
theorem r_friL {s lv : Nat → Int32} {nl : Nat} (hR : LR s nl lv) : ∀ (r i n : Nat) (sum : Int32) (left : Int), i + r = nl → r < n → 0 ≤ left → left ≤ 5000 →
    (f_X9_frictions_L7 s n (zI left) sum (zI i)).bind (fun q1 => some (q1.2.1 + (9 * q1.1))) = some (frv s r i sum left) := by
  obtain ⟨h8, hnl, hv, ht⟩ := id hR
  intro r
  induction r with
  | zero =>
    intro i n sum left h1 h2 h3 h4
    obtain ⟨n, rfl⟩ : ∃ k, n = k + 1 := ⟨n - 1, by omega⟩
    have : i = nl := by omega
    subst this
    rw [f_X9_frictions_L7, h8, if_pos (by rw [mt_len (by omega) (by omega)]; omega), Option.bind_some, frv]
  | succ r ih =>
    intro i n sum left h1 h2 h3 h4
    obtain ⟨n, rfl⟩ : ∃ k, n = k + 1 := ⟨n - 1, by omega⟩
    obtain ⟨t, h5, h6, h7⟩ := ht i (by omega)
    have hJ : ∀ y0 : Int32, f_X9_frictions_J51 (f_X9_frictions_L7 s n) s (zI left) sum (zI i) y0 = f_X9_frictions_L7 s n (zI left - y0) (sum + y0 * s (9 + 3 * i + 2)) (zI ((i + 1 : Nat) : Int)) := by
      intro y0
      unfold f_X9_frictions_J51
      rw [mt_93, show (2 : Int32) = zI 2 from rfl, zI_add, show (((9 + 3 * i : Nat) : Int) + 2) = ((9 + 3 * i + 2 : Nat) : Int) by omega, if_pos (mt_ixn (by omega) (by omega)), mt_s1, mt_cln (by omega)]
    rw [f_X9_frictions_L7, h8, if_neg (by rw [mt_len (by omega) (by omega)]; omega), mt_93, if_pos (mt_ixn (by omega) (by omega)), if_pos (mt_ixn (by omega) (by omega)), mt_cln (by omega), hJ, hJ, h5, frv, h5, zI_int (by omega)]
    by_cases h : left ≤ (t : Int)
    · rw [if_pos (by rw [zI_le (by omega) (by omega)]; exact h), if_pos h, Int32.sub_self, r_friZ hR r (i + 1) n _ (by omega) (by omega), Option.bind_some, Int32.mul_zero, Int32.add_zero]
    · rw [if_neg (by rw [zI_le (by omega) (by omega)]; exact h), if_neg h, zI_sub]
      exact ih (i + 1) n _ (left - t) (by omega) (by omega) (by omega) (by omega)
theorem r_fri {s lv : Nat → Int32} {nl fuel : Nat} (hf : 5000 ≤ fuel) (hR : LR s nl lv) (e : Int) (he : 0 ≤ e ∧ e ≤ 5000) : f_X9_frictions fuel s (zI e) = some (fri s nl e) := by
  unfold f_X9_frictions fri
  have hnl := hR.2.1
  have := r_friL hR nl 0 fuel 0 e (by omega) (by omega) he.1 he.2
  rw [show zI ((0 : Nat) : Int) = 0 from rfl] at this
  exact this
