/-! support and resistance -/
def BR (s : Nat → Int32) (nb : Nat) (bv : Nat → Int32) : Prop := s 33 = zI nb ∧ nb ≤ 10 ∧ ∀ k, k < 3 * nb → bv k = s (34 + k)
def hrs (s : Nat → Int32) (c e : Int32) : Nat → Int32
  | 0 => 0
  | k + 1 => hrs s c e k + (if s (34 + 3 * k) = c then (if e < s (34 + 3 * k + 1) then 0 else s (34 + 3 * k + 2)) else 0)
theorem mt_343 (i : Nat) : 34 + 3 * zI i = zI ((34 + 3 * i : Nat) : Int) := by
  rw [show (3 : Int32) = zI 3 from rfl, show (34 : Int32) = zI 34 from rfl, zI_mul, zI_add]; congr 1
theorem mt_p (a b : Nat) : zI a + zI b = zI ((a + b : Nat) : Int) := by rw [zI_add]; congr 1
theorem mt_p1 (a : Nat) : zI a + 1 = zI ((a + 1 : Nat) : Int) := mt_p a 1
theorem mt_p2 (a : Nat) : zI a + 2 = zI ((a + 2 : Nat) : Int) := mt_p a 2
theorem c_hrdL {s bv : Nat → Int32} {nb : Nat} (hB : BR s nb bv) (c e : Int32) : ∀ (r k n : Nat), k + r = nb → r < n → f_X0_hardnessDownTo_L5 (zI nb) bv c e n (hrs s c e k) (zI k) = some (hrs s c e nb, zI nb) := by
  obtain ⟨h33, hnb, hv⟩ := hB
  intro r
  induction r with
  | zero =>
    intro k n h1 h2
    obtain ⟨n, rfl⟩ : ∃ j, n = j + 1 := ⟨n - 1, by omega⟩
    have : k = nb := by omega
    subst this
    rw [f_X0_hardnessDownTo_L5, if_pos (by rw [mt_len (by omega) (by omega)]; omega)]
  | succ r ih =>
    intro k n h1 h2
    obtain ⟨n, rfl⟩ : ∃ j, n = j + 1 := ⟨n - 1, by omega⟩
    have ih' := ih (k + 1) n (by omega) (by omega)
    rw [hrs] at ih'
    rw [f_X0_hardnessDownTo_L5, if_neg (by rw [mt_len (by omega) (by omega)]; omega), mt_31, mt_32, mt_3, if_pos (mt_ixn (by omega) (by omega)), if_pos (mt_ixn (by omega) (by omega)), if_pos (mt_ixn (by omega) (by omega)), mt_cln (by omega), mt_cln (by omega), mt_cln (by omega), hv (3 * k) (by omega), hv (3 * k + 1) (by omega), hv (3 * k + 2) (by omega), mt_s1]
    rw [show 34 + (3 * k + 1) = 34 + 3 * k + 1 by omega, show 34 + (3 * k + 2) = 34 + 3 * k + 2 by omega]
    by_cases a : s (34 + 3 * k) = c
    · rw [if_pos a] at ih' ⊢
      by_cases b : e < s (34 + 3 * k + 1)
      · rw [if_pos b, Int32.add_zero] at ih'
        rw [if_pos b]; exact ih'
      · rw [if_neg b] at ih' ⊢
        exact ih'
    · rw [if_neg a, Int32.add_zero] at ih'
      rw [if_neg a]; exact ih'
theorem c_hrd {s bv : Nat → Int32} {nb fuel : Nat} (hf : 5000 ≤ fuel) (hB : BR s nb bv) (c e : Int32) : f_X0_hardnessDownTo fuel (zI nb) bv c e = some (hrs s c e nb) := by
  unfold f_X0_hardnessDownTo
  have := c_hrdL hB c e nb 0 fuel (by omega) (by have := hB.2.1; omega)
  rw [show zI ((0 : Nat) : Int) = 0 from rfl, show hrs s c e 0 = 0 from rfl] at this
  rw [this]; rfl
theorem r_supL {s bv : Nat → Int32} {nb : Nat} (hB : BR s nb bv) (c e y : Int32) : ∀ (r k n : Nat), k + r = nb → r < n → f_X9_support_L54 s c e n (y + 4 * hrs s c e k) (zI k) = some (y + 4 * hrs s c e nb, zI nb) := by
  obtain ⟨h33, hnb, hv⟩ := hB
  intro r
  induction r with
  | zero =>
    intro k n h1 h2
    obtain ⟨n, rfl⟩ : ∃ j, n = j + 1 := ⟨n - 1, by omega⟩
    have : k = nb := by omega
    subst this
    rw [f_X9_support_L54, h33, if_pos (by rw [mt_len (by omega) (by omega)]; omega)]
  | succ r ih =>
    intro k n h1 h2
    obtain ⟨n, rfl⟩ : ∃ j, n = j + 1 := ⟨n - 1, by omega⟩
    have ih' := ih (k + 1) n (by omega) (by omega)
    rw [hrs] at ih'
    rw [f_X9_support_L54, h33, if_neg (by rw [mt_len (by omega) (by omega)]; omega), mt_343, mt_p1, mt_p2, if_pos (mt_ixn (by omega) (by omega)), if_pos (mt_ixn (by omega) (by omega)), if_pos (mt_ixn (by omega) (by omega)), mt_cln (by omega), mt_cln (by omega), mt_cln (by omega), mt_s1, Int32.add_zero]
    by_cases a : s (34 + 3 * k) = c
    · rw [if_pos a] at ih' ⊢
      by_cases b : e < s (34 + 3 * k + 1)
      · rw [if_pos b, Int32.add_zero] at ih'
        rw [if_pos b]; exact ih'
      · rw [if_neg b, Int32.mul_add, ← Int32.add_assoc] at ih'
        rw [if_neg b]
        exact ih'
    · rw [if_neg a, Int32.add_zero] at ih'
      rw [if_neg a]; exact ih'
def clm (t : Int32) : Int32 := if 0 ≤ t then (if t ≤ 4 then t else 4) else 0
theorem mt_clm (t : Int32) : mg_mx 0 (mg_mn 4 t) = clm t := by
  unfold mg_mx mg_mn clm
  by_cases h1 : 0 ≤ t
  · rw [if_pos h1]
    by_cases h2 : t < 4
    · rw [if_pos h2, if_pos (Int32.le_of_lt h2)]
      by_cases h3 : 0 < t
      · rw [if_pos h3]
      · rw [if_neg h3]; exact Int32.le_antisymm h1 (Int32.not_lt.mp h3)
    · rw [if_neg h2, if_pos (by decide)]
      by_cases h4 : t ≤ 4
      · rw [if_pos h4]; exact Int32.le_antisymm (Int32.not_lt.mp h2) h4
      · rw [if_neg h4]
  · have h0 : t < 0 := Int32.not_le.mp h1
    have h2 : t < 4 := Int32.lt_trans h0 (by decide)
    rw [if_neg h1, if_pos h2, if_neg (Int32.not_lt.mpr (Int32.le_of_lt h0))]
def sup (s : Nat → Int32) (W L nl nb : Nat) (x y : Nat) (e : Int) : Int32 := clm (zI e - s (117 + wbs W L x y) + 2) * grd s nl (zI e) 0 + 4 * hrs s (zI ((y * W + x : Nat) : Int)) (zI e) nb
def TR (s bot : Nat → Int32) : Prop := ∀ k, k < 49 → bot k = s (117 + k)
theorem c_sup {s lv bv bot : Nat → Int32} {W L nl nb x y fuel : Nat} (hf : 5000 ≤ fuel) (hW : 3 ≤ W ∧ W ≤ 7) (hL : 3 ≤ L ∧ L ≤ 7) (hR : LR s nl lv) (hB : BR s nb bv) (hT : TR s bot) (hx : x < W) (hy : y < L) (e : Int) : f_X1_support fuel bot (zI W) (zI L) (zI nb) bv (zI nl) lv (zI x) (zI y) (zI e) = some (sup s W L nl nb x y e) := by
  have hw := (mt_wbs hW hL hx hy).1
  have := mt_WL hW.2 hL.2
  unfold f_X1_support sup
  rw [c_wbs hW hL hx hy, Option.bind_some, mt_bo (by omega), Option.bind_some, c_str hf hR, Option.bind_some, zI_mul, zI_add, show ((y : Int) * (W : Int) + (x : Int)) = ((y * W + x : Nat) : Int) by norm_cast, c_hrd hf hB, Option.bind_some, mt_clm, hT _ (by omega)]
theorem r_sup {s lv bv : Nat → Int32} {W L nl nb D n fuel : Nat} {a b : Int} (hf : 5000 ≤ fuel) (hG : GR s W L) (hR : LR s nl lv) (hB : BR s nb bv) (hP : PR s D a b) (hn : n < W * L) : f_X9_support fuel s (zI n) = some (sup s W L nl nb (n % W) (n / W) (edp W L D a b (n % W) (n / W))) := by
  obtain ⟨h0, h1, hW, hL⟩ := id hG
  have hm := mt_mod hn (by omega)
  have hw := (mt_wbs hW hL hm.1 hm.2.1).1
  have := mt_WL hW.2 hL.2
  have J : ∀ y0 y1 e : Int32, f_X9_support_J48 fuel s (zI n) e y0 y1 = some (y0 * y1 + 4 * hrs s (zI n) e nb) := by
    intro y0 y1 e
    unfold f_X9_support_J48
    have h := r_supL hB (zI n) e (y0 * y1) nb 0 fuel (by omega) (by have := hB.2.1; omega)
    rw [show zI ((0 : Nat) : Int) = 0 from rfl, show hrs s (zI n) e 0 = 0 from rfl, Int32.mul_zero, Int32.add_zero] at h
    rw [h]; rfl
  unfold f_X9_support sup
  rw [r_edp hG hP hn, Option.bind_some, r_wbs hG hn, Option.bind_some, show (117 : Int32) = zI ((117 : Nat) : Int) from rfl, mt_p, if_pos (mt_ixn (by omega) (by omega)), show (0 : Int32) = zI ((0 : Nat) : Int) from rfl, r_grd hf hR _ (by omega), Option.bind_some, J, J, J, mt_cln (by omega), hm.2.2]
  rw [show zI ((0 : Nat) : Int) = 0 from rfl]
  unfold clm
  by_cases q1 : 0 ≤ zI (edp W L D a b (n % W) (n / W)) - s (117 + wbs W L (n % W) (n / W)) + 2
  · rw [if_pos q1, if_pos q1]
    by_cases q2 : zI (edp W L D a b (n % W) (n / W)) - s (117 + wbs W L (n % W) (n / W)) + 2 ≤ 4
    · rw [if_pos q2, if_pos q2, Int32.mul_comm]
    · rw [if_neg q2, if_neg q2, Int32.mul_comm]
  · rw [if_neg q1, if_neg q1, Int32.mul_comm]
def buo (s : Nat → Int32) (e : Int32) : Int32 := if e ≤ s 6 then 0 else e - s 6
theorem r_buo (s : Nat → Int32) (e : Int32) : f_X9_buoyancy s e = some (buo s e) := by
  unfold f_X9_buoyancy buo
  rw [mt_sif]
def WR (s : Nat → Int32) : Prop := ∃ w : Nat, s 6 = zI w ∧ w ≤ 400
theorem c_buo {s : Nat → Int32} (hw : WR s) (e : Int) (he : 0 ≤ e ∧ e ≤ 5000) : f_X1_buoyancy (s 6) (zI e) = some (buo s (zI e)) := by
  obtain ⟨w, h6, hw⟩ := hw
  unfold f_X1_buoyancy buo mg_mx
  rw [h6, zI_sub, show (0 : Int32) = zI 0 from rfl]
  simp (disch := omega) only [zI_lt, zI_le]
  by_cases h : e ≤ (w : Int)
  · rw [if_pos h, if_neg (by omega)]
  · rw [if_neg h, if_pos (by omega)]
def res (s : Nat → Int32) (W L nl nb D : Nat) (a b : Int) (x y : Nat) : Int32 := sup s W L nl nb x y (edp W L D a b x y) + skf s W L x y * fri s nl (edp W L D a b x y) + buo s (zI (edp W L D a b x y))
theorem c_res {s lv bv bot lub : Nat → Int32} {W L nl nb D x y fuel : Nat} {a b : Int} (hf : 5000 ≤ fuel) (hW : 3 ≤ W ∧ W ≤ 7) (hL : 3 ≤ L ∧ L ≤ 7) (hR : LR s nl lv) (hB : BR s nb bv) (hT : TR s bot) (hU : UR s lub) (hw : WR s) (ha : -5 ≤ a ∧ a ≤ 5) (hb : -5 ≤ b ∧ b ≤ 5) (hD : D ≤ 200) (hx : x < W) (hy : y < L) : f_X1_resistance fuel (zI D) (zI a) (zI b) bot (zI W) (zI L) (s 6) (zI nb) bv (zI nl) lv lub (zI x) (zI y) = some (res s W L nl nb D a b x y) := by
  have he := mt_edp hW hL hx hy ha hb hD
  unfold f_X1_resistance res
  rw [c_edp hW hL hx hy ha hb hD, Option.bind_some, c_sup hf hW hL hR hB hT hx hy, Option.bind_some, c_skin hf hU hW hL hR hx hy _ (by omega), Option.bind_some, c_buo hw _ (by omega), Option.bind_some]
theorem r_res {s lv bv : Nat → Int32} {W L nl nb D n fuel : Nat} {a b : Int} (hf : 5000 ≤ fuel) (hG : GR s W L) (hR : LR s nl lv) (hB : BR s nb bv) (hP : PR s D a b) (hn : n < W * L) : f_X9_resistance fuel s (zI n) = some (res s W L nl nb D a b (n % W) (n / W)) := by
  obtain ⟨h0, h1, hW, hL⟩ := id hG
  obtain ⟨p2, hD, p3, ha, p4, hb⟩ := id hP
  have hm := mt_mod hn (by omega)
  have he := mt_edp hW hL hm.1 hm.2.1 ha hb hD
  unfold f_X9_resistance res
  rw [r_edp hG hP hn, Option.bind_some, r_sup hf hG hR hB hP hn, Option.bind_some, r_skin hf hG hR hn _ (by omega), Option.bind_some, r_buo, Option.bind_some]
