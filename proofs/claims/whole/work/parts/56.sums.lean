/-! sums over cells: surplus and moments -/
theorem mt_r1 (a b c : Int32) : a - b - c = a - (b + c) := by grind
theorem mt_r2 (a b c : Int32) : a + b + c = a + (b + c) := by grind
theorem mt_r3 (b : Int32) : (-4) * b = 0 - 4 * b := by grind
theorem mt_r4 (b r : Int32) : (-4) * b + r = r - 4 * b := by grind
def ss (f : Nat → Int32) : Nat → Nat → Int32
  | _, 0 => 0
  | i, r + 1 => f i + ss f (i + 1) r
theorem ss_congr {f g : Nat → Int32} : ∀ (r i : Nat), (∀ k, i ≤ k → k < i + r → f k = g k) → ss f i r = ss g i r
  | 0, _, _ => rfl
  | r + 1, i, h => by
    show f i + ss f (i + 1) r = g i + ss g (i + 1) r
    rw [h i (by omega) (by omega), ss_congr r (i + 1) (fun k h1 h2 => h k (by omega) (by omega))]
theorem ss_add (f : Nat → Int32) : ∀ (r i t : Nat), ss f i (r + t) = ss f i r + ss f (i + r) t
  | 0, i, t => by simp [ss]
  | r + 1, i, t => by
    rw [show r + 1 + t = (r + t) + 1 by omega]
    show f i + ss f (i + 1) (r + t) = f i + ss f (i + 1) r + _
    rw [ss_add f r (i + 1) t, show i + 1 + r = i + (r + 1) by omega, mt_r2]
theorem ss_shift (f : Nat → Int32) (c : Nat) : ∀ (r i : Nat), ss (fun x => f (c + x)) i r = ss f (c + i) r
  | 0, _ => rfl
  | r + 1, i => by
    show f (c + i) + ss (fun x => f (c + x)) (i + 1) r = f (c + i) + ss f (c + i + 1) r
    rw [ss_shift f c r (i + 1), show c + (i + 1) = c + i + 1 by omega]
theorem ss_rows (f : Nat → Int32) (W : Nat) : ∀ (r i : Nat), ss (fun y => ss (fun x => f (y * W + x)) 0 W) i r = ss f (i * W) (r * W)
  | 0, i => by rw [Nat.zero_mul]; rfl
  | r + 1, i => by
    show ss (fun x => f (i * W + x)) 0 W + ss (fun y => ss (fun x => f (y * W + x)) 0 W) (i + 1) r = _
    rw [ss_rows f W r (i + 1), ss_shift f (i * W) W 0, Nat.add_zero, Nat.succ_mul, Nat.succ_mul, Nat.add_comm (r * W) W, ss_add]
theorem ss_plus (f g : Nat → Int32) : ∀ (r i : Nat), ss (fun k => f k + g k) i r = ss f i r + ss g i r
  | 0, _ => by simp [ss]
  | r + 1, i => by
    show f i + g i + ss (fun k => f k + g k) (i + 1) r = f i + ss f (i + 1) r + (g i + ss g (i + 1) r)
    rw [ss_plus f g r (i + 1)]; grind
theorem ss_minus (f g : Nat → Int32) : ∀ (r i : Nat), ss (fun k => f k - g k) i r = ss f i r - ss g i r
  | 0, _ => by simp [ss]
  | r + 1, i => by
    show f i - g i + ss (fun k => f k - g k) (i + 1) r = f i + ss f (i + 1) r - (g i + ss g (i + 1) r)
    rw [ss_minus f g r (i + 1)]; grind
theorem ss_mul (c : Int32) (f : Nat → Int32) : ∀ (r i : Nat), ss (fun k => c * f k) i r = c * ss f i r
  | 0, _ => by simp [ss]
  | r + 1, i => by
    show c * f i + ss (fun k => c * f k) (i + 1) r = c * (f i + ss f (i + 1) r)
    rw [ss_mul c f r (i + 1)]; grind
/-- what the edge cell k carries; what goes upward at the cell k -/
def edr (s : Nat → Int32) (W L nl nb D : Nat) (a b : Int) (k : Nat) : Int32 := if edg W L (k % W) (k / W) then res s W L nl nb D a b (k % W) (k / W) else 0
def upw (s : Nat → Int32) (W L nl nb D : Nat) (a b : Int) (k : Nat) : Int32 := edr s W L nl nb D a b k - 4 * s (68 + k)
def exc (s : Nat → Int32) (W L nl nb D : Nat) (a b : Int) : Int32 := 4 * s 5 - ss (upw s W L nl nb D a b) 0 (L * W)
def mox (s : Nat → Int32) (W L nl nb D : Nat) (a b : Int) : Int32 := ss (fun k => zI (arx W (k % W)) * upw s W L nl nb D a b k) 0 (L * W)
def moy (s : Nat → Int32) (W L nl nb D : Nat) (a b : Int) : Int32 := ss (fun k => zI (arx L (k / W)) * upw s W L nl nb D a b k) 0 (L * W)
def AR (s bal : Nat → Int32) : Prop := ∀ k, k < 49 → bal k = s (68 + k)
theorem c_exL {s lv bv bot lub bal : Nat → Int32} {W L nl nb D y fuel : Nat} {a b : Int} (hf : 5000 ≤ fuel) (hW : 3 ≤ W ∧ W ≤ 7) (hL : 3 ≤ L ∧ L ≤ 7) (hR : LR s nl lv) (hB : BR s nb bv) (hT : TR s bot) (hU : UR s lub) (hA : AR s bal) (hw : WR s) (ha : -5 ≤ a ∧ a ≤ 5) (hb : -5 ≤ b ∧ b ≤ 5) (hD : D ≤ 200) (hy : y < L) : ∀ (r x n : Nat) (e mx my : Int32), x + r = W → r < n →
    f_X1_examine_L38 fuel (zI D) (zI a) (zI b) bot (zI W) (zI L) (s 6) bal (zI nb) bv (zI nl) lv lub (zI y) n (zI x) e mx my = some (zI W, e - ss (fun x => upw s W L nl nb D a b (y * W + x)) x r, mx + ss (fun x => zI (arx W x) * upw s W L nl nb D a b (y * W + x)) x r, my + ss (fun x => zI (arx L y) * upw s W L nl nb D a b (y * W + x)) x r) := by
  have h49 := mt_WL hW.2 hL.2
  intro r
  induction r with
  | zero =>
    intro x n e mx my h1 h2
    obtain ⟨n, rfl⟩ : ∃ j, n = j + 1 := ⟨n - 1, by omega⟩
    have : x = W := by omega
    subst this
    rw [f_X1_examine_L38, if_pos (by rw [mt_len (by omega) (by omega)]; omega)]
    simp [ss]
  | succ r ih =>
    intro x n e mx my h1 h2
    obtain ⟨n, rfl⟩ : ∃ j, n = j + 1 := ⟨n - 1, by omega⟩
    have hx : x < W := by omega
    have hk := mt_xy hx hy
    have ez : zI y * zI W + zI x = zI ((y * W + x : Nat) : Int) := by rw [zI_mul, zI_add]; norm_cast
    have J : ∀ u : Int32, u = upw s W L nl nb D a b (y * W + x) → f_X1_examine_J96 (f_X1_examine_L38 fuel (zI D) (zI a) (zI b) bot (zI W) (zI L) (s 6) bal (zI nb) bv (zI nl) lv lub (zI y) n) e mx my (zI W) (zI L) (zI y) (zI x) u = some (zI W, e - ss (fun x => upw s W L nl nb D a b (y * W + x)) x (r + 1), mx + ss (fun x => zI (arx W x) * upw s W L nl nb D a b (y * W + x)) x (r + 1), my + ss (fun x => zI (arx L y) * upw s W L nl nb D a b (y * W + x)) x (r + 1)) := by
      intro u hu
      unfold f_X1_examine_J96
      rw [mt_s1, mt_arz, mt_arz, ih (x + 1) n _ _ _ (by omega) (by omega), hu]
      simp only [ss, mt_r1, mt_r2]
    rw [f_X1_examine_L38, if_neg (by rw [mt_len (by omega) (by omega)]; omega), ez, mt_ba (by omega), Option.bind_some, c_edgeAt hW hL hx hy, Option.bind_some, c_res hf hW hL hR hB hT hU hw ha hb hD hx hy, Option.bind_some, hA _ (by omega)]
    by_cases h : edg W L x y
    · rw [if_pos h, if_neg (by decide)]
      apply J
      unfold upw edr
      rw [hk.2.1, hk.2.2, if_pos h, mt_r4]
    · rw [if_neg h, if_pos rfl]
      apply J
      unfold upw edr
      rw [hk.2.1, hk.2.2, if_neg h, mt_r3]
theorem c_exO {s lv bv bot lub bal : Nat → Int32} {W L nl nb D fuel : Nat} {a b : Int} (hf : 5000 ≤ fuel) (hW : 3 ≤ W ∧ W ≤ 7) (hL : 3 ≤ L ∧ L ≤ 7) (hR : LR s nl lv) (hB : BR s nb bv) (hT : TR s bot) (hU : UR s lub) (hA : AR s bal) (hw : WR s) (ha : -5 ≤ a ∧ a ≤ 5) (hb : -5 ≤ b ∧ b ≤ 5) (hD : D ≤ 200) : ∀ (r y n : Nat) (e mx my : Int32), y + r = L → r < n →
    f_X1_examine_L25 fuel (zI D) (zI a) (zI b) bot (zI W) (zI L) (s 6) bal (zI nb) bv (zI nl) lv lub n (zI y) e mx my = some (zI L, e - ss (fun y => ss (fun x => upw s W L nl nb D a b (y * W + x)) 0 W) y r, mx + ss (fun y => ss (fun x => zI (arx W x) * upw s W L nl nb D a b (y * W + x)) 0 W) y r, my + ss (fun y => ss (fun x => zI (arx L y) * upw s W L nl nb D a b (y * W + x)) 0 W) y r) := by
  intro r
  induction r with
  | zero =>
    intro y n e mx my h1 h2
    obtain ⟨n, rfl⟩ : ∃ j, n = j + 1 := ⟨n - 1, by omega⟩
    have : y = L := by omega
    subst this
    rw [f_X1_examine_L25, if_pos (by rw [mt_len (by omega) (by omega)]; omega)]
    simp [ss]
  | succ r ih =>
    intro y n e mx my h1 h2
    obtain ⟨n, rfl⟩ : ∃ j, n = j + 1 := ⟨n - 1, by omega⟩
    have h := c_exL hf hW hL hR hB hT hU hA hw ha hb hD (y := y) (by omega) W 0 fuel e mx my (by omega) (by omega)
    rw [show zI ((0 : Nat) : Int) = 0 from rfl] at h
    rw [f_X1_examine_L25, if_neg (by rw [mt_len (by omega) (by omega)]; omega), h, Option.bind_some, mt_s1, ih (y + 1) n _ _ _ (by omega) (by omega)]
    simp only [ss, mt_r1, mt_r2]
theorem c_sums {s lv bv bot lub bal : Nat → Int32} {W L nl nb D fuel : Nat} {a b : Int} (hf : 5000 ≤ fuel) (hW : 3 ≤ W ∧ W ≤ 7) (hL : 3 ≤ L ∧ L ≤ 7) (hR : LR s nl lv) (hB : BR s nb bv) (hT : TR s bot) (hU : UR s lub) (hA : AR s bal) (hw : WR s) (ha : -5 ≤ a ∧ a ≤ 5) (hb : -5 ≤ b ∧ b ≤ 5) (hD : D ≤ 200) : f_X1_examine_L25 fuel (zI D) (zI a) (zI b) bot (zI W) (zI L) (s 6) bal (zI nb) bv (zI nl) lv lub fuel 0 (4 * s 5) 0 0 = some (zI L, exc s W L nl nb D a b, mox s W L nl nb D a b, moy s W L nl nb D a b) := by
  have h := c_exO hf hW hL hR hB hT hU hA hw ha hb hD L 0 fuel (4 * s 5) 0 0 (by omega) (by omega)
  rw [show zI ((0 : Nat) : Int) = 0 from rfl] at h
  rw [h]
  unfold exc mox moy
  have e2 : ss (fun y => ss (fun x => zI (arx W x) * upw s W L nl nb D a b (y * W + x)) 0 W) 0 L = ss (fun k => zI (arx W (k % W)) * upw s W L nl nb D a b k) 0 (L * W) := by
    have h2 := ss_rows (fun k => zI (arx W (k % W)) * upw s W L nl nb D a b k) W L 0
    rw [Nat.zero_mul] at h2
    rw [← h2]
    refine ss_congr L 0 (fun y _ hy => ss_congr W 0 (fun x _ hx => ?_))
    rw [(mt_xy (W := W) (L := L) (x := x) (y := y) (by omega) (by omega)).2.1]
  have e3 : ss (fun y => ss (fun x => zI (arx L y) * upw s W L nl nb D a b (y * W + x)) 0 W) 0 L = ss (fun k => zI (arx L (k / W)) * upw s W L nl nb D a b k) 0 (L * W) := by
    have h2 := ss_rows (fun k => zI (arx L (k / W)) * upw s W L nl nb D a b k) W L 0
    rw [Nat.zero_mul] at h2
    rw [← h2]
    refine ss_congr L 0 (fun y _ hy => ss_congr W 0 (fun x _ hx => ?_))
    rw [(mt_xy (W := W) (L := L) (x := x) (y := y) (by omega) (by omega)).2.2]
  have e1 := ss_rows (upw s W L nl nb D a b) W L 0
  rw [Nat.zero_mul] at e1
  rw [e1, e2, e3, Int32.zero_add, Int32.zero_add]
