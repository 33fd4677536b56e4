/-! sides, stuck depth, text -/
theorem c_isOn {W L x y d : Nat} (hW : 3 ≤ W ∧ W ≤ 7) (hL : 3 ≤ L ∧ L ≤ 7) (hx : x < W) (hy : y < L) (hd : d < 4) : f_X5_isOnSide (zI W) (zI L) (zI d) (zI x) (zI y) = some (if sid W L x y d then 1 else 0) := by
  unfold f_X5_isOnSide
  rcases (show d = 0 ∨ d = 1 ∨ d = 2 ∨ d = 3 by omega) with rfl | rfl | rfl | rfl
  · rw [if_pos (by decide), mt_sif]; simp (disch := omega) only [mt_eq0]; simp [sid]
  · rw [if_neg (by decide), if_pos (by decide), mt_sif]; simp (disch := omega) only [mt_eqp]; simp [sid]
  · rw [if_neg (by decide), if_neg (by decide), if_pos (by decide), mt_sif]; simp (disch := omega) only [mt_eq0]; simp [sid]
  · rw [if_neg (by decide), if_neg (by decide), if_neg (by decide), if_pos (by decide), mt_sif]; simp (disch := omega) only [mt_eqp]; simp [sid]
theorem ss_cells (W L : Nat) (f : Nat → Nat → Int32) : ss (fun y => ss (fun x => f x y) 0 W) 0 L = ss (fun k => f (k % W) (k / W)) 0 (L * W) := by
  have h := ss_rows (fun k => f (k % W) (k / W)) W L 0
  rw [Nat.zero_mul] at h
  rw [← h]
  refine ss_congr L 0 (fun y _ hy => ss_congr W 0 (fun x _ hx => ?_))
  rw [(mt_xy (W := W) (L := L) (x := x) (y := y) (by omega) (by omega)).2.1, (mt_xy (W := W) (L := L) (x := x) (y := y) (by omega) (by omega)).2.2]
def srs (s : Nat → Int32) (W L nl nb D : Nat) (a b : Int) (d : Nat) (x y : Nat) : Int32 := if sid W L x y d then res s W L nl nb D a b x y else 0
theorem m_sideResistance {v : sv_T} {s : Nat → Int32} {fuel : Nat} (hf : 5000 ≤ fuel) (h : SRE v s) (x : Int32) : ∃ q1, f_X8_sideResistance fuel v x = some q1 ∧ f_X9_sideResistance fuel s x = some q1 := by
  obtain ⟨W, L, nl, nb, nr, D, a, b, bal, bv, lv, lub, bot, rv, rfl, hG, hP, hw, hQW, hR, hB, hQB, hA, hQA, hU, hT, hQT, hRR⟩ := h
  unfold f_X8_sideResistance f_X9_sideResistance f_X1_resistanceOfSide
  obtain ⟨h0, h1, hW, hL⟩ := id hG
  obtain ⟨p2, hD, p3, ha, p4, hb⟩ := id hP
  have h49 := mt_WL hL.2 hW.2
  dsimp only
  rw [h0, h1, fI_in, p2, p3, p4, hB.1, hR.1]
  rcases mt_win x 0 3 (l := 0) (h := 3) rfl rfl (by omega) (by omega) with ⟨d, rfl, h3, h4, e2⟩ | e2
  · rw [e2, Option.bind_some, if_neg n10, Option.bind_some, if_neg n10]
    have inner : ∀ (y : Nat) (z : Int32), y < L → f_X1_resistanceOfSide_L18 fuel (zI W) (zI L) (s 6) (zI nb) bv (zI nl) lv lub (zI D) (zI a) (zI b) bot (zI d) (zI y) fuel z 0 = some (z + ss (fun x => srs s W L nl nb D a b d x y) 0 W, zI W) := by
      intro y z hy
      refine mt_sum (F := f_X1_resistanceOfSide_L18 fuel (zI W) (zI L) (s 6) (zI nb) bv (zI nl) lv lub (zI D) (zI a) (zI b) bot (zI d) (zI y)) (N := W) (g := fun x => srs s W L nl nb D a b d x y) ?_ ?_ W fuel 0 z (by omega) (by omega)
      · intro n x
        rw [f_X1_resistanceOfSide_L18, if_pos (by rw [mt_len (by omega) (by omega)]; omega)]
      · intro n i x hi
        rw [f_X1_resistanceOfSide_L18, if_neg (by rw [mt_len (by omega) (by omega)]; omega), c_isOn hW hL hi hy (by omega), Option.bind_some, c_res hf hW hL hR hB hT hU hw ha hb hD hi hy, Option.bind_some, mt_s1]
        unfold srs
        by_cases c : sid W L i y d
        · rw [if_pos c, if_neg n10, if_pos c]
        · rw [if_neg c, if_pos rfl, if_neg c, Int32.add_zero]
    have outer := mt_sum (F := f_X1_resistanceOfSide_L4 fuel (zI W) (zI L) (s 6) (zI nb) bv (zI nl) lv lub (zI D) (zI a) (zI b) bot (zI d)) (N := L) (g := fun y => ss (fun x => srs s W L nl nb D a b d x y) 0 W) (fun n x => by rw [f_X1_resistanceOfSide_L4, if_pos (by rw [mt_len (by omega) (by omega)]; omega)]) (fun n i x hi => by
      rw [f_X1_resistanceOfSide_L4, if_neg (by rw [mt_len (by omega) (by omega)]; omega), inner i x hi, Option.bind_some, mt_s1]) L fuel 0 0 (by omega) (by omega)
    have ref := mt_sum (F := f_X9_sideResistance_L16 fuel s (zI d)) (N := L * W) (g := fun k => srs s W L nl nb D a b d (k % W) (k / W)) (fun n x => by rw [f_X9_sideResistance_L16, r_cells hG, Option.bind_some, if_pos (by rw [mt_len (by omega) (by omega)]; omega)]) (fun n i x hi => by
      have hk : i < W * L := by rw [Nat.mul_comm]; omega
      rw [f_X9_sideResistance_L16, r_cells hG, Option.bind_some, if_neg (by rw [mt_len (by omega) (by omega)]; omega), r_isOn hG hk (by omega), Option.bind_some, r_res hf hG hR hB hP hk, Option.bind_some, mt_s1]
      dsimp only [srs]
      by_cases c : sid W L (i % W) (i / W) d
      · rw [if_pos c, if_neg n10, if_pos c]
      · rw [if_neg c, if_pos rfl, if_neg c]) (L * W) fuel 0 0 (by omega) (by omega)
    rw [show zI ((0 : Nat) : Int) = 0 from rfl] at outer ref
    rw [outer, ref, ss_cells W L (srs s W L nl nb D a b d)]
    exact ⟨_, rfl, rfl⟩
  · rw [e2]; exact ⟨_, rfl, rfl⟩
def sdp (W L D : Nat) (a b : Int) (d : Nat) (x y : Nat) : Int32 := if sid W L x y d then zI (edp W L D a b x y) else 0
def sdl (W L d : Nat) : Int32 := if d < 2 then zI L else zI W
def sdn (W L d : Nat) (k : Nat) : Int32 := if sid W L (k % W) (k / W) d then 1 else 0
theorem mt_sdn : ∀ W L d : Fin 8, 3 ≤ W.val → 3 ≤ L.val → d.val < 4 → ss (sdn W.val L.val d.val) 0 (L.val * W.val) = sdl W.val L.val d.val := by decide +kernel
theorem mt_sdn' {W L d : Nat} (hW : 3 ≤ W ∧ W ≤ 7) (hL : 3 ≤ L ∧ L ≤ 7) (hd : d < 4) : ss (sdn W L d) 0 (L * W) = sdl W L d := mt_sdn ⟨W, by omega⟩ ⟨L, by omega⟩ ⟨d, by omega⟩ hW.1 hL.1 hd
def sds (W L D : Nat) (a b : Int) (d : Nat) : Int32 := ss (fun k => sdp W L D a b d (k % W) (k / W)) 0 (L * W)
theorem c_sds {s : Nat → Int32} {W L D d fuel : Nat} {a b : Int} (hf : 5000 ≤ fuel) (hG : GR s W L) (hP : PR s D a b) (hd : d < 4) : f_X1_depthsOfSide fuel (s 0) (s 1) (s 2) (s 3) (s 4) (zI d) = some (sds W L D a b d) := by
  obtain ⟨h0, h1, hW, hL⟩ := id hG
  obtain ⟨p2, hD, p3, ha, p4, hb⟩ := id hP
  unfold f_X1_depthsOfSide sds
  rw [h0, h1, p2, p3, p4]
  have inner : ∀ (y : Nat) (z : Int32), y < L → f_X1_depthsOfSide_L18 (zI W) (zI L) (zI D) (zI a) (zI b) (zI d) (zI y) fuel z 0 = some (z + ss (fun x => sdp W L D a b d x y) 0 W, zI W) := by
    intro y z hy
    refine mt_sum (F := f_X1_depthsOfSide_L18 (zI W) (zI L) (zI D) (zI a) (zI b) (zI d) (zI y)) (N := W) (g := fun x => sdp W L D a b d x y) ?_ ?_ W fuel 0 z (by omega) (by omega)
    · intro n x
      rw [f_X1_depthsOfSide_L18, if_pos (by rw [mt_len (by omega) (by omega)]; omega)]
    · intro n i x hi
      rw [f_X1_depthsOfSide_L18, if_neg (by rw [mt_len (by omega) (by omega)]; omega), c_isOn hW hL hi hy (by omega), Option.bind_some, c_edp hW hL hi hy ha hb hD, Option.bind_some, mt_s1]
      unfold sdp
      by_cases c : sid W L i y d
      · rw [if_pos c, if_neg n10, if_pos c]
      · rw [if_neg c, if_pos rfl, if_neg c, Int32.add_zero]
  have outer := mt_sum (F := f_X1_depthsOfSide_L4 fuel (zI W) (zI L) (zI D) (zI a) (zI b) (zI d)) (N := L) (g := fun y => ss (fun x => sdp W L D a b d x y) 0 W) (fun n x => by rw [f_X1_depthsOfSide_L4, if_pos (by rw [mt_len (by omega) (by omega)]; omega)]) (fun n i x hi => by
    rw [f_X1_depthsOfSide_L4, if_neg (by rw [mt_len (by omega) (by omega)]; omega), inner i x hi, Option.bind_some, mt_s1]) L fuel 0 0 (by omega) (by omega)
  rw [show zI ((0 : Nat) : Int) = 0 from rfl] at outer
  rw [outer, ss_cells W L (sdp W L D a b d), Option.bind_some, Int32.zero_add]
theorem c_sdl {s : Nat → Int32} {W L d : Nat} (hG : GR s W L) (hd : d < 4) : f_X5_lengthOfSide (s 0) (s 1) (zI d) = some (sdl W L d) := by
  unfold f_X5_lengthOfSide sdl
  rw [hG.1, hG.2.1]
  rcases (show d = 0 ∨ d = 1 ∨ d = 2 ∨ d = 3 by omega) with rfl | rfl | rfl | rfl <;> rfl
theorem r_sds {s : Nat → Int32} {W L D d fuel : Nat} {a b : Int} (hf : 5000 ≤ fuel) (hG : GR s W L) (hP : PR s D a b) (hd : d < 4) : f_X9_highSide_L46 s (zI d) fuel 0 0 0 = some (sds W L D a b d, sdl W L d, zI ((L * W : Nat) : Int)) := by
  obtain ⟨h0, h1, hW, hL⟩ := id hG
  have h49 := mt_WL hL.2 hW.2
  have key : ∀ (r k n : Nat) (x y : Int32), k + r = L * W → r < n → f_X9_highSide_L46 s (zI d) n x y (zI k) = some (x + ss (fun k => sdp W L D a b d (k % W) (k / W)) k r, y + ss (sdn W L d) k r, zI ((L * W : Nat) : Int)) := by
    intro r
    induction r with
    | zero =>
      intro k n x y h1 h2
      obtain ⟨n, rfl⟩ : ∃ j, n = j + 1 := ⟨n - 1, by omega⟩
      rw [f_X9_highSide_L46, r_cells hG, Option.bind_some, if_pos (by rw [mt_len (by omega) (by omega)]; omega)]
      simp only [ss, Int32.add_zero]
      rw [show k = L * W by omega]
    | succ r ih =>
      intro k n x y h1 h2
      obtain ⟨n, rfl⟩ : ∃ j, n = j + 1 := ⟨n - 1, by omega⟩
      have hk : k < W * L := by rw [Nat.mul_comm]; omega
      rw [f_X9_highSide_L46, r_cells hG, Option.bind_some, if_neg (by rw [mt_len (by omega) (by omega)]; omega), r_isOn hG hk hd, Option.bind_some, r_edp hG hP hk, Option.bind_some]
      unfold f_X9_highSide_J78
      rw [r_isOn hG hk hd, Option.bind_some, Option.bind_some, mt_s1]
      simp only [ss, sdp, sdn]
      by_cases c : sid W L (k % W) (k / W) d
      · rw [if_pos c, if_pos c, if_neg n10, if_neg n10, ih (k + 1) n _ _ (by omega) (by omega), mt_r2, mt_r2]
        rfl
      · rw [if_neg c, if_neg c, if_pos rfl, if_pos rfl, ih (k + 1) n _ _ (by omega) (by omega), mt_r2, mt_r2]
        rfl
  have h := key (L * W) 0 fuel 0 0 (by omega) (by omega)
  rw [show zI ((0 : Nat) : Int) = 0 from rfl] at h
  rw [h, Int32.zero_add, Int32.zero_add, mt_sdn' hW hL hd]
  rfl
theorem m_highSide {v : sv_T} {s : Nat → Int32} {fuel : Nat} (hf : 5000 ≤ fuel) (h : SRE v s) : ∃ q1, f_X8_highSide fuel v = some q1 ∧ f_X9_highSide fuel s = some q1 := by
  obtain ⟨W, L, nl, nb, nr, D, a, b, bal, bv, lv, lub, bot, rv, rfl, hG, hP, hw, hQW, hR, hB, hQB, hA, hQA, hU, hT, hQT, hRR⟩ := h
  have loop : ∀ (r d n n' e : Nat), 1 ≤ d → d + r = 4 → e < d → r < n → r < n' → ∃ (e' : Nat) (y1 y2 : Int32), f_X8_highSide_L42 fuel (s 0, s 1, s 5, s 7, s 6, bal, s 33, bv, s 8, lv, lub, s 2, s 3, s 4, bot, s 166, rv) n (zI e) (sds W L D a b e) (zI d) = some (zI e', y1, y2) ∧ ∃ z1 z2 z3, f_X9_highSide_L31 fuel s n' (zI e) (sds W L D a b e) (sdl W L e) (zI d) = some (zI e', z1, z2, z3) := by
    intro r
    induction r with
    | zero =>
      intro d n n' e h1 h2 h3 h4 h5
      obtain ⟨n, rfl⟩ : ∃ j, n = j + 1 := ⟨n - 1, by omega⟩
      obtain ⟨n', rfl⟩ : ∃ j, n' = j + 1 := ⟨n' - 1, by omega⟩
      have : d = 4 := by omega
      subst this
      rw [f_X8_highSide_L42, f_X9_highSide_L31, if_pos (by decide), if_pos (by decide)]
      exact ⟨e, _, _, rfl, _, _, _, rfl⟩
    | succ r ih =>
      intro d n n' e h1 h2 h3 h4 h5
      obtain ⟨n, rfl⟩ : ∃ j, n = j + 1 := ⟨n - 1, by omega⟩
      obtain ⟨n', rfl⟩ : ∃ j, n' = j + 1 := ⟨n' - 1, by omega⟩
      rw [f_X8_highSide_L42, f_X9_highSide_L31, if_neg (by rw [show (4 : Int32) = zI ((4 : Nat) : Int) from rfl, mt_len (by omega) (by omega)]; omega), if_neg (by rw [show (4 : Int32) = zI ((4 : Nat) : Int) from rfl, mt_len (by omega) (by omega)]; omega)]
      dsimp only
      rw [c_sds hf hG hP (by omega), Option.bind_some, c_sdl hG (by omega), Option.bind_some, c_sdl hG (by omega), Option.bind_some, r_sds hf hG hP (by omega), Option.bind_some, if_neg (mt_ge0 (by omega)), mt_s1]
      dsimp only
      by_cases c : sds W L D a b e * sdl W L d ≤ sds W L D a b d * sdl W L e
      · rw [if_pos c, if_pos c]
        exact ih (d + 1) n n' e (by omega) (by omega) (by omega) (by omega) (by omega)
      · rw [if_neg c, if_neg c]
        exact ih (d + 1) n n' d (by omega) (by omega) (by omega) (by omega) (by omega)
  have J : ∃ q1, f_X8_highSide_J29 fuel (s 0, s 1, s 5, s 7, s 6, bal, s 33, bv, s 8, lv, lub, s 2, s 3, s 4, bot, s 166, rv) = some q1 ∧ f_X9_highSide_J21 fuel s = some q1 := by
    unfold f_X8_highSide_J29 f_X9_highSide_J21
    obtain ⟨k, rfl⟩ : ∃ k, fuel = k + 1 := ⟨fuel - 1, by omega⟩
    dsimp only
    have c0 := c_sds (d := 0) hf hG hP (by omega)
    have r0 := r_sds (d := 0) hf hG hP (by omega)
    rw [show zI ((0 : Nat) : Int) = 0 from rfl] at c0 r0
    obtain ⟨e1, y1, y2, ha, z1, z2, z3, hc⟩ := loop 3 1 (k + 1) k 0 (by omega) (by omega) (by omega) (by omega) (by omega)
    rw [c0, Option.bind_some, f_X9_highSide_L31, if_neg (by decide), r0, Option.bind_some, if_pos (by decide)]
    rw [show zI ((0 : Nat) : Int) = 0 from rfl, show zI ((1 : Nat) : Int) = 1 from rfl] at ha hc
    rw [ha, Option.bind_some]
    dsimp only
    rw [show (0 : Int32) + 1 = 1 from by decide, hc, Option.bind_some]
    exact ⟨_, rfl, rfl⟩
  unfold f_X8_highSide f_X9_highSide
  dsimp only
  by_cases c1 : s 3 = 0
  · rw [if_pos c1, if_pos c1]
    by_cases c2 : s 4 = 0
    · rw [if_pos c2, if_pos c2]; exact ⟨_, rfl, rfl⟩
    · rw [if_neg c2, if_neg c2]; exact J
  · rw [if_neg c1, if_neg c1]; exact J
def esk (s : Nat → Int32) (W L : Nat) (x y : Nat) : Int32 := if edg W L x y then skf s W L x y else 0
def egn (W L : Nat) (k : Nat) : Int32 := if edg W L (k % W) (k / W) then 1 else 0
theorem mt_egn : ∀ W L : Fin 8, 3 ≤ W.val → 3 ≤ L.val → ss (egn W.val L.val) 0 (L.val * W.val) = 2 * (zI W.val + zI L.val) - 4 := by decide +kernel
theorem mt_egn' {W L : Nat} (hW : 3 ≤ W ∧ W ≤ 7) (hL : 3 ≤ L ∧ L ≤ 7) : ss (egn W L) 0 (L * W) = 2 * (zI W + zI L) - 4 := mt_egn ⟨W, by omega⟩ ⟨L, by omega⟩ hW.1 hL.1
theorem c_skfs {s lub : Nat → Int32} {W L fuel : Nat} (hf : 5000 ≤ fuel) (hG : GR s W L) (hU : UR s lub) : f_X1_sumOfSkinFactors fuel (zI W) (zI L) lub = some (ss (fun k => esk s W L (k % W) (k / W)) 0 (L * W)) := by
  obtain ⟨h0, h1, hW, hL⟩ := id hG
  unfold f_X1_sumOfSkinFactors
  have inner : ∀ (y : Nat) (z : Int32), y < L → f_X1_sumOfSkinFactors_L17 (zI W) (zI L) lub (zI y) fuel z 0 = some (z + ss (fun x => esk s W L x y) 0 W, zI W) := by
    intro y z hy
    refine mt_sum (F := f_X1_sumOfSkinFactors_L17 (zI W) (zI L) lub (zI y)) (N := W) (g := fun x => esk s W L x y) ?_ ?_ W fuel 0 z (by omega) (by omega)
    · intro n x
      rw [f_X1_sumOfSkinFactors_L17, if_pos (by rw [mt_len (by omega) (by omega)]; omega)]
    · intro n i x hi
      rw [f_X1_sumOfSkinFactors_L17, if_neg (by rw [mt_len (by omega) (by omega)]; omega), c_edgeAt hW hL hi hy, Option.bind_some, c_skf hU hW hL hi hy, Option.bind_some, mt_s1]
      unfold esk
      by_cases c : edg W L i y
      · rw [if_pos c, if_neg n10, if_pos c]
      · rw [if_neg c, if_pos rfl, if_neg c, Int32.add_zero]
  have outer := mt_sum (F := f_X1_sumOfSkinFactors_L4 fuel (zI W) (zI L) lub) (N := L) (g := fun y => ss (fun x => esk s W L x y) 0 W) (fun n x => by rw [f_X1_sumOfSkinFactors_L4, if_pos (by rw [mt_len (by omega) (by omega)]; omega)]) (fun n i x hi => by
    rw [f_X1_sumOfSkinFactors_L4, if_neg (by rw [mt_len (by omega) (by omega)]; omega), inner i x hi, Option.bind_some, mt_s1]) L fuel 0 0 (by omega) (by omega)
  rw [show zI ((0 : Nat) : Int) = 0 from rfl] at outer
  rw [outer, ss_cells W L (esk s W L), Option.bind_some, Int32.zero_add]
theorem r_stk {s lv : Nat → Int32} {W L nl fuel : Nat} (hf : 5000 ≤ fuel) (hG : GR s W L) (hR : LR s nl lv) (e : Nat) (he : e ≤ 5000) : ∃ z, f_X9_stuckDepth_L18 fuel s (zI e) fuel 0 0 = some (ss (fun k => esk s W L (k % W) (k / W)) 0 (L * W) * fri s nl e + ss (egn W L) 0 (L * W) * buo s (zI e), z) := by
  obtain ⟨h0, h1, hW, hL⟩ := id hG
  have h49 := mt_WL hL.2 hW.2
  have ref := mt_sum (F := f_X9_stuckDepth_L18 fuel s (zI e)) (N := L * W) (g := fun k => fri s nl e * esk s W L (k % W) (k / W) + buo s (zI e) * egn W L k) (fun n x => by rw [f_X9_stuckDepth_L18, r_cells hG, Option.bind_some, if_pos (by rw [mt_len (by omega) (by omega)]; omega)]) (fun n i x hi => by
      have hk : i < W * L := by rw [Nat.mul_comm]; omega
      rw [f_X9_stuckDepth_L18, r_cells hG, Option.bind_some, if_neg (by rw [mt_len (by omega) (by omega)]; omega), r_isEdge hG hk, Option.bind_some, r_skin hf hG hR hk _ (by omega), Option.bind_some, r_buo, Option.bind_some, mt_s1]
      dsimp only [esk, egn]
      by_cases c : edg W L (i % W) (i / W)
      · rw [if_pos c, if_neg n10, if_pos c, Int32.mul_comm (skf s W L (i % W) (i / W)), Int32.mul_one]
      · rw [if_neg c, if_pos rfl, if_neg c, Int32.mul_zero, Int32.mul_zero]; rfl) (L * W) fuel 0 0 (by omega) (by omega)
  rw [show zI ((0 : Nat) : Int) = 0 from rfl, Int32.zero_add, ss_plus, ss_mul, ss_mul] at ref
  rw [ref, Int32.mul_comm (fri s nl e), Int32.mul_comm (buo s (zI e))]
  exact ⟨_, rfl⟩
theorem m_stuckDepth {v : sv_T} {s : Nat → Int32} {fuel : Nat} (hf : 5000 ≤ fuel) (h : SRE v s) : ∃ q1, f_X8_stuckDepth fuel v = some q1 ∧ f_X9_stuckDepth fuel s = some q1 := by
  obtain ⟨W, L, nl, nb, nr, D, a, b, bal, bv, lv, lub, bot, rv, rfl, hG, hP, hw, hQW, hR, hB, hQB, hA, hQA, hU, hT, hQT, hRR⟩ := h
  obtain ⟨h0, h1, hW, hL⟩ := id hG
  obtain ⟨p2, hD, p3, ha, p4, hb⟩ := id hP
  have loop : ∀ (r e n : Nat), e + r = 201 → r < n → ∃ q, f_X8_stuckDepth_L46 fuel (s 0, s 1, s 5, s 7, s 6, bal, s 33, bv, s 8, lv, lub, s 2, s 3, s 4, bot, s 166, rv) (lod s W L) (ss (fun k => esk s W L (k % W) (k / W)) 0 (L * W)) (ss (egn W L) 0 (L * W)) n (zI e) = some q ∧ f_X9_stuckDepth_L7 fuel s n (zI e) = some q := by
    intro r
    induction r with
    | zero =>
      intro e n h1 h2
      obtain ⟨n, rfl⟩ : ∃ j, n = j + 1 := ⟨n - 1, by omega⟩
      have : e = 201 := by omega
      subst this
      rw [f_X8_stuckDepth_L46, f_X9_stuckDepth_L7, if_pos (by decide), if_pos (by decide)]
      exact ⟨_, rfl, rfl⟩
    | succ r ih =>
      intro e n h1 h2
      obtain ⟨n, rfl⟩ : ∃ j, n = j + 1 := ⟨n - 1, by omega⟩
      obtain ⟨z, hz⟩ := r_stk hf hG hR e (by omega)
      rw [f_X8_stuckDepth_L46, f_X9_stuckDepth_L7, if_neg (by rw [show (200 : Int32) = zI ((200 : Nat) : Int) from rfl, mt_ltn (by omega) (by omega)]; omega), if_neg (by rw [show (200 : Int32) = zI ((200 : Nat) : Int) from rfl, mt_ltn (by omega) (by omega)]; omega)]
      dsimp only
      rw [hR.1, c_friA hf hR _ (by omega), Option.bind_some, c_buo hw _ (by omega), Option.bind_some, hz, Option.bind_some, r_load hf hG, Option.bind_some, mt_s1]
      dsimp only
      by_cases c : ss (fun k => esk s W L (k % W) (k / W)) 0 (L * W) * fri s nl e + ss (egn W L) 0 (L * W) * buo s (zI e) < lod s W L
      · rw [if_pos c, if_pos c]
        have := ih (e + 1) n (by omega) (by omega)
        rw [hR.1] at this
        exact this
      · rw [if_neg c, if_neg c]; exact ⟨_, rfl, rfl⟩
  obtain ⟨q, e1, e2⟩ := loop (201 - D) D fuel (by omega) (by omega)
  unfold f_X8_stuckDepth f_X9_stuckDepth
  dsimp only
  rw [h0, h1, c_bal hf, Option.bind_some, c_skfs hf hG hU, Option.bind_some, f_X5_edgeCount, Option.bind_some, ← mt_egn' hW hL, bal_eq hG hA hQA, p2, e2, Option.bind_some]
  rw [h0, h1, p2] at e1
  rw [show 4 * (s 5 + ss (fun k => s (68 + k)) 0 (L * W)) = lod s W L from rfl, e1, Option.bind_some, mt_sif]
  exact ⟨_, rfl, rfl⟩
theorem m_clearText {ln ty : Int32} {ch tx : Nat → Int32} (h : XR ln ch ty tx) : ∃ q1, f_X8_clearText ln = some q1 ∧ f_X9_clearText ty = some q1 ∧ XR q1.2 ch q1.2 tx := by
  obtain ⟨n, rfl, rfl, hn, hc⟩ := h
  unfold f_X8_clearText f_X9_clearText
  exact ⟨_, rfl, rfl, 0, rfl, rfl, by omega, fun i hi => absurd hi (by omega)⟩
theorem mt_chr : ∀ z : Fin 256, vp_nar .char ((Int32.toUInt32 (zI (z.val : Int)) % 65536).toInt32) = zI (z.val : Int) := by decide +kernel
theorem m_append {ln ty : Int32} {ch tx : Nat → Int32} (h : XR ln ch ty tx) (x : Int32) : ∃ q1 q2, f_X8_appendCharacter ln ch x = some q1 ∧ f_X9_appendCharacter ty tx x = some q2 ∧ q1.1 = q2.1 ∧ XR q1.2.1 q1.2.2 q2.2.1 q2.2.2 := by
  obtain ⟨n, rfl, rfl, hn, hc⟩ := id h
  unfold f_X8_appendCharacter f_X9_appendCharacter f_X6_append
  rw [fI_in]
  rcases mt_win x 0 255 (l := 0) (h := 255) rfl rfl (by omega) (by omega) with ⟨m, rfl, h3, h4, e2⟩ | e2
  · rw [e2, Option.bind_some, if_neg n10, Option.bind_some, if_neg n10, show (200 : Int32) = zI ((200 : Nat) : Int) from rfl]
    have hz := mt_chr ⟨m, by omega⟩
    dsimp only at hz
    by_cases c : n = 200
    · subst c
      rw [if_neg (by decide), if_pos rfl]
      exact ⟨_, _, rfl, rfl, rfl, h⟩
    · rw [if_pos (by rw [mt_ltn (by omega) (by omega)]; omega), if_neg (by rw [mt_len (by omega) (by omega)]; omega), if_pos (mt_ixn (a := n) (n := 200) (by omega) (by omega)), if_pos (mt_ixn (a := n) (n := 200) (by omega) (by omega)), if_neg (show ¬ zI (n : Int) = zI ((200 : Nat) : Int) by rw [mt_eqn (by omega) (by omega)]; omega), Option.bind_some, mt_cln (by omega), mt_s1, hz]
      refine ⟨_, _, rfl, rfl, rfl, n + 1, rfl, rfl, by omega, ?_⟩
      intro i hi
      dsimp only
      by_cases ci : i = n
      · subst ci
        rw [up_eq, up_eq]
        exact ⟨rfl, m, rfl, by omega⟩
      · rw [up_ne ci, up_ne ci]
        exact hc i (by omega)
  · rw [e2]
    exact ⟨_, _, rfl, rfl, rfl, h⟩
theorem t_sideResistance : MT_sideResistance Cpl := by
  intro fuel hf c r x1 h
  obtain ⟨q, e1, e2⟩ := m_sideResistance hf h.1 x1
  exact ⟨q, q, e1, e2, rfl, h⟩
theorem t_highSide : MT_highSide Cpl := by
  intro fuel hf c r h
  obtain ⟨q, e1, e2⟩ := m_highSide hf h.1
  exact ⟨q, q, e1, e2, rfl, h⟩
theorem t_stuckDepth : MT_stuckDepth Cpl := by
  intro fuel hf c r h
  obtain ⟨q, e1, e2⟩ := m_stuckDepth hf h.1
  exact ⟨q, q, e1, e2, rfl, h⟩
theorem t_clearText : MT_clearText Cpl := by
  intro fuel hf c r h
  obtain ⟨q, e1, e2, e3⟩ := m_clearText h.2.2.1
  exact ⟨q, q, e1, e2, rfl, h.1, h.2.1, e3, h.2.2.2⟩
theorem t_appendCharacter : MT_appendCharacter Cpl := by
  intro fuel hf c r x1 h
  obtain ⟨q1, q2, e1, e2, e3, e4⟩ := m_append h.2.2.1 x1
  exact ⟨q1, q2, e1, e2, e3, h.1, h.2.1, e4, h.2.2.2⟩
