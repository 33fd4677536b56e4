/-! loading -/
theorem may {s : Nat → Int32} {nl nb k it : Nat} (hk : k < 6) (h8 : s 8 = zI nl) (hnl : nl ≤ 8) (h33 : s 33 = zI nb) (hnb : nb ≤ 10) (hit : it ≤ 200) : ∃ β : Int32, f_X6_mayBegin (s 33) (s 8) (zI k) (zI it) = some β ∧ f_X9_mayBegin 1 s (zI k) (zI it) = some β ∧ (β = 0 ∨ (β = 1 ∧ (k = 0 → it = 0) ∧ (k = 4 → nl < 8) ∧ (k = 5 → nb < 10))) := by
  have no : ∀ (a b : Nat) {Q : Prop}, a ≠ b → a = b → Q := fun a b Q h1 h2 => absurd h2 h1
  have l1 : (s 8 < 8) = (nl < 8) := by rw [h8, show (8 : Int32) = zI ((8 : Nat) : Int) from rfl, mt_ltn (by omega) (by omega)]
  have l2 : (8 ≤ s 8) = (8 ≤ nl) := by rw [h8, show (8 : Int32) = zI ((8 : Nat) : Int) from rfl, mt_len (by omega) (by omega)]
  have l3 : (s 33 < 10) = (nb < 10) := by rw [h33, show (10 : Int32) = zI ((10 : Nat) : Int) from rfl, mt_ltn (by omega) (by omega)]
  have l4 : (10 ≤ s 33) = (10 ≤ nb) := by rw [h33, show (10 : Int32) = zI ((10 : Nat) : Int) from rfl, mt_len (by omega) (by omega)]
  unfold f_X6_mayBegin f_X9_mayBegin f_X9_mayBegin_J20 f_X9_mayBegin_J37 f_X7_isFull
  simp only [l1, l2, l3, l4, mt_eq0 (show it < 2147483648 by omega)]
  rw [if_pos trivial]
  rcases (show k = 0 ∨ k = 1 ∨ k = 2 ∨ k = 3 ∨ k = 4 ∨ k = 5 by omega) with rfl | rfl | rfl | rfl | rfl | rfl
  · by_cases c : it = 0
    · rw [if_pos (by decide), if_pos c, if_neg (by decide), if_pos (by decide), if_pos c, if_neg (by decide), if_neg (by decide)]
      exact ⟨1, rfl, rfl, Or.inr ⟨rfl, fun _ => c, no _ _ (by omega), no _ _ (by omega)⟩⟩
    · rw [if_pos (by decide), if_neg c, if_neg (by decide), if_pos (by decide), if_neg c]
      exact ⟨0, rfl, rfl, Or.inl rfl⟩
  · rw [if_neg (by decide), if_neg (by decide), if_neg (by decide), if_neg (by decide), if_neg (by decide), if_neg (by decide), if_neg (by decide), if_neg (by decide)]
    exact ⟨1, rfl, rfl, Or.inr ⟨rfl, no _ _ (by omega), no _ _ (by omega), no _ _ (by omega)⟩⟩
  · rw [if_neg (by decide), if_neg (by decide), if_neg (by decide), if_neg (by decide), if_neg (by decide), if_neg (by decide), if_neg (by decide), if_neg (by decide)]
    exact ⟨1, rfl, rfl, Or.inr ⟨rfl, no _ _ (by omega), no _ _ (by omega), no _ _ (by omega)⟩⟩
  · rw [if_neg (by decide), if_neg (by decide), if_neg (by decide), if_neg (by decide), if_neg (by decide), if_neg (by decide), if_neg (by decide), if_neg (by decide)]
    exact ⟨1, rfl, rfl, Or.inr ⟨rfl, no _ _ (by omega), no _ _ (by omega), no _ _ (by omega)⟩⟩
  · by_cases c : nl < 8
    · rw [if_neg (by decide), if_pos (by decide), if_pos c, Option.bind_some, if_pos rfl, if_neg (by decide), if_neg (by decide), if_pos (by decide), if_neg (show ¬ 8 ≤ nl by omega), if_neg (by decide)]
      exact ⟨1, rfl, rfl, Or.inr ⟨rfl, no _ _ (by omega), fun _ => c, no _ _ (by omega)⟩⟩
    · rw [if_neg (by decide), if_pos (by decide), if_neg c, Option.bind_some, if_neg n10, if_neg (by decide), if_neg (by decide), if_pos (by decide), if_pos (show 8 ≤ nl by omega)]
      exact ⟨0, rfl, rfl, Or.inl rfl⟩
  · by_cases c : nb < 10
    · rw [if_neg (by decide), if_neg (by decide), if_pos (by decide), if_pos c, Option.bind_some, if_pos rfl, if_neg (by decide), if_neg (by decide), if_neg (by decide), if_pos (by decide), if_neg (show ¬ 10 ≤ nb by omega)]
      exact ⟨1, rfl, rfl, Or.inr ⟨rfl, no _ _ (by omega), no _ _ (by omega), fun _ => c⟩⟩
    · rw [if_neg (by decide), if_neg (by decide), if_pos (by decide), if_neg c, Option.bind_some, if_neg n10, if_neg (by decide), if_neg (by decide), if_neg (by decide), if_pos (by decide), if_pos (show 10 ≤ nb by omega)]
      exact ⟨0, rfl, rfl, Or.inl rfl⟩
theorem c_may0 (x y z : Int32) : f_X6_mayBegin x y (-1) z = some 0 := by
  unfold f_X6_mayBegin
  rw [if_neg (by decide), if_neg (by decide), if_neg (by decide), if_pos rfl]
theorem r_may0 (kr z : Int32) (s : Nat → Int32) : f_X9_mayBegin kr s (-1000009) z = some 0 := by
  unfold f_X9_mayBegin
  by_cases c : kr = 1
  · rw [if_pos c, if_pos (by decide)]
  · rw [if_neg c]
theorem r_nmb : ∀ k : Fin 6, f_X9_numbersOf (zI (k.val : Int)) = some (zI (mny k.val : Nat)) := by decide +kernel
theorem c_rv {k : Nat} (hk : k < 6) (fuel : Nat) (a b c : Int32) (bv : Nat → Int32) (ln ps tk st nu : Int32) (ch va : Nat → Int32) : f_X6_readValues fuel a b c bv ln ps tk st nu ch va (zI k) = f_X6_readValues_J27 fuel a b c bv ln ps tk st nu ch va (zI k) (zI (mny k : Nat)) := by
  unfold f_X6_readValues
  rcases (show k = 0 ∨ k = 1 ∨ k = 2 ∨ k = 3 ∨ k = 4 ∨ k = 5 by omega) with rfl | rfl | rfl | rfl | rfl | rfl
  · rw [if_neg (by decide), if_neg (by decide), if_pos (by decide)]; rfl
  · rw [if_neg (by decide), if_neg (by decide), if_neg (by decide)]; rfl
  · rw [if_neg (by decide), if_neg (by decide), if_neg (by decide)]; rfl
  · rw [if_neg (by decide), if_neg (by decide), if_neg (by decide)]; rfl
  · rw [if_neg (by decide), if_pos (by decide)]; rfl
  · rw [if_pos (by decide)]; rfl
def LD (v : sv_T) (A : Option (Nat × Int32 × sv_T × Int32 × Int32 × Int32 × Int32 × (Nat → Int32))) (B : Option (Nat × Int32 × Int32 × Int32 × Int32 × Int32 × (Nat → Int32) × (Nat → Int32))) : Prop := ∃ (q1 : Nat × Int32 × sv_T × Int32 × Int32 × Int32 × Int32 × (Nat → Int32)) (q2 : Nat × Int32 × Int32 × Int32 × Int32 × Int32 × (Nat → Int32) × (Nat → Int32)), A = some q1 ∧ B = some q2 ∧ ((q1.1 = 0 ∧ q2.1 = 0 ∧ (∃ it : Nat, q1.2.1 = zI it ∧ q2.2.1 = zI it ∧ it ≤ 200) ∧ SRE q1.2.2.1 q2.2.2.2.2.2.2.1 ∧ q1.2.2.1.2.2.2.2.2.2.2.2.2.2.2.2.2.2.2.2 = v.2.2.2.2.2.2.2.2.2.2.2.2.2.2.2.2) ∨ (q1.1 = 1 ∧ q2.1 = 1 ∧ ∃ f : Nat, q1.2.2.2.2.2.1 = zI f ∧ q2.2.2.2.2.1 = zI f ∧ f ≤ 200))
theorem LD_fail {v d : sv_T} {f : Nat} {x y a b c e g h : Int32} {va s to : Nat → Int32} (hf : f ≤ 200) : LD v (some (1, x, d, a, b, zI f, c, va)) (some (1, y, e, g, zI f, h, s, to)) := ⟨_, _, rfl, rfl, Or.inr ⟨rfl, rfl, f, rfl, rfl, hf⟩⟩
theorem LD_v {v w : sv_T} {A : Option (Nat × Int32 × sv_T × Int32 × Int32 × Int32 × Int32 × (Nat → Int32))} {B : Option (Nat × Int32 × Int32 × Int32 × Int32 × Int32 × (Nat → Int32) × (Nat → Int32))} (h : w.2.2.2.2.2.2.2.2.2.2.2.2.2.2.2.2 = v.2.2.2.2.2.2.2.2.2.2.2.2.2.2.2.2) (hl : LD w A B) : LD v A B := by
  obtain ⟨q1, q2, h1, h2, h3⟩ := hl
  rw [h] at h3
  exact ⟨q1, q2, h1, h2, h3⟩
theorem loadL {ch tx : Nat → Int32} {n fuel : Nat} (hf : 5000 ≤ fuel) (hn : n ≤ 200) (hx : ∀ i, i < n → ch i = tx i) : ∀ (r it m p f : Nat) (v : sv_T) (s : Nat → Int32) (kc kr nu vl : Int32) (va to : Nat → Int32), n ≤ f + r → r < m → it ≤ f → TK n f kc nu kr vl p → SRE v s → (it = 0 → FR s) → LD v (f_X6_readInto_L15 fuel (zI n) ch m (zI it) v (zI p) kc (zI f) nu va) (f_X9_load_L19 fuel (zI n) tx m (zI it) (zI p) kr (zI f) vl s to) := by
  intro r
  induction r with
  | zero =>
    intro it m p f v s kc kr nu vl va to h1 h2 h3 hT hS h0
    obtain ⟨m, rfl⟩ : ∃ j, m = j + 1 := ⟨m - 1, by omega⟩
    obtain ⟨t1, t2, t3⟩ := hT
    rcases t3 with ⟨rfl, rfl⟩ | ⟨t4, _⟩
    · rw [f_X6_readInto_L15, f_X9_load_L19, if_pos rfl, if_pos rfl]
      exact ⟨_, _, rfl, rfl, Or.inl ⟨rfl, rfl, ⟨it, rfl, rfl, by omega⟩, hS, rfl⟩⟩
    · omega
  | succ r ih =>
    intro it m p f v s kc kr nu vl va to h1 h2 h3 hT hS h0
    obtain ⟨m, rfl⟩ : ∃ j, m = j + 1 := ⟨m - 1, by omega⟩
    obtain ⟨t1, t2, t3⟩ := hT
    rw [f_X6_readInto_L15, f_X9_load_L19]
    rcases t3 with ⟨rfl, rfl⟩ | ⟨t4, t5⟩
    · rw [if_pos rfl, if_pos rfl]
      exact ⟨_, _, rfl, rfl, Or.inl ⟨rfl, rfl, ⟨it, rfl, rfl, by omega⟩, hS, rfl⟩⟩
    · have hkc : ¬ kc = 0 := by rcases t5 with ⟨h, _⟩ | ⟨h, _⟩ | ⟨h, _⟩ | ⟨h, _⟩ | ⟨h, _⟩ <;> (rw [h]; decide)
      have hkr : ¬ kr = 0 := by rcases t5 with ⟨_, h⟩ | ⟨_, h⟩ | ⟨_, h⟩ | ⟨_, h, _⟩ | ⟨_, h, _⟩ <;> (rw [h]; decide)
      have hk1 : (kc = 1 ∧ kr = 1) ∨ (¬ kc = 1 ∧ ¬ kr = 1) := by
        rcases t5 with h | ⟨g, h⟩ | ⟨g, h⟩ | ⟨g, h, _⟩ | ⟨g, h, _⟩
        · exact Or.inl h
        all_goals (right; rw [g, h]; decide)
      have hit : ¬ zI (n : Int) ≤ zI (it : Int) := by rw [mt_len (by omega) (by omega)]; omega
      rw [if_neg hkc, if_neg hit, if_neg hkr]
      rcases hk1 with ⟨rfl, rfl⟩ | ⟨n1, n2⟩
      · obtain ⟨W, L, nl, nb, nr, D, a, b, hsr⟩ := id hS
        obtain ⟨bal, bv, lv, lub, bot, rv, rfl, hG, hP, hw, hQW, hR, hB, hQB, hA, hQA, hU, hT, hQT, hRR⟩ := id hsr
        obtain ⟨x, y, e1, e2, e3⟩ := t_kind hf hn hx t1 t2
        rw [if_pos rfl, e1, e2, Option.bind_some, Option.bind_some]
        unfold f_X9_load_J43
        dsimp only
        rcases e3 with ⟨k, hk, rfl, rfl⟩ | ⟨rfl, rfl⟩
        · obtain ⟨β, b1, b2, b3⟩ := may (s := s) (it := it) hk hR.1 hR.2.1 hB.1 hB.2.1 (by omega)
          rw [b1, b2, Option.bind_some, Option.bind_some]
          rcases b3 with rfl | ⟨rfl, o0, o4, o5⟩
          · rw [if_pos rfl, if_pos rfl]
            exact LD_fail (by omega)
          · have hmb := mny_b k
            obtain ⟨u, z, z', β, p', tc', sc', tr', sr', nu', vl', va', to', d1, d2, d3, d4, d5⟩ := rdV (k := k) hf hn hx hG hB hk (mny k) 0 fuel p 1 (zI f) 1 (zI f) nu vl va to (by omega) (by omega) t2 (fun i hi => absurd hi (by omega))
            rw [show zI ((0 : Nat) : Int) = 0 from rfl] at d1 d2
            have hnm := r_nmb ⟨k, hk⟩
            dsimp only at hnm
            rw [if_neg n10, if_neg n10, c_rv hk]
            unfold f_X6_readValues_J27 f_X9_isRead
            rw [d1, hnm, Option.bind_some, Option.bind_some, d2, Option.bind_some]
            unfold f_X9_isRead_J65
            dsimp only
            rcases d5 with ⟨rfl, rfl, d6⟩ | ⟨rfl, rfl, f', rfl, rfl, d6⟩
            · obtain ⟨p2, f2, kc2, nu2, kr2, vl2, g1, g2, g3, g4, g5, g6⟩ := t_tok hf hn hx d4 nu' vl'
              have hk3 : (kc2 = 3 ∧ kr2 = 3) ∨ (¬ kc2 = 3 ∧ ¬ kr2 = 3) := by
                rcases g6 with ⟨g, h⟩ | ⟨_, ⟨g, h⟩ | h | ⟨g, h⟩ | ⟨g, h, _⟩ | ⟨g, h, _⟩⟩
                · right; rw [g, h]; decide
                · right; rw [g, h]; decide
                · exact Or.inl h
                all_goals (right; rw [g, h]; decide)
              unfold f_X6_readSemicolon
              rw [if_pos rfl, if_neg n10, Option.bind_some]
              dsimp only
              rw [if_neg n10, g1, g2, Option.bind_some, Option.bind_some]
              dsimp only
              rcases hk3 with ⟨rfl, rfl⟩ | ⟨n3, n4⟩
              · obtain ⟨v1, s', w1, w2, w3⟩ := ent hf hsr hk d6 (fun e => h0 (o0 e)) o4 o5
                obtain ⟨p3, f3, kc3, nu3, kr3, vl3, x1, x2, x3, x4⟩ := t_tok hf hn hx g5 nu2 vl2
                rw [if_pos rfl, if_pos rfl, Option.bind_some, w2, Option.bind_some, Option.bind_some]
                dsimp only
                rw [if_neg n10, if_neg n10, w1, Option.bind_some, x1, x2, Option.bind_some, Option.bind_some, mt_s1]
                exact LD_v rfl (ih (it + 1) m p3 f3 _ s' kc3 kr3 nu3 vl3 va' to' (by omega) (by omega) (by omega) x4 w3 (fun h => absurd h (by omega)))
              · rw [if_neg n3, if_neg n4, Option.bind_some, Option.bind_some]
                dsimp only
                rw [if_pos rfl, if_pos rfl]
                exact LD_fail (by omega)
            · rw [if_neg (show ¬ (1 : Nat) = 0 by omega), Option.bind_some, if_pos rfl, if_pos rfl, if_pos rfl, if_pos (by decide), Option.bind_some]
              dsimp only
              rw [if_pos rfl]
              exact LD_fail (by omega)
        · rw [c_may0, r_may0, Option.bind_some, Option.bind_some, if_pos rfl, if_pos rfl]
          exact LD_fail (by omega)
      · unfold f_X9_load_J43
        rw [if_neg n2, c_kind0 n1, Option.bind_some, c_may0, r_may0, Option.bind_some, Option.bind_some, if_pos rfl, if_pos rfl]
        exact LD_fail (by omega)
def S0 (g : Nat → Int32) : Nat → Int32 := upd (upd (upd (upd (upd (fun j => if j < 227 then 0 else g j) 0 5) 1 4) 5 600) 6 400) 7 400
theorem S0_z {g : Nat → Int32} {j : Nat} (h : (2 ≤ j ∧ j < 5) ∨ (8 ≤ j ∧ j < 227)) : S0 g j = 0 := by
  unfold S0
  rw [up_ne (by omega), up_ne (by omega), up_ne (by omega), up_ne (by omega), up_ne (by omega), if_pos (by omega)]
theorem SR0 (bal bv lv lub bot rv g : Nat → Int32) : SR (5, 4, 600, 400, 400, (fun j => if j < 49 then 0 else bal j), 0, bv, 0, lv, (fun j => if j < 4 then 0 else lub j), 0, 0, 0, (fun j => if j < 49 then 0 else bot j), 0, rv) (S0 g) 5 4 0 0 0 0 0 0 := by
  refine ⟨_, bv, lv, _, _, rv, rfl, ⟨rfl, rfl, by omega, by omega⟩, ⟨rfl, by omega, rfl, by omega, rfl, by omega⟩, ⟨400, rfl, by omega⟩, ⟨600, rfl, by omega⟩, ⟨rfl, by omega, fun i hi => absurd hi (by omega), fun i hi => absurd hi (by omega)⟩, ⟨rfl, by omega, fun k hk => absurd hk (by omega)⟩, ⟨fun i hi => absurd hi (by omega), fun i hi => absurd hi (by omega)⟩, ?_, ?_, ?_, ?_, ?_, ⟨rfl, by omega, fun i p hi => absurd hi (by omega)⟩⟩
  · intro k hk
    rw [S0_z (by omega)]
    exact if_pos hk
  · intro k hk
    rw [S0_z (by omega)]
    exact ⟨0, rfl, by omega, fun _ => rfl⟩
  · intro k hk
    rw [S0_z (by omega)]
    exact if_pos hk
  · intro k hk
    rw [S0_z (by omega)]
    exact if_pos hk
  · intro k hk
    rw [S0_z (by omega)]
    exact ⟨0, rfl, by omega⟩
theorem FR0 (g : Nat → Int32) : FR (S0 g) := ⟨S0_z (by omega), S0_z (by omega), S0_z (by omega), S0_z (by omega), fun j _ _ => S0_z (by omega)⟩
theorem r_beg {fuel : Nat} (hf : 5000 ≤ fuel) (g : Nat → Int32) : f_X9_begins fuel g = some (S0 g) := mt_X9_begins hf g
theorem m_load {vd v : sv_T} {s past : Nat → Int32} {nx ct ps : Int32} {sv : Nat → sv_T} {fuel : Nat} (hf : 5000 ≤ fuel) (h : SRE v s) (hH : HR nx ct sv ps past) {ln ty : Int32} {ch tx : Nat → Int32} (hX : XR ln ch ty tx) (aside : Nat → Int32) (nu vl : Int32) (va to : Nat → Int32) : ∃ q1 q2, f_X8_load fuel vd v nx ct sv ln nu ch va = some q1 ∧ f_X9_load fuel ps ty vl aside past s tx to = some q2 ∧ q1.1 = q2.1 ∧ SRE q1.2.2.1 q2.2.2.2.2.2.2.2.2.2.1 ∧ HR q1.2.2.2.1 q1.2.2.2.2.1 q1.2.2.2.2.2.1 q2.2.1 q2.2.2.2.2.2.2.2.2.1 ∧ XR q1.2.2.2.2.2.2.1 ch q2.2.2.1 tx := by
  have hX' := hX
  obtain ⟨n, rfl, rfl, hn, hc⟩ := hX
  have hx : ∀ i, i < n → ch i = tx i := fun i hi => (hc i hi).1
  obtain ⟨p, f, kc, nu', kr, vl', a1, a2, a3, a4⟩ := t_tok hf hn hx (Nat.zero_le n) nu vl
  rw [show zI ((0 : Nat) : Int) = 0 from rfl] at a1 a2
  obtain ⟨q1, q2, b1, b2, b3⟩ := loadL hf hn hx n 0 fuel p f _ (S0 s) kc kr nu' vl' va to (by omega) (by omega) (by omega) a4 ⟨5, 4, 0, 0, 0, 0, 0, 0, SR0 (vd.2.2.2.2.2.1) (vd.2.2.2.2.2.2.2.1) (vd.2.2.2.2.2.2.2.2.2.1) (vd.2.2.2.2.2.2.2.2.2.2.1) (vd.2.2.2.2.2.2.2.2.2.2.2.2.2.2.1) (vd.2.2.2.2.2.2.2.2.2.2.2.2.2.2.2.2) s⟩ (fun _ => FR0 s)
  rw [show zI ((0 : Nat) : Int) = 0 from rfl] at b1 b2
  unfold f_X8_load f_X9_load f_X6_readInto
  rw [mt_X5_beginAnew hf, Option.bind_some, a1, Option.bind_some, r_hold hf, Option.bind_some, r_beg hf, Option.bind_some, a2, Option.bind_some]
  dsimp only
  rw [b1, b2, Option.bind_some, Option.bind_some]
  rcases b3 with ⟨c1, c2, ⟨it, c3, c4, c5⟩, c6, c7⟩ | ⟨c1, c2, f', c3, c4, c5⟩
  · obtain ⟨nx', ct', ps', sv', past', g1, g2, hH'⟩ := push hf h hH aside
    obtain ⟨W, L, nl, nb, nr, D, a, b, hsr⟩ := c6
    dsimp only at c7
    obtain ⟨v', w1, w2⟩ := c_copy hsr (v.2.2.2.2.2.1) (v.2.2.2.2.2.2.2.1) (v.2.2.2.2.2.2.2.2.2.1) (v.2.2.2.2.2.2.2.2.2.2.1) (v.2.2.2.2.2.2.2.2.2.2.2.2.2.2.1) (v.2.2.2.2.2.2.2.2.2.2.2.2.2.2.2.2)
    rw [c7] at w1
    rw [if_pos c1, if_pos c2, Option.bind_some, g2, Option.bind_some]
    dsimp only
    rw [if_pos (show (0 : Int32) ≤ q1.2.1 by rw [c3]; exact Int32.not_lt.mp (mt_ge0 (by omega))), g1, Option.bind_some, w1, Option.bind_some]
    refine ⟨_, _, rfl, rfl, ?_, ⟨W, L, nl, nb, nr, D, a, b, w2⟩, hH', 0, rfl, rfl, by omega, fun i hi => absurd hi (by omega)⟩
    show q1.2.1 = q2.2.1
    rw [c3, c4]
  · rw [if_neg (by rw [c1]; omega), if_neg (by rw [c2]; omega), Option.bind_some, r_restore hf, Option.bind_some]
    dsimp only
    have hneg : ¬ (0 : Int32) ≤ -10 - q1.2.2.2.2.2.1 := by
      rw [c3, show (-10 : Int32) = zI (-10) from rfl, zI_sub, show (0 : Int32) = zI 0 from rfl, zI_le (by omega) (by omega)]
      omega
    rw [if_neg hneg]
    refine ⟨_, _, rfl, rfl, ?_, SRE_c (fun k hk => by dsimp only; rw [hld_lt hk, hld_lt hk]) h, hH, hX'⟩
    show -10 - q1.2.2.2.2.2.1 = -10 - q2.2.2.2.2.1
    rw [c3, c4]
theorem t_load : MT_load Cpl := by
  intro fuel hf c r h
  obtain ⟨q1, q2, e1, e2, e3, e4, e5, e6⟩ := m_load hf h.1 h.2.1 h.2.2.1 _ _ _ _ _
  exact ⟨q1, q2, e1, e2, e3, e4, e5, e6, h.2.2.2⟩
