/-! reading the text: tokens -/
theorem c_in1 {x lo hi : Int32} (h : lo ≤ x ∧ x ≤ hi) : f_X8_isWithin x lo hi = some 1 := by rw [fI_w, if_pos h]
theorem c_in0 {x lo hi : Int32} (h : ¬ (lo ≤ x ∧ x ≤ hi)) : f_X8_isWithin x lo hi = some 0 := by rw [fI_w, if_neg h]
theorem r_at1 {n p : Nat} {tx : Nat → Int32} {lo hi : Int32} (hn : n ≤ 200) (hp : p < n) (h : lo ≤ tx p ∧ tx p ≤ hi) : f_X9_isAt (zI n) tx (zI p) lo hi = some 1 := by
  unfold f_X9_isAt
  rw [if_neg (by rw [mt_len (by omega) (by omega)]; omega), if_pos (mt_ixn (by omega) (by omega)), mt_cln (by omega), fI_in, c_in1 h, Option.bind_some, if_neg n10]
theorem r_at0 {n p : Nat} {tx : Nat → Int32} {lo hi : Int32} (hn : n ≤ 200) (hp : p ≤ n) (h : p < n → ¬ (lo ≤ tx p ∧ tx p ≤ hi)) : f_X9_isAt (zI n) tx (zI p) lo hi = some 0 := by
  unfold f_X9_isAt
  by_cases c : p < n
  · rw [if_neg (by rw [mt_len (by omega) (by omega)]; omega), if_pos (mt_ixn (by omega) (by omega)), mt_cln (by omega), fI_in, c_in0 (h c), Option.bind_some, if_pos rfl]
  · rw [if_pos (by rw [mt_len (by omega) (by omega)]; omega)]
theorem mt_sp (x : Int32) : (32 ≤ x ∧ x ≤ 32) ↔ x = 32 := ⟨fun h => Int32.le_antisymm h.2 h.1, fun h => by subst h; decide⟩
theorem fI_l (x : Int32) : f_X6_isLetter x = f_X8_isWithin x 97 122 := rfl
theorem fI_d (x : Int32) : f_X6_isDigit x = f_X8_isWithin x 48 57 := rfl
theorem t_sp {n : Nat} {ch tx : Nat → Int32} (hn : n ≤ 200) (hx : ∀ i, i < n → ch i = tx i) : ∀ (r p m : Nat), p + r = n → r < m → ∃ p' : Nat, p ≤ p' ∧ p' ≤ n ∧ f_X6_readToken_L0 (zI n) ch m (zI p) = some (zI p') ∧ f_X9_token_L0 (zI n) tx m (zI p) = some (zI p') := by
  intro r
  induction r with
  | zero =>
    intro p m h1 h2
    obtain ⟨m, rfl⟩ : ∃ j, m = j + 1 := ⟨m - 1, by omega⟩
    refine ⟨p, by omega, by omega, ?_, ?_⟩
    · rw [f_X6_readToken_L0, if_pos (by rw [mt_len (by omega) (by omega)]; omega)]
    · rw [f_X9_token_L0, r_at0 hn (by omega) (fun h => absurd h (by omega)), Option.bind_some, if_pos rfl]
  | succ r ih =>
    intro p m h1 h2
    obtain ⟨m, rfl⟩ : ∃ j, m = j + 1 := ⟨m - 1, by omega⟩
    rw [f_X6_readToken_L0, f_X9_token_L0, if_neg (by rw [mt_len (by omega) (by omega)]; omega), if_pos (mt_ixn (by omega) (by omega)), mt_cln (by omega), hx p (by omega)]
    by_cases c : tx p = 32
    · rw [if_pos c, r_at1 hn (by omega) ((mt_sp _).mpr c), Option.bind_some, if_neg n10, mt_s1]
      obtain ⟨p', a1, a2, a3, a4⟩ := ih (p + 1) m (by omega) (by omega)
      exact ⟨p', by omega, a2, a3, a4⟩
    · rw [if_neg c, r_at0 hn (by omega) (fun _ h => c ((mt_sp _).mp h)), Option.bind_some, if_pos rfl]
      exact ⟨p, by omega, by omega, rfl, rfl⟩
theorem t_le {n : Nat} {ch tx : Nat → Int32} (hn : n ≤ 200) (hx : ∀ i, i < n → ch i = tx i) : ∀ (r p m : Nat), p + r = n → r < m → ∃ p' : Nat, p ≤ p' ∧ p' ≤ n ∧ f_X6_readToken_L85 (zI n) ch m (zI p) = some (zI p') ∧ f_X9_token_L75 (zI n) tx m (zI p) = some (zI p') ∧ (p < n → (97 ≤ tx p ∧ tx p ≤ 122) → p < p') := by
  intro r
  induction r with
  | zero =>
    intro p m h1 h2
    obtain ⟨m, rfl⟩ : ∃ j, m = j + 1 := ⟨m - 1, by omega⟩
    refine ⟨p, by omega, by omega, ?_, ?_, fun h => absurd h (by omega)⟩
    · rw [f_X6_readToken_L85, if_pos (by rw [mt_len (by omega) (by omega)]; omega)]
    · rw [f_X9_token_L75, r_at0 hn (by omega) (fun h => absurd h (by omega)), Option.bind_some, if_pos rfl]
  | succ r ih =>
    intro p m h1 h2
    obtain ⟨m, rfl⟩ : ∃ j, m = j + 1 := ⟨m - 1, by omega⟩
    rw [f_X6_readToken_L85, f_X9_token_L75, if_neg (by rw [mt_len (by omega) (by omega)]; omega), if_pos (mt_ixn (by omega) (by omega)), mt_cln (by omega), hx p (by omega), fI_l]
    by_cases c : 97 ≤ tx p ∧ tx p ≤ 122
    · rw [c_in1 c, Option.bind_some, if_neg n10, r_at1 hn (by omega) c, Option.bind_some, if_neg n10, mt_s1]
      obtain ⟨p', a1, a2, a3, a4, a5⟩ := ih (p + 1) m (by omega) (by omega)
      exact ⟨p', by omega, a2, a3, a4, fun _ _ => by omega⟩
    · rw [c_in0 c, Option.bind_some, if_pos rfl, r_at0 hn (by omega) (fun _ => c), Option.bind_some, if_pos rfl]
      exact ⟨p, by omega, by omega, rfl, rfl, fun _ h => absurd h c⟩
theorem mt_dig (v c : Int32) : v * 10 + (c - 48) = 10 * v + c - 48 := by grind
theorem t_di {n : Nat} {ch tx : Nat → Int32} (hn : n ≤ 200) (hx : ∀ i, i < n → ch i = tx i) (f : Nat) : ∀ (r p m : Nat) (v : Int32), p + r = n → r < m → ∃ (p' : Nat) (v' : Int32), p ≤ p' ∧ p' ≤ n ∧ f_X6_readNumber_L10 (zI n) (zI f) ch m (zI p) v = some (zI p', v') ∧ f_X9_token_L128 (zI n) (zI f) tx m (zI p) v = some (zI p', v') ∧ (p < n → (48 ≤ tx p ∧ tx p ≤ 57) → p < p') := by
  intro r
  induction r with
  | zero =>
    intro p m v h1 h2
    obtain ⟨m, rfl⟩ : ∃ j, m = j + 1 := ⟨m - 1, by omega⟩
    refine ⟨p, v, by omega, by omega, ?_, ?_, fun h => absurd h (by omega)⟩
    · rw [f_X6_readNumber_L10, if_pos (by rw [mt_len (by omega) (by omega)]; omega)]
    · rw [f_X9_token_L128, r_at0 hn (by omega) (fun h => absurd h (by omega)), Option.bind_some, if_pos rfl]
  | succ r ih =>
    intro p m v h1 h2
    obtain ⟨m, rfl⟩ : ∃ j, m = j + 1 := ⟨m - 1, by omega⟩
    have hix : mg_ix (zI (p : Int)) 200 = true := mt_ixn (by omega) (by omega)
    rw [f_X6_readNumber_L10, f_X9_token_L128, if_neg (by rw [mt_len (by omega) (by omega)]; omega), if_pos hix, mt_cln (by omega), hx p (by omega), fI_d]
    by_cases c : 48 ≤ tx p ∧ tx p ≤ 57
    · rw [c_in1 c, Option.bind_some, if_neg n10, r_at1 hn (by omega) c, Option.bind_some, if_neg n10, if_pos hix, if_pos hix, mt_s1, mt_dig]
      by_cases c4 : 4 ≤ zI (p : Int) - zI (f : Int)
      · rw [if_pos c4, if_pos c4]
        obtain ⟨p', v', a1, a2, a3, a4, a5⟩ := ih (p + 1) m v (by omega) (by omega)
        exact ⟨p', v', by omega, a2, a3, a4, fun _ _ => by omega⟩
      · rw [if_neg c4, if_neg c4]
        obtain ⟨p', v', a1, a2, a3, a4, a5⟩ := ih (p + 1) m (10 * v + tx p - 48) (by omega) (by omega)
        exact ⟨p', v', by omega, a2, a3, a4, fun _ _ => by omega⟩
    · rw [c_in0 c, Option.bind_some, if_pos rfl, r_at0 hn (by omega) (fun _ => c), Option.bind_some, if_pos rfl]
      exact ⟨p, v, by omega, by omega, rfl, rfl, fun _ h => absurd h c⟩
def TK (n f : Nat) (kc nu kr vl : Int32) (p : Nat) : Prop := f ≤ p ∧ p ≤ n ∧ ((kc = 0 ∧ kr = 0) ∨ (f < p ∧ ((kc = 1 ∧ kr = 1) ∨ (kc = 3 ∧ kr = 3) ∨ (kc = 4 ∧ kr = 4) ∨ (kc = 2 ∧ kr = 2 ∧ nu = vl) ∨ (kc = 2 ∧ kr = 4 ∧ nu = -1))))
def r_tl (fuel : Nat) (ty at_ vl : Int32) (tx : Nat → Int32) : Option (Int32 × Int32 × Int32 × Int32) := if at_ = ty then (some (at_, 0, at_, vl)) else ((f_X9_isAt ty tx at_ 97 122).bind (fun q19 => if q19 = 0 then ((f_X9_isAt ty tx at_ 48 57).bind (fun q21 => if q21 = 0 then (if mg_ix at_ 200 = true then (if (tx (Int32.toNatClampNeg at_)) = 59 then (some (at_ + 1, 3, at_, vl)) else (some (at_ + 1, 4, at_, vl))) else none) else ((f_X9_token_L128 ty at_ tx fuel at_ 0).bind (fun q23 => if 4 < (q23.1 - at_) then (some (q23.1, 4, at_, q23.2)) else (if (q23.1 - at_) ≤ 1 then (some (q23.1, 2, at_, q23.2)) else (if mg_ix at_ 200 = true then (if (tx (Int32.toNatClampNeg at_)) = 48 then (some (q23.1, 4, at_, q23.2)) else (some (q23.1, 2, at_, q23.2))) else none)))))) else ((f_X9_token_L75 ty tx fuel at_).bind (fun q25 => some (q25, 1, at_, vl)))))
theorem r_tok_eq (fuel : Nat) (ty at_ vl : Int32) (tx : Nat → Int32) : f_X9_token fuel ty at_ vl tx = (f_X9_isAt ty tx at_ 32 32).bind (fun q1 => if q1 = 0 then r_tl fuel ty at_ vl tx else (f_X9_token_L0 ty tx fuel (at_ + 1)).bind (fun q17 => r_tl fuel ty q17 vl tx)) := rfl
theorem t_tl {n p fuel : Nat} {ch tx : Nat → Int32} (hf : 5000 ≤ fuel) (hn : n ≤ 200) (hx : ∀ i, i < n → ch i = tx i) (hp : p ≤ n) (num val : Int32) : ∃ (p' : Nat) (kc nu kr vl : Int32), f_X6_readToken_J38 fuel (zI n) (zI p) num ch = some (zI p', kc, zI p, nu) ∧ r_tl fuel (zI n) (zI p) val tx = some (zI p', kr, zI p, vl) ∧ TK n p kc nu kr vl p' := by
  unfold f_X6_readToken_J38 r_tl
  by_cases c : p = n
  · subst c
    rw [if_neg (by rw [mt_ltn (by omega) (by omega)]; omega), if_pos rfl]
    exact ⟨p, 0, num, 0, val, rfl, rfl, by omega, by omega, Or.inl ⟨rfl, rfl⟩⟩
  · have hpn : p < n := by omega
    have hix : mg_ix (zI (p : Int)) 200 = true := mt_ixn (by omega) (by omega)
    have hcl : (zI (p : Int)).toNatClampNeg = p := mt_cln (by omega)
    rw [if_pos (show zI (p : Int) < zI n by rw [mt_ltn (by omega) (by omega)]; omega), if_neg (show ¬ zI (p : Int) = zI n by rw [mt_eqn (by omega) (by omega)]; omega)]
    simp only [hix, hcl, ↓reduceIte, hx p hpn, fI_l, fI_d]
    by_cases cl : 97 ≤ tx p ∧ tx p ≤ 122
    · obtain ⟨p', a1, a2, a3, a4, a5⟩ := t_le hn hx (n - p) p fuel (by omega) (by omega)
      rw [c_in1 cl, Option.bind_some, if_neg n10, a3, Option.bind_some, r_at1 hn hpn cl, Option.bind_some, if_neg n10, a4, Option.bind_some]
      exact ⟨p', 1, num, 1, val, rfl, rfl, by omega, a2, Or.inr ⟨a5 hpn cl, Or.inl ⟨rfl, rfl⟩⟩⟩
    · rw [c_in0 cl, Option.bind_some, if_pos rfl, r_at0 hn hp (fun _ => cl), Option.bind_some, if_pos rfl]
      by_cases cd : 48 ≤ tx p ∧ tx p ≤ 57
      · obtain ⟨p', v', a1, a2, a3, a4, a5⟩ := t_di hn hx p (n - p) p fuel 0 (by omega) (by omega)
        unfold f_X6_readNumber f_X6_readNumber_J86
        rw [c_in1 cd, Option.bind_some, if_neg n10, a3, Option.bind_some, r_at1 hn hpn cd, Option.bind_some, if_neg n10, a4, Option.bind_some]
        dsimp only
        simp only [hix, hcl, ↓reduceIte, hx p hpn]
        by_cases c4 : 4 < zI (p' : Int) - zI (p : Int)
        · rw [if_pos c4, if_pos c4, Option.bind_some]
          exact ⟨p', 2, -1, 4, v', rfl, rfl, by omega, a2, Or.inr ⟨a5 hpn cd, Or.inr (Or.inr (Or.inr (Or.inr ⟨rfl, rfl, rfl⟩)))⟩⟩
        · rw [if_neg c4, if_neg c4]
          by_cases c1 : zI (p' : Int) - zI (p : Int) ≤ 1
          · rw [if_pos c1, if_pos c1, Option.bind_some]
            exact ⟨p', 2, v', 2, v', rfl, rfl, by omega, a2, Or.inr ⟨a5 hpn cd, Or.inr (Or.inr (Or.inr (Or.inl ⟨rfl, rfl, rfl⟩)))⟩⟩
          · rw [if_neg c1, if_neg c1]
            by_cases c0 : tx p = 48
            · rw [if_pos c0, if_pos c0, Option.bind_some]
              exact ⟨p', 2, -1, 4, v', rfl, rfl, by omega, a2, Or.inr ⟨a5 hpn cd, Or.inr (Or.inr (Or.inr (Or.inr ⟨rfl, rfl, rfl⟩)))⟩⟩
            · rw [if_neg c0, if_neg c0, Option.bind_some]
              exact ⟨p', 2, v', 2, v', rfl, rfl, by omega, a2, Or.inr ⟨a5 hpn cd, Or.inr (Or.inr (Or.inr (Or.inl ⟨rfl, rfl, rfl⟩)))⟩⟩
      · rw [c_in0 cd, Option.bind_some, if_pos rfl, r_at0 hn hp (fun _ => cd), Option.bind_some, if_pos rfl, mt_s1]
        by_cases c9 : tx p = 59
        · rw [if_pos c9, if_pos c9]
          exact ⟨p + 1, 3, num, 3, val, rfl, rfl, by omega, by omega, Or.inr ⟨by omega, Or.inr (Or.inl ⟨rfl, rfl⟩)⟩⟩
        · rw [if_neg c9, if_neg c9]
          exact ⟨p + 1, 4, num, 4, val, rfl, rfl, by omega, by omega, Or.inr ⟨by omega, Or.inr (Or.inr (Or.inl ⟨rfl, rfl⟩))⟩⟩
theorem t_tok {n p fuel : Nat} {ch tx : Nat → Int32} (hf : 5000 ≤ fuel) (hn : n ≤ 200) (hx : ∀ i, i < n → ch i = tx i) (hp : p ≤ n) (num val : Int32) : ∃ (p' f : Nat) (kc nu kr vl : Int32), f_X6_readToken fuel (zI n) (zI p) num ch = some (zI p', kc, zI f, nu) ∧ f_X9_token fuel (zI n) (zI p) val tx = some (zI p', kr, zI f, vl) ∧ p ≤ f ∧ TK n f kc nu kr vl p' := by
  unfold f_X6_readToken
  rw [r_tok_eq]
  by_cases c : p = n
  · rw [if_pos (by rw [mt_len (by omega) (by omega)]; omega), r_at0 hn hp (fun h => absurd h (by omega)), Option.bind_some, if_pos rfl]
    obtain ⟨p', kc, nu, kr, vl, a1, a2, a3⟩ := t_tl hf hn hx hp num val
    exact ⟨p', p, kc, nu, kr, vl, a1, a2, by omega, a3⟩
  · rw [if_neg (by rw [mt_len (by omega) (by omega)]; omega), if_pos (mt_ixn (by omega) (by omega)), mt_cln (by omega), hx p (by omega)]
    by_cases cs : tx p = 32
    · obtain ⟨p1, b1, b2, b3, b4⟩ := t_sp hn hx (n - (p + 1)) (p + 1) fuel (by omega) (by omega)
      rw [if_pos cs, r_at1 hn (by omega) ((mt_sp _).mpr cs), Option.bind_some, if_neg n10, mt_s1, b3, b4, Option.bind_some, Option.bind_some]
      obtain ⟨p', kc, nu, kr, vl, a1, a2, a3⟩ := t_tl hf hn hx b2 num val
      exact ⟨p', p1, kc, nu, kr, vl, a1, a2, by omega, a3⟩
    · rw [if_neg cs, r_at0 hn hp (fun _ h => cs ((mt_sp _).mp h)), Option.bind_some, if_pos rfl]
      obtain ⟨p', kc, nu, kr, vl, a1, a2, a3⟩ := t_tl hf hn hx hp num val
      exact ⟨p', p, kc, nu, kr, vl, a1, a2, by omega, a3⟩
/-! words -/
theorem w_loop {n f s1 many : Nat} {x1 : Int64} {ch tx : Nat → Int32} (hn : n ≤ 200) (hx : ∀ i, i < n → ch i = tx i) (hsl : mg_sl.getD s1 0 = many) (hm : 1 ≤ many ∧ many ≤ 7) (hw : ∀ i, i < many → mg_ch s1 (zI (i : Int)) = Int64.toInt32 ((x1 >>> (Int32.toInt64 (8 * ((zI (many : Int) - 1) - zI (i : Int))) &&& 63)) &&& 255)) (hfn : f + many ≤ n) : ∀ (r i m : Nat), i + r = many → r + 1 < m → ∃ (u : Nat) (b z z' : Int32), f_X6_isWord_L28 (zI f) ch s1 m (zI i) = some (u, z) ∧ f_X9_isWord_L23 (zI f) tx x1 (zI many) m 1 (zI i) = some (b, z') ∧ ((u = 0 ∧ b = 1) ∨ (u = 1 ∧ b = 0)) := by
  intro r
  induction r with
  | zero =>
    intro i m h1 h2
    obtain ⟨m, rfl⟩ : ∃ j, m = j + 1 := ⟨m - 1, by omega⟩
    have : i = many := by omega
    subst this
    rw [f_X6_isWord_L28, hsl, if_pos (show Int32.ofNat i ≤ zI (i : Int) from Int32.le_refl _), f_X9_isWord_L23, if_pos (Int32.le_refl _)]
    exact ⟨0, 1, _, _, rfl, rfl, Or.inl ⟨rfl, rfl⟩⟩
  | succ r ih =>
    intro i m h1 h2
    obtain ⟨m, rfl⟩ : ∃ j, m = j + 2 := ⟨m - 2, by omega⟩
    have hlt : ¬ zI (many : Int) ≤ zI (i : Int) := by rw [mt_len (by omega) (by omega)]; omega
    rw [f_X6_isWord_L28, hsl, if_neg (show ¬ Int32.ofNat many ≤ zI (i : Int) from hlt), f_X9_isWord_L23, if_neg hlt, if_neg n10, mt_p, if_pos (mt_ixn (by omega) (by omega)), if_pos (mt_ixn (by omega) (by omega)), if_pos (mt_ixn (by omega) (by omega)), mt_cln (by omega), hx (f + i) (by omega), hw i (by omega)]
    by_cases c : tx (f + i) = Int64.toInt32 ((x1 >>> (Int32.toInt64 (8 * ((zI (many : Int) - 1) - zI (i : Int))) &&& 63)) &&& 255)
    · rw [if_pos c, if_pos c, mt_s1]
      exact ih (i + 1) (m + 1) (by omega) (by omega)
    · rw [if_neg c, if_neg c, f_X9_isWord_L23]
      by_cases c2 : zI (many : Int) ≤ zI (i : Int) + 1
      · rw [if_pos c2]; exact ⟨1, 0, _, _, rfl, rfl, Or.inr ⟨rfl, rfl⟩⟩
      · rw [if_neg c2, if_pos rfl]; exact ⟨1, 0, _, _, rfl, rfl, Or.inr ⟨rfl, rfl⟩⟩
theorem t_isw {n f p fuel s1 many : Nat} {x1 : Int64} {ch tx : Nat → Int32} (hf : 5000 ≤ fuel) (hn : n ≤ 200) (hx : ∀ i, i < n → ch i = tx i) (hsl : mg_sl.getD s1 0 = many) (hm : 1 ≤ many ∧ many ≤ 7) (hw : ∀ i, i < many → mg_ch s1 (zI (i : Int)) = Int64.toInt32 ((x1 >>> (Int32.toInt64 (8 * ((zI (many : Int) - 1) - zI (i : Int))) &&& 63)) &&& 255)) (hfp : f ≤ p) (hp : p ≤ n) : ∃ b : Int32, (b = 0 ∨ b = 1) ∧ f_X6_isWord fuel (zI p) 1 (zI f) ch s1 = some b ∧ f_X9_isWord fuel (zI p) (zI f) tx x1 (zI many) = some b := by
  have e0 : f_X9_isWord_L23 (zI f) tx x1 (zI many) fuel 0 0 = some (0, 0) := by
    obtain ⟨j, rfl⟩ : ∃ j, fuel = j + 1 := ⟨fuel - 1, by omega⟩
    rw [f_X9_isWord_L23, if_neg (show ¬ zI (many : Int) ≤ 0 by rw [show (0 : Int32) = zI ((0 : Nat) : Int) from rfl, mt_len (by omega) (by omega)]; omega), if_pos rfl]
  unfold f_X6_isWord f_X9_isWord f_X9_isWord_J18
  rw [if_pos rfl, hsl, mt_sbn hfp, show Int32.ofNat many = zI (many : Int) from rfl]
  by_cases c : p - f = many
  · have cz : zI ((p - f : Nat) : Int) = zI (many : Int) := by rw [c]
    obtain ⟨u, b, z, z', a1, a2, a3⟩ := w_loop (f := f) hn hx hsl hm hw (by omega) many 0 fuel (by omega) (by omega)
    rw [show zI ((0 : Nat) : Int) = 0 from rfl] at a1 a2
    rw [if_pos cz, if_pos cz, a1, a2, Option.bind_some, Option.bind_some]
    rcases a3 with ⟨rfl, rfl⟩ | ⟨rfl, rfl⟩
    · exact ⟨1, Or.inr rfl, rfl, by dsimp only; rw [if_pos (by decide)]⟩
    · exact ⟨0, Or.inl rfl, rfl, by dsimp only; rw [if_pos (by decide)]⟩
  · have cz : ¬ zI ((p - f : Nat) : Int) = zI (many : Int) := by rw [mt_eqn (by omega) (by omega)]; exact c
    rw [if_neg cz, if_neg cz, e0, Option.bind_some]
    exact ⟨0, Or.inl rfl, rfl, by rw [if_pos (by decide)]⟩
theorem ww0 : ∀ i : Fin 4, mg_ch 0 (zI (i.val : Int)) = Int64.toInt32 (((1886151022 : Int64) >>> (Int32.toInt64 (8 * ((zI ((4 : Nat) : Int) - 1) - zI (i.val : Int))) &&& 63)) &&& 255) := by decide +kernel
theorem ww1 : ∀ i : Fin 6, mg_ch 1 (zI (i.val : Int)) = Int64.toInt32 (((131277443786868 : Int64) >>> (Int32.toInt64 (8 * ((zI ((6 : Nat) : Int) - 1) - zI (i.val : Int))) &&& 63)) &&& 255) := by decide +kernel
theorem ww2 : ∀ i : Fin 5, mg_ch 2 (zI (i.val : Int)) = Int64.toInt32 (((512736126322 : Int64) >>> (Int32.toInt64 (8 * ((zI ((5 : Nat) : Int) - 1) - zI (i.val : Int))) &&& 63)) &&& 255) := by decide +kernel
theorem ww3 : ∀ i : Fin 5, mg_ch 3 (zI (i.val : Int)) = Int64.toInt32 (((495874303590 : Int64) >>> (Int32.toInt64 (8 * ((zI ((5 : Nat) : Int) - 1) - zI (i.val : Int))) &&& 63)) &&& 255) := by decide +kernel
theorem ww4 : ∀ i : Fin 5, mg_ch 4 (zI (i.val : Int)) = Int64.toInt32 (((465491813746 : Int64) >>> (Int32.toInt64 (8 * ((zI ((5 : Nat) : Int) - 1) - zI (i.val : Int))) &&& 63)) &&& 255) := by decide +kernel
theorem ww5 : ∀ i : Fin 7, mg_ch 5 (zI (i.val : Int)) = Int64.toInt32 (((27707097838019954 : Int64) >>> (Int32.toInt64 (8 * ((zI ((7 : Nat) : Int) - 1) - zI (i.val : Int))) &&& 63)) &&& 255) := by decide +kernel
theorem t_kind {n f p fuel : Nat} {ch tx : Nat → Int32} (hf : 5000 ≤ fuel) (hn : n ≤ 200) (hx : ∀ i, i < n → ch i = tx i) (hfp : f ≤ p) (hp : p ≤ n) : ∃ x y : Int32, f_X6_kindOfItem fuel (zI p) 1 (zI f) ch = some x ∧ f_X9_item fuel (zI p) (zI f) tx = some y ∧ ((∃ k : Nat, k < 6 ∧ x = zI k ∧ y = zI k) ∨ (x = -1 ∧ y = -1000009)) := by
  unfold f_X6_kindOfItem f_X9_item
  obtain ⟨b0, c0, d0, e0⟩ := t_isw (s1 := 0) (many := 4) (x1 := 1886151022) hf hn hx rfl (by omega) (fun i hi => ww0 ⟨i, hi⟩) hfp hp
  rw [show zI ((4 : Nat) : Int) = 4 from rfl] at e0
  rw [d0, e0, Option.bind_some, Option.bind_some]
  rcases c0 with rfl | rfl
  rotate_left
  · rw [if_neg n10, if_neg n10]; exact ⟨_, _, rfl, rfl, Or.inl ⟨0, by omega, rfl, rfl⟩⟩
  rw [if_pos rfl, if_pos rfl]
  obtain ⟨b1, c1, d1, e1⟩ := t_isw (s1 := 1) (many := 6) (x1 := 131277443786868) hf hn hx rfl (by omega) (fun i hi => ww1 ⟨i, hi⟩) hfp hp
  rw [show zI ((6 : Nat) : Int) = 6 from rfl] at e1
  rw [d1, e1, Option.bind_some, Option.bind_some]
  rcases c1 with rfl | rfl
  rotate_left
  · rw [if_neg n10, if_neg n10]; exact ⟨_, _, rfl, rfl, Or.inl ⟨1, by omega, rfl, rfl⟩⟩
  rw [if_pos rfl, if_pos rfl]
  obtain ⟨b2, c2, d2, e2⟩ := t_isw (s1 := 2) (many := 5) (x1 := 512736126322) hf hn hx rfl (by omega) (fun i hi => ww2 ⟨i, hi⟩) hfp hp
  rw [show zI ((5 : Nat) : Int) = 5 from rfl] at e2
  rw [d2, e2, Option.bind_some, Option.bind_some]
  rcases c2 with rfl | rfl
  rotate_left
  · rw [if_neg n10, if_neg n10]; exact ⟨_, _, rfl, rfl, Or.inl ⟨2, by omega, rfl, rfl⟩⟩
  rw [if_pos rfl, if_pos rfl]
  obtain ⟨b3, c3, d3, e3⟩ := t_isw (s1 := 3) (many := 5) (x1 := 495874303590) hf hn hx rfl (by omega) (fun i hi => ww3 ⟨i, hi⟩) hfp hp
  rw [show zI ((5 : Nat) : Int) = 5 from rfl] at e3
  rw [d3, e3, Option.bind_some, Option.bind_some]
  rcases c3 with rfl | rfl
  rotate_left
  · rw [if_neg n10, if_neg n10]; exact ⟨_, _, rfl, rfl, Or.inl ⟨3, by omega, rfl, rfl⟩⟩
  rw [if_pos rfl, if_pos rfl]
  obtain ⟨b4, c4, d4, e4⟩ := t_isw (s1 := 4) (many := 5) (x1 := 465491813746) hf hn hx rfl (by omega) (fun i hi => ww4 ⟨i, hi⟩) hfp hp
  rw [show zI ((5 : Nat) : Int) = 5 from rfl] at e4
  rw [d4, e4, Option.bind_some, Option.bind_some]
  rcases c4 with rfl | rfl
  rotate_left
  · rw [if_neg n10, if_neg n10]; exact ⟨_, _, rfl, rfl, Or.inl ⟨4, by omega, rfl, rfl⟩⟩
  rw [if_pos rfl, if_pos rfl]
  obtain ⟨b5, c5, d5, e5⟩ := t_isw (s1 := 5) (many := 7) (x1 := 27707097838019954) hf hn hx rfl (by omega) (fun i hi => ww5 ⟨i, hi⟩) hfp hp
  rw [show zI ((7 : Nat) : Int) = 7 from rfl] at e5
  rw [d5, e5, Option.bind_some, Option.bind_some]
  rcases c5 with rfl | rfl
  rotate_left
  · rw [if_neg n10, if_neg n10]; exact ⟨_, _, rfl, rfl, Or.inl ⟨5, by omega, rfl, rfl⟩⟩
  rw [if_pos rfl, if_pos rfl]
  exact ⟨_, _, rfl, rfl, Or.inr ⟨rfl, rfl⟩⟩
theorem c_kind0 {fuel : Nat} {p tok f : Int32} {ch : Nat → Int32} (h : ¬ tok = 1) : f_X6_kindOfItem fuel p tok f ch = some (-1) := by
  unfold f_X6_kindOfItem f_X6_isWord
  simp only [if_neg h, Option.bind_some, ↓reduceIte]
