/-! the coupling of a site and a row of numbers -/
theorem up_eq (f : Nat → Int32) (k : Nat) (x : Int32) : upd f k x k = x := if_pos rfl
theorem up_ne {f : Nat → Int32} {k j : Nat} {x : Int32} (h : j ≠ k) : upd f k x j = f j := if_neg h
def QW (s : Nat → Int32) : Prop := ∃ w : Nat, s 5 = zI w ∧ w ≤ 9999
def bky (s : Nat → Int32) (i : Nat) : Int := 1000 * (s (34 + 3 * i)).toInt + (s (34 + 3 * i + 1)).toInt
def QB (s : Nat → Int32) (W L nb : Nat) : Prop := (∀ i, i < nb → ∃ c d : Nat, s (34 + 3 * i) = zI c ∧ c < W * L ∧ s (34 + 3 * i + 1) = zI d ∧ 1 ≤ d ∧ d ≤ 200) ∧ ∀ i, i + 1 < nb → bky s i < bky s (i + 1)
def QA (s : Nat → Int32) (W L : Nat) : Prop := ∀ k, k < 49 → ∃ q : Nat, s (68 + k) = zI q ∧ q ≤ 99 ∧ (W * L ≤ k → q = 0)
def QT (s : Nat → Int32) : Prop := ∀ k, k < 49 → ∃ n : Nat, s (117 + k) = zI n ∧ n ≤ 220
def RR (s : Nat → Int32) (nr : Nat) (rv : Nat → Int32) : Prop := s 166 = zI nr ∧ nr ≤ 20 ∧ ∀ i p, i < nr → p < 3 → rv (3 * i + p) = s (167 + 3 * (nr - 1 - i) + p)
def SR (v : sv_T) (s : Nat → Int32) (W L nl nb nr D : Nat) (a b : Int) : Prop := ∃ bal bv lv lub bot rv : Nat → Int32, v = (s 0, s 1, s 5, s 7, s 6, bal, s 33, bv, s 8, lv, lub, s 2, s 3, s 4, bot, s 166, rv) ∧ GR s W L ∧ PR s D a b ∧ WR s ∧ QW s ∧ LR s nl lv ∧ BR s nb bv ∧ QB s W L nb ∧ AR s bal ∧ QA s W L ∧ UR s lub ∧ TR s bot ∧ QT s ∧ RR s nr rv
def SRE (v : sv_T) (s : Nat → Int32) : Prop := ∃ (W L nl nb nr D : Nat) (a b : Int), SR v s W L nl nb nr D a b
theorem GR_c {s s' : Nat → Int32} {W L : Nat} (h0 : s' 0 = s 0) (h1 : s' 1 = s 1) (h : GR s W L) : GR s' W L := by
  unfold GR at h ⊢; rw [h0, h1]; exact h
theorem PR_c {s s' : Nat → Int32} {D : Nat} {a b : Int} (h2 : s' 2 = s 2) (h3 : s' 3 = s 3) (h4 : s' 4 = s 4) (h : PR s D a b) : PR s' D a b := by
  unfold PR at h ⊢; rw [h2, h3, h4]; exact h
theorem WR_c {s s' : Nat → Int32} (h6 : s' 6 = s 6) (h : WR s) : WR s' := by
  unfold WR at h ⊢; rw [h6]; exact h
theorem QW_c {s s' : Nat → Int32} (h5 : s' 5 = s 5) (h : QW s) : QW s' := by
  unfold QW at h ⊢; rw [h5]; exact h
theorem lts_c {s s' : Nat → Int32} : ∀ i : Nat, (∀ k, k < i → s' (9 + 3 * k) = s (9 + 3 * k)) → lts s' i = lts s i := by
  intro i
  induction i with
  | zero => intro _; rfl
  | succ i ih =>
    intro h
    show lts s' i + s' (9 + 3 * i) = lts s i + s (9 + 3 * i)
    rw [ih (fun k hk => h k (by omega)), h i (by omega)]
theorem LR_c {s s' lv : Nat → Int32} {nl : Nat} (e : ∀ k, 8 ≤ k → k < 33 → s' k = s k) (h : LR s nl lv) : LR s' nl lv := by
  obtain ⟨h8, hn, hv, ht⟩ := h
  refine ⟨by rw [e 8 (by omega) (by omega)]; exact h8, hn, ?_, ?_⟩
  · intro i hi
    rw [lts_c (s := s) (s' := s') (i + 1) (fun k hk => e _ (by omega) (by omega)), e _ (by omega) (by omega), e _ (by omega) (by omega)]
    exact hv i hi
  · intro i hi
    rw [e _ (by omega) (by omega)]
    exact ht i hi
theorem BR_c {s s' bv : Nat → Int32} {nb : Nat} (e : ∀ k, 33 ≤ k → k < 64 → s' k = s k) (h : BR s nb bv) : BR s' nb bv := by
  obtain ⟨h8, hn, hv⟩ := h
  refine ⟨by rw [e 33 (by omega) (by omega)]; exact h8, hn, ?_⟩
  intro k hk
  rw [e _ (by omega) (by omega)]
  exact hv k hk
theorem QB_c {s s' : Nat → Int32} {W L nb : Nat} (hnb : nb ≤ 10) (e : ∀ k, 33 ≤ k → k < 64 → s' k = s k) (h : QB s W L nb) : QB s' W L nb := by
  obtain ⟨h1, h2⟩ := h
  refine ⟨?_, ?_⟩
  · intro i hi
    rw [e _ (by omega) (by omega), e _ (by omega) (by omega)]
    exact h1 i hi
  · intro i hi
    unfold bky
    rw [e _ (by omega) (by omega), e _ (by omega) (by omega), e _ (by omega) (by omega), e _ (by omega) (by omega)]
    exact h2 i hi
theorem UR_c {s s' lub : Nat → Int32} (e : ∀ k, 64 ≤ k → k < 68 → s' k = s k) (h : UR s lub) : UR s' lub := by
  intro k hk
  rw [e _ (by omega) (by omega)]
  exact h k hk
theorem AR_c {s s' bal : Nat → Int32} (e : ∀ k, 68 ≤ k → k < 117 → s' k = s k) (h : AR s bal) : AR s' bal := by
  intro k hk
  rw [e _ (by omega) (by omega)]
  exact h k hk
theorem QA_c {s s' : Nat → Int32} {W L : Nat} (e : ∀ k, 68 ≤ k → k < 117 → s' k = s k) (h : QA s W L) : QA s' W L := by
  intro k hk
  rw [e _ (by omega) (by omega)]
  exact h k hk
theorem TR_c {s s' bot : Nat → Int32} (e : ∀ k, 117 ≤ k → k < 166 → s' k = s k) (h : TR s bot) : TR s' bot := by
  intro k hk
  rw [e _ (by omega) (by omega)]
  exact h k hk
theorem QT_c {s s' : Nat → Int32} (e : ∀ k, 117 ≤ k → k < 166 → s' k = s k) (h : QT s) : QT s' := by
  intro k hk
  rw [e _ (by omega) (by omega)]
  exact h k hk
theorem RR_c {s s' rv : Nat → Int32} {nr : Nat} (e : ∀ k, 166 ≤ k → k < 227 → s' k = s k) (h : RR s nr rv) : RR s' nr rv := by
  obtain ⟨h1, h2, h3⟩ := h
  refine ⟨by rw [e 166 (by omega) (by omega)]; exact h1, h2, ?_⟩
  intro i p hi hp
  rw [e _ (by omega) (by omega)]
  exact h3 i p hi hp
theorem SR_c {v : sv_T} {s s' : Nat → Int32} {W L nl nb nr D : Nat} {a b : Int} (e : ∀ k, k < 227 → s' k = s k) (h : SR v s W L nl nb nr D a b) : SR v s' W L nl nb nr D a b := by
  obtain ⟨bal, bv, lv, lub, bot, rv, hv, hG, hP, hw, hQW, hR, hB, hQB, hA, hQA, hU, hT, hQT, hRR⟩ := h
  refine ⟨bal, bv, lv, lub, bot, rv, ?_, GR_c (e _ (by omega)) (e _ (by omega)) hG, PR_c (e _ (by omega)) (e _ (by omega)) (e _ (by omega)) hP, WR_c (e _ (by omega)) hw, QW_c (e _ (by omega)) hQW, LR_c (fun k _ _ => e k (by omega)) hR, BR_c (fun k _ _ => e k (by omega)) hB, QB_c hB.2.1 (fun k _ _ => e k (by omega)) hQB, AR_c (fun k _ _ => e k (by omega)) hA, QA_c (fun k _ _ => e k (by omega)) hQA, UR_c (fun k _ _ => e k (by omega)) hU, TR_c (fun k _ _ => e k (by omega)) hT, QT_c (fun k _ _ => e k (by omega)) hQT, RR_c (fun k _ _ => e k (by omega)) hRR⟩
  rw [hv, e 0 (by omega), e 1 (by omega), e 2 (by omega), e 3 (by omega), e 4 (by omega), e 5 (by omega), e 6 (by omega), e 7 (by omega), e 8 (by omega), e 33 (by omega), e 166 (by omega)]
theorem SRE_c {v : sv_T} {s s' : Nat → Int32} (e : ∀ k, k < 227 → s' k = s k) (h : SRE v s) : SRE v s' := by
  obtain ⟨W, L, nl, nb, nr, D, a, b, h⟩ := h
  exact ⟨W, L, nl, nb, nr, D, a, b, SR_c e h⟩
/-! copying -/
theorem mt_cp {a b c n0 n1 : Nat} (h0 : a + c ≤ n0) (h1 : b + c ≤ n1) (hn0 : n0 < 2147483648) (hn1 : n1 < 2147483648) : mg_cp (zI a) (zI b) (zI c) n0 n1 = true := by
  unfold mg_cp
  rw [show (0 : Int32) = zI ((0 : Nat) : Int) from rfl, mt_cln (by omega), mt_cln (by omega), mt_cln (by omega)]
  simp (disch := omega) only [mt_ltn]
  simp [h0, h1]
theorem c_cp3 {m cap n : Nat} (h : m ≤ cap) (hn : 3 * cap ≤ n) (hN : n < 1000) (f g : Nat → Int32) : f_X7_copyFrom n n (zI m) f (zI cap) g = some (zI m, va_cpy f g 0 0 (3 * m)) := by
  unfold f_X7_copyFrom
  have e : mg_mn (zI m) (zI cap) = zI m := by
    unfold mg_mn
    rw [if_neg (by rw [mt_ltn (by omega) (by omega)]; omega)]
  rw [e, mt_3, show (0 : Int32) = zI ((0 : Nat) : Int) from rfl, if_pos (mt_cp (by omega) (by omega) (by omega) (by omega)), mt_cln (by omega), mt_cln (by omega)]
theorem cpy_lt {f g : Nat → Int32} {n k : Nat} (h : k < n) : va_cpy f g 0 0 n k = f k := by
  unfold va_cpy
  rw [if_pos (by omega)]
  congr 1; omega
theorem c_copy {v : sv_T} {s : Nat → Int32} {W L nl nb nr D : Nat} {a b : Int} (h : SR v s W L nl nb nr D a b) (bal0 bv0 lv0 lub0 bot0 rv0 : Nat → Int32) : ∃ v' : sv_T, f_X5_copyFrom v.1 v.2.1 v.2.2.1 v.2.2.2.1 v.2.2.2.2.1 v.2.2.2.2.2.1 v.2.2.2.2.2.2.1 v.2.2.2.2.2.2.2.1 v.2.2.2.2.2.2.2.2.1 v.2.2.2.2.2.2.2.2.2.1 v.2.2.2.2.2.2.2.2.2.2.1 v.2.2.2.2.2.2.2.2.2.2.2.1 v.2.2.2.2.2.2.2.2.2.2.2.2.1 v.2.2.2.2.2.2.2.2.2.2.2.2.2.1 v.2.2.2.2.2.2.2.2.2.2.2.2.2.2.1 v.2.2.2.2.2.2.2.2.2.2.2.2.2.2.2.1 v.2.2.2.2.2.2.2.2.2.2.2.2.2.2.2.2 bal0 bv0 lv0 lub0 bot0 rv0 = some v' ∧ SR v' s W L nl nb nr D a b := by
  obtain ⟨bal, bv, lv, lub, bot, rv, rfl, hG, hP, hw, hQW, hR, hB, hQB, hA, hQA, hU, hT, hQT, hRR⟩ := h
  dsimp only
  refine ⟨(s 0, s 1, s 5, s 7, s 6, va_cpy bal bal0 0 0 49, s 33, va_cpy bv bv0 0 0 (3 * nb), s 8, va_cpy lv lv0 0 0 (3 * nl), va_cpy lub lub0 0 0 4, s 2, s 3, s 4, va_cpy bot bot0 0 0 49, s 166, va_cpy rv rv0 0 0 (3 * nr)), ?_, ?_⟩
  · unfold f_X5_copyFrom f_X4_copyFrom
    rw [if_pos (by decide), if_pos (by decide), if_pos (by decide), Option.bind_some, hR.1, hB.1, hRR.1, show (8 : Int32) = zI ((8 : Nat) : Int) from rfl, show (10 : Int32) = zI ((10 : Nat) : Int) from rfl, show (20 : Int32) = zI ((20 : Nat) : Int) from rfl, c_cp3 hR.2.1 (by omega) (by omega), Option.bind_some, c_cp3 hB.2.1 (by omega) (by omega), Option.bind_some, c_cp3 hRR.2.1 (by omega) (by omega), Option.bind_some]
    rfl
  · refine ⟨_, _, _, _, _, _, rfl, hG, hP, hw, hQW, ⟨hR.1, hR.2.1, ?_, hR.2.2.2⟩, ⟨hB.1, hB.2.1, ?_⟩, hQB, ?_, hQA, ?_, ?_, hQT, ⟨hRR.1, hRR.2.1, ?_⟩⟩
    · intro i hi
      rw [cpy_lt (by omega), cpy_lt (by omega), cpy_lt (by omega)]
      exact hR.2.2.1 i hi
    · intro k hk
      rw [cpy_lt (by omega)]
      exact hB.2.2 k hk
    · intro k hk
      rw [cpy_lt (by omega)]
      exact hA k hk
    · intro k hk
      rw [cpy_lt (by omega)]
      exact hU k hk
    · intro k hk
      rw [cpy_lt (by omega)]
      exact hT k hk
    · intro i p hi hp
      rw [cpy_lt (by omega)]
      exact hRR.2.2 i p hi hp
/-! loops that fill and shift -/
theorem mt_fillo {F : Nat → Int32 → (Nat → Int32) → Option (Int32 × (Nat → Int32))} {N o : Nat} {g : Nat → Int32} (hE : ∀ n a, F (n + 1) (zI N) a = some (zI N, a)) (hS : ∀ (n i : Nat) a, i < N → F (n + 1) (zI i) a = F n (zI ((i + 1 : Nat) : Int)) (upd a (o + i) (g i))) : ∀ (r n i : Nat) (a : Nat → Int32), i + r = N → r < n → F n (zI i) a = some (zI N, fun j => if o + i ≤ j ∧ j < o + N then g (j - o) else a j) := by
  intro r
  induction r with
  | zero =>
    intro n i a h1 h2
    obtain ⟨n, rfl⟩ : ∃ k, n = k + 1 := ⟨n - 1, by omega⟩
    have : i = N := by omega
    subst this
    rw [hE]
    congr 2
    funext j
    rw [if_neg (by omega)]
  | succ r ih =>
    intro n i a h1 h2
    obtain ⟨n, rfl⟩ : ∃ k, n = k + 1 := ⟨n - 1, by omega⟩
    rw [hS n i a (by omega), ih n (i + 1) _ (by omega) (by omega)]
    congr 2
    funext j
    by_cases e : j = o + i
    · subst e
      rw [if_neg (by omega), if_pos (by omega), up_eq, Nat.add_sub_cancel_left]
    · rw [up_ne e]
      by_cases e2 : o + (i + 1) ≤ j ∧ j < o + N
      · rw [if_pos e2, if_pos (by omega)]
      · rw [if_neg e2, if_neg (by omega)]
theorem mt_shift {F : Nat → Int32 → (Nat → Int32) → Option (Int32 × (Nat → Int32))} {N d : Nat} (hd : 0 < d) (lo : Nat) (hE : ∀ n a, F (n + 1) (zI N) a = some (zI N, a)) (hS : ∀ (n i : Nat) a, lo ≤ i → i < N → F (n + 1) (zI i) a = F n (zI ((i + 1 : Nat) : Int)) (upd a i (a (i + d)))) : ∀ (r n i : Nat) (a : Nat → Int32), lo ≤ i → i + r = N → r < n → F n (zI i) a = some (zI N, fun j => if i ≤ j ∧ j < N then a (j + d) else a j) := by
  intro r
  induction r with
  | zero =>
    intro n i a h0 h1 h2
    obtain ⟨n, rfl⟩ : ∃ k, n = k + 1 := ⟨n - 1, by omega⟩
    have : i = N := by omega
    subst this
    rw [hE]
    congr 2
    funext j
    rw [if_neg (by omega)]
  | succ r ih =>
    intro n i a h0 h1 h2
    obtain ⟨n, rfl⟩ : ∃ k, n = k + 1 := ⟨n - 1, by omega⟩
    rw [hS n i a h0 (by omega), ih n (i + 1) _ (by omega) (by omega) (by omega)]
    congr 2
    funext j
    by_cases e : j = i
    · subst e
      rw [if_neg (by omega), if_pos (by omega), up_eq]
    · by_cases e2 : i + 1 ≤ j ∧ j < N
      · rw [if_pos e2, if_pos (by omega), up_ne (by omega)]
      · rw [if_neg e2, if_neg (by omega), up_ne e]
/-! history -/
def HR (nx ct : Int32) (sv : Nat → sv_T) (ps : Int32) (past : Nat → Int32) : Prop := ∃ n m : Nat, nx = zI n ∧ n < 6 ∧ ct = zI m ∧ ps = zI m ∧ m ≤ 6 ∧ ∀ i, i < m → SRE (sv ((n + 5 - i) % 6)) (fun k => past (227 * (m - 1 - i) + k))
def hld (s aside : Nat → Int32) : Nat → Int32 := fun j => if j < 227 then s j else aside j
theorem hld_lt {s aside : Nat → Int32} {j : Nat} (h : j < 227) : hld s aside j = s j := if_pos h
theorem r_hold {fuel : Nat} (hf : 5000 ≤ fuel) (aside s : Nat → Int32) : f_X9_hold fuel aside s = some (hld s aside) := by
  unfold f_X9_hold
  have h := mt_fillo (F := f_X9_hold_L2 s) (N := 227) (o := 0) (g := s) (fun n a => by rw [f_X9_hold_L2, if_pos (by decide)]) (fun n i a hi => by
    rw [f_X9_hold_L2, if_neg (by rw [show (227 : Int32) = zI ((227 : Nat) : Int) from rfl, mt_len (by omega) (by omega)]; omega), if_pos (mt_ixn hi (by omega)), if_pos (mt_ixn hi (by omega)), mt_cln (by omega), mt_s1, Nat.zero_add]) 227 fuel 0 aside (by omega) (by omega)
  rw [show zI ((0 : Nat) : Int) = 0 from rfl] at h
  rw [h, Option.bind_some]
  congr 1
  funext j
  unfold hld
  dsimp only
  by_cases h : j < 227
  · rw [if_pos (by omega), if_pos h, Nat.sub_zero]
  · rw [if_neg (by omega), if_neg h]
theorem r_restore {fuel : Nat} (hf : 5000 ≤ fuel) (aside s : Nat → Int32) : f_X9_restore fuel aside s = some (hld aside s) := by
  unfold f_X9_restore
  have h := mt_fillo (F := f_X9_restore_L2 aside) (N := 227) (o := 0) (g := aside) (fun n a => by rw [f_X9_restore_L2, if_pos (by decide)]) (fun n i a hi => by
    rw [f_X9_restore_L2, if_neg (by rw [show (227 : Int32) = zI ((227 : Nat) : Int) from rfl, mt_len (by omega) (by omega)]; omega), if_pos (mt_ixn hi (by omega)), if_pos (mt_ixn hi (by omega)), mt_cln (by omega), mt_s1, Nat.zero_add]) 227 fuel 0 s (by omega) (by omega)
  rw [show zI ((0 : Nat) : Int) = 0 from rfl] at h
  rw [h, Option.bind_some]
  congr 1
  funext j
  unfold hld
  dsimp only
  by_cases h : j < 227
  · rw [if_pos (by omega), if_pos h, Nat.sub_zero]
  · rw [if_neg (by omega), if_neg h]
def pst (m : Nat) (aside past : Nat → Int32) : Nat → Int32 := fun j => if 227 * m ≤ j ∧ j < 227 * m + 227 then aside (j - 227 * m) else past j
theorem mt_227 (m i : Nat) : 227 * zI m + zI i = zI ((227 * m + i : Nat) : Int) := by
  rw [show (227 : Int32) = zI 227 from rfl, zI_mul, zI_add]; congr 1
theorem r_ends50 {fuel m : Nat} (hf : 5000 ≤ fuel) (hm : m < 6) (aside past : Nat → Int32) (x : Int32) : f_X9_ends_J50 fuel (zI m) aside past x = some (x, zI ((m + 1 : Nat) : Int), pst m aside past) := by
  unfold f_X9_ends_J50
  have h := mt_fillo (F := f_X9_ends_L52 (zI m) aside) (N := 227) (o := 227 * m) (g := aside) (fun n a => by rw [f_X9_ends_L52, if_pos (by decide)]) (fun n i a hi => by
    rw [f_X9_ends_L52, if_neg (by rw [show (227 : Int32) = zI ((227 : Nat) : Int) from rfl, mt_len (by omega) (by omega)]; omega), if_pos (mt_ixn hi (by omega)), mt_227, if_pos (mt_ixn (by omega) (by omega)), mt_cln (by omega), mt_cln (by omega), mt_s1]) 227 fuel 0 past (by omega) (by omega)
  rw [show zI ((0 : Nat) : Int) = 0 from rfl] at h
  rw [h, Option.bind_some, mt_s1]
  rfl
def psh (past : Nat → Int32) : Nat → Int32 := fun j => if j < 1135 then past (j + 227) else past j
theorem r_ends {fuel m : Nat} (hf : 5000 ≤ fuel) (hm : m ≤ 6) (aside past : Nat → Int32) (x : Int32) : f_X9_ends fuel (zI m) aside past x = if m = 6 then some (x, zI ((6 : Nat) : Int), pst 5 aside (psh past)) else some (x, zI ((m + 1 : Nat) : Int), pst m aside past) := by
  unfold f_X9_ends
  rw [show (6 : Int32) = zI ((6 : Nat) : Int) from rfl]
  simp (disch := omega) only [mt_eqn]
  by_cases h6 : m = 6
  · subst h6
    rw [if_pos rfl, if_pos rfl]
    have h := mt_shift (F := f_X9_ends_L11) (N := 1135) (d := 227) (by omega) 0 (fun n a => by rw [f_X9_ends_L11, if_pos (by decide)]) (fun n i a _ hi => by
      rw [f_X9_ends_L11, if_neg (by rw [show (1135 : Int32) = zI ((1135 : Nat) : Int) from rfl, mt_len (by omega) (by omega)]; omega), show (227 : Int32) = zI ((227 : Nat) : Int) from rfl, mt_p, if_pos (mt_ixn (by omega) (by omega)), if_pos (mt_ixn (by omega) (by omega)), mt_cln (by omega), mt_cln (by omega), mt_s1]) 1135 fuel 0 past (by omega) (by omega) (by omega)
    rw [show zI ((0 : Nat) : Int) = 0 from rfl] at h
    rw [h, Option.bind_some, show zI ((6 : Nat) : Int) - 1 = zI ((5 : Nat) : Int) from by decide, r_ends50 hf (by omega)]
    unfold psh
    simp only [Nat.zero_le, true_and]
  · rw [if_neg h6, if_neg h6, r_ends50 hf (by omega)]
theorem c_save {v : sv_T} {s : Nat → Int32} {n : Nat} (hn : n < 6) (h : SRE v s) (ct : Int32) (sv : Nat → sv_T) : ∃ v' : sv_T, SRE v' s ∧ f_X3_save v (zI n) ct sv = some (zI (((n + 1) % 6 : Nat) : Int), mg_mn (ct + 1) 6, va_up sv n v') := by
  obtain ⟨W, L, nl, nb, nr, D, a, b, h⟩ := h
  rcases (show n = 0 ∨ n = 1 ∨ n = 2 ∨ n = 3 ∨ n = 4 ∨ n = 5 by omega) with rfl | rfl | rfl | rfl | rfl | rfl
  · obtain ⟨v', e, h'⟩ := c_copy h (sv 0).2.2.2.2.2.1 (sv 0).2.2.2.2.2.2.2.1 (sv 0).2.2.2.2.2.2.2.2.2.1 (sv 0).2.2.2.2.2.2.2.2.2.2.1 (sv 0).2.2.2.2.2.2.2.2.2.2.2.2.2.2.1 (sv 0).2.2.2.2.2.2.2.2.2.2.2.2.2.2.2.2
    refine ⟨v', ⟨W, L, nl, nb, nr, D, a, b, h'⟩, ?_⟩
    unfold f_X3_save
    rw [mt_fm (by omega), Option.bind_some, if_pos (by decide), e, Option.bind_some, mt_fms (by omega)]
    rfl
  · obtain ⟨v', e, h'⟩ := c_copy h (sv 1).2.2.2.2.2.1 (sv 1).2.2.2.2.2.2.2.1 (sv 1).2.2.2.2.2.2.2.2.2.1 (sv 1).2.2.2.2.2.2.2.2.2.2.1 (sv 1).2.2.2.2.2.2.2.2.2.2.2.2.2.2.1 (sv 1).2.2.2.2.2.2.2.2.2.2.2.2.2.2.2.2
    refine ⟨v', ⟨W, L, nl, nb, nr, D, a, b, h'⟩, ?_⟩
    unfold f_X3_save
    rw [mt_fm (by omega), Option.bind_some, if_neg (by decide), if_pos (by decide), e, Option.bind_some, mt_fms (by omega)]
    rfl
  · obtain ⟨v', e, h'⟩ := c_copy h (sv 2).2.2.2.2.2.1 (sv 2).2.2.2.2.2.2.2.1 (sv 2).2.2.2.2.2.2.2.2.2.1 (sv 2).2.2.2.2.2.2.2.2.2.2.1 (sv 2).2.2.2.2.2.2.2.2.2.2.2.2.2.2.1 (sv 2).2.2.2.2.2.2.2.2.2.2.2.2.2.2.2.2
    refine ⟨v', ⟨W, L, nl, nb, nr, D, a, b, h'⟩, ?_⟩
    unfold f_X3_save
    rw [mt_fm (by omega), Option.bind_some, if_neg (by decide), if_neg (by decide), if_pos (by decide), e, Option.bind_some, mt_fms (by omega)]
    rfl
  · obtain ⟨v', e, h'⟩ := c_copy h (sv 3).2.2.2.2.2.1 (sv 3).2.2.2.2.2.2.2.1 (sv 3).2.2.2.2.2.2.2.2.2.1 (sv 3).2.2.2.2.2.2.2.2.2.2.1 (sv 3).2.2.2.2.2.2.2.2.2.2.2.2.2.2.1 (sv 3).2.2.2.2.2.2.2.2.2.2.2.2.2.2.2.2
    refine ⟨v', ⟨W, L, nl, nb, nr, D, a, b, h'⟩, ?_⟩
    unfold f_X3_save
    rw [mt_fm (by omega), Option.bind_some, if_neg (by decide), if_neg (by decide), if_neg (by decide), if_pos (by decide), e, Option.bind_some, mt_fms (by omega)]
    rfl
  · obtain ⟨v', e, h'⟩ := c_copy h (sv 4).2.2.2.2.2.1 (sv 4).2.2.2.2.2.2.2.1 (sv 4).2.2.2.2.2.2.2.2.2.1 (sv 4).2.2.2.2.2.2.2.2.2.2.1 (sv 4).2.2.2.2.2.2.2.2.2.2.2.2.2.2.1 (sv 4).2.2.2.2.2.2.2.2.2.2.2.2.2.2.2.2
    refine ⟨v', ⟨W, L, nl, nb, nr, D, a, b, h'⟩, ?_⟩
    unfold f_X3_save
    rw [mt_fm (by omega), Option.bind_some, if_neg (by decide), if_neg (by decide), if_neg (by decide), if_neg (by decide), if_pos (by decide), e, Option.bind_some, mt_fms (by omega)]
    rfl
  · obtain ⟨v', e, h'⟩ := c_copy h (sv 5).2.2.2.2.2.1 (sv 5).2.2.2.2.2.2.2.1 (sv 5).2.2.2.2.2.2.2.2.2.1 (sv 5).2.2.2.2.2.2.2.2.2.2.1 (sv 5).2.2.2.2.2.2.2.2.2.2.2.2.2.2.1 (sv 5).2.2.2.2.2.2.2.2.2.2.2.2.2.2.2.2
    refine ⟨v', ⟨W, L, nl, nb, nr, D, a, b, h'⟩, ?_⟩
    unfold f_X3_save
    rw [mt_fm (by omega), Option.bind_some, if_neg (by decide), if_neg (by decide), if_neg (by decide), if_neg (by decide), if_neg (by decide), if_pos (by decide), e, Option.bind_some, mt_fms (by omega)]
    rfl
theorem push {v : sv_T} {s past : Nat → Int32} {nx ct ps : Int32} {sv : Nat → sv_T} {fuel : Nat} (hf : 5000 ≤ fuel) (h : SRE v s) (hH : HR nx ct sv ps past) (aside : Nat → Int32) : ∃ (nx' ct' ps' : Int32) (sv' : Nat → sv_T) (past' : Nat → Int32), f_X3_save v nx ct sv = some (nx', ct', sv') ∧ (∀ x, f_X9_ends fuel ps (hld s aside) past x = some (x, ps', past')) ∧ HR nx' ct' sv' ps' past' := by
  obtain ⟨n, m, rfl, hn, rfl, rfl, hm, hall⟩ := hH
  obtain ⟨v', hv', e⟩ := c_save hn h (zI m) sv
  by_cases h6 : m = 6
  · subst h6
    refine ⟨_, _, zI ((6 : Nat) : Int), _, pst 5 (hld s aside) (psh past), e, fun x => by rw [r_ends hf hm, if_pos rfl], (n + 1) % 6, 6, rfl, by omega, by decide, rfl, by omega, ?_⟩
    intro i hi
    by_cases hi0 : i = 0
    · subst hi0
      have : ((n + 1) % 6 + 5 - 0) % 6 = n := by omega
      rw [this]
      unfold va_up
      rw [if_pos rfl]
      refine SRE_c ?_ hv'
      intro k hk
      unfold pst
      rw [if_pos (by omega), show 227 * (6 - 1 - 0) + k - 227 * 5 = k by omega, hld_lt hk]
    · have h1 : ((n + 1) % 6 + 5 - i) % 6 = (n + 5 - (i - 1)) % 6 := by omega
      have h2 : ¬ (n + 5 - (i - 1)) % 6 = n := by omega
      rw [h1]
      unfold va_up
      rw [if_neg h2]
      refine SRE_c ?_ (hall (i - 1) (by omega))
      intro k hk
      unfold pst psh
      rw [if_neg (by omega), if_pos (by omega)]
      congr 1; omega
  · refine ⟨_, _, zI ((m + 1 : Nat) : Int), _, pst m (hld s aside) past, e, fun x => by rw [r_ends hf hm, if_neg h6], (n + 1) % 6, m + 1, rfl, by omega, ?_, rfl, by omega, ?_⟩
    · unfold mg_mn
      rw [mt_s1, show (6 : Int32) = zI ((6 : Nat) : Int) from rfl, if_neg (by rw [mt_ltn (by omega) (by omega)]; omega)]
    intro i hi
    by_cases hi0 : i = 0
    · subst hi0
      have : ((n + 1) % 6 + 5 - 0) % 6 = n := by omega
      rw [this]
      unfold va_up
      rw [if_pos rfl]
      refine SRE_c ?_ hv'
      intro k hk
      unfold pst
      rw [if_pos (by omega), show 227 * (m + 1 - 1 - 0) + k - 227 * m = k by omega, hld_lt hk]
    · have h1 : ((n + 1) % 6 + 5 - i) % 6 = (n + 5 - (i - 1)) % 6 := by omega
      have h2 : ¬ (n + 5 - (i - 1)) % 6 = n := by omega
      rw [h1]
      unfold va_up
      rw [if_neg h2]
      refine SRE_c ?_ (hall (i - 1) (by omega))
      intro k hk
      unfold pst
      rw [if_neg (by omega)]
      congr 1; omega
