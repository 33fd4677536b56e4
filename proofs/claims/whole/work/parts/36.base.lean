/-! plain mathematics: loops that fill a row -/
theorem mt_lit (n : Nat) : (OfNat.ofNat n : Int32) = nI n := rfl
theorem mt_fill {F : Nat → Int32 → (Nat → Int32) → Option (Int32 × (Nat → Int32))} {N M : Nat} {g : Nat → Int32} (hF : ∀ (n : Nat) (x : Int32) (a : Nat → Int32), F (n + 1) x a = if nI N ≤ x then some (x, a) else if mg_ix x M = true then F n (x + 1) (upd a x.toNatClampNeg (g x.toNatClampNeg)) else none) (hNM : N ≤ M) (hM : M < 2 ^ 31) : ∀ (n i : Nat) (a : Nat → Int32), i ≤ N → N - i < n → F n (nI i) a = some (nI N, fun j => if i ≤ j ∧ j < N then g j else a j) := by
  intro n
  induction n with
  | zero => intro i a h1 h2; omega
  | succ n ih =>
    intro i a h1 h2
    rw [hF]
    by_cases h : i = N
    · subst h
      rw [if_pos (nI_le (Nat.le_refl _) (by omega))]
      congr 2
      funext j
      rw [if_neg (by omega)]
    · rw [if_neg (nI_ge (by omega) (by omega)), if_pos (mg_ix_nI (by omega) hM), nI_1, nI_clamp (by omega), ih (i + 1) _ (by omega) (by omega)]
      congr 2
      funext j
      by_cases e : j = i
      · subst e
        rw [if_neg (by omega), if_pos (by omega)]
        simp [upd]
      · simp only [upd, if_neg e]
        by_cases e2 : i + 1 ≤ j ∧ j < N
        · rw [if_pos e2, if_pos (by omega)]
        · rw [if_neg e2, if_neg (by omega)]
theorem mt_X4_clear {fuel : Nat} (hf : 5000 ≤ fuel) (a : Nat → Int32) : f_X4_clear fuel a = some (0, 0, 0, fun j => if j < 49 then 0 else a j) := by
  unfold f_X4_clear
  have e1 := mt_fill (F := f_X4_clear_L17) (N := 49) (M := 49) (g := fun _ => 0) (fun _ _ _ => rfl) (by omega) (by omega) fuel 0 a (by omega) (by omega)
  rw [show nI 0 = (0 : Int32) from rfl] at e1
  simp only [Option.bind_some, e1, Nat.zero_le, true_and]
theorem mt_X5_replaceCaisson {fuel : Nat} (hf : 5000 ≤ fuel) (a b c : Nat → Int32) (x y : Int32) : f_X5_replaceCaisson fuel a b c x y = some (x, y, (fun j => if j < 49 then 0 else a j), 0, (fun j => if j < 4 then 0 else b j), 0, 0, 0, fun j => if j < 49 then 0 else c j) := by
  unfold f_X5_replaceCaisson
  rw [mt_X4_clear hf]
  have e1 := mt_fill (F := f_X5_replaceCaisson_L29) (N := 49) (M := 49) (g := fun _ => 0) (fun _ _ _ => rfl) (by omega) (by omega) fuel 0 a (by omega) (by omega)
  have e2 := mt_fill (F := f_X5_replaceCaisson_L53) (N := 4) (M := 4) (g := fun _ => 0) (fun _ _ _ => rfl) (by omega) (by omega) fuel 0 b (by omega) (by omega)
  rw [show nI 0 = (0 : Int32) from rfl] at e1 e2
  simp only [Option.bind_some, f_X7_clear, e1, e2, Nat.zero_le, true_and]
theorem mt_X5_beginAnew {fuel : Nat} (hf : 5000 ≤ fuel) (a b c : Nat → Int32) : f_X5_beginAnew fuel a b c = some (5, 4, 600, 400, 400, (fun j => if j < 49 then 0 else a j), 0, 0, (fun j => if j < 4 then 0 else b j), 0, 0, 0, (fun j => if j < 49 then 0 else c j), 0) := by
  unfold f_X5_beginAnew
  rw [mt_X5_replaceCaisson hf]
  simp only [Option.bind_some, f_X7_clear]
theorem mt_X9_begins {fuel : Nat} (hf : 5000 ≤ fuel) (a : Nat → Int32) : f_X9_begins fuel a = some (upd (upd (upd (upd (upd (fun j => if j < 227 then 0 else a j) 0 5) 1 4) 5 600) 6 400) 7 400) := by
  unfold f_X9_begins
  have e1 := mt_fill (F := f_X9_begins_L2) (N := 227) (M := 227) (g := fun _ => 0) (fun _ _ _ => rfl) (by omega) (by omega) fuel 0 a (by omega) (by omega)
  rw [show nI 0 = (0 : Int32) from rfl] at e1
  simp only [Option.bind_some, e1, Nat.zero_le, true_and]
