/-! guarded reads and writes; floorMod of the place in the ring of saved states -/
theorem mt_bo {f : Nat → Int32} {n : Nat} (h : n < 49) : f_X4_bottomOf f (zI n) = some (f n) := by
  unfold f_X4_bottomOf
  rw [show (0 : Int32) = zI ((0 : Nat) : Int) from rfl, show (49 : Int32) = zI ((49 : Nat) : Int) from rfl, if_neg (by rw [mt_ltn (by omega) (by omega)]; omega), if_neg (by rw [mt_len (by omega) (by omega)]; omega), if_pos (mt_ixn (by omega) (by omega)), mt_cln (by omega)]
theorem mt_ba {f : Nat → Int32} {n : Nat} (h : n < 49) : f_X5_ballastOf f (zI n) = some (f n) := by
  unfold f_X5_ballastOf
  rw [show (0 : Int32) = zI ((0 : Nat) : Int) from rfl, show (49 : Int32) = zI ((49 : Nat) : Int) from rfl, if_neg (by rw [mt_ltn (by omega) (by omega)]; omega), if_neg (by rw [mt_len (by omega) (by omega)]; omega), if_pos (mt_ixn (by omega) (by omega)), mt_cln (by omega)]
theorem mt_pb {f : Nat → Int32} {n : Nat} {x : Int32} (h : n < 49) : f_X4_putBottom f (zI n) x = some (upd f n x) := by
  unfold f_X4_putBottom
  rw [show (0 : Int32) = zI ((0 : Nat) : Int) from rfl, show (49 : Int32) = zI ((49 : Nat) : Int) from rfl, if_neg (by rw [mt_ltn (by omega) (by omega)]; omega), if_neg (by rw [mt_len (by omega) (by omega)]; omega), if_pos (mt_ixn (by omega) (by omega)), mt_cln (by omega)]
theorem mt_pa {f : Nat → Int32} {n : Nat} {x : Int32} (h : n < 49) : f_X5_putBallast f (zI n) x = some (upd f n x) := by
  unfold f_X5_putBallast
  rw [show (0 : Int32) = zI ((0 : Nat) : Int) from rfl, show (49 : Int32) = zI ((49 : Nat) : Int) from rfl, if_neg (by rw [mt_ltn (by omega) (by omega)]; omega), if_neg (by rw [mt_len (by omega) (by omega)]; omega), if_pos (mt_ixn (by omega) (by omega)), mt_cln (by omega)]
theorem mt_fm {n : Nat} (h : n < 6) : f_J9_floorMod_7cf53 (zI n) 6 = some (zI n) := by
  rcases (show n = 0 ∨ n = 1 ∨ n = 2 ∨ n = 3 ∨ n = 4 ∨ n = 5 by omega) with rfl | rfl | rfl | rfl | rfl | rfl <;> decide +kernel
theorem mt_fms {n : Nat} (h : n < 6) : f_J9_floorMod_7cf53 (zI n + 1) 6 = some (zI (((n + 1) % 6 : Nat) : Int)) := by
  rcases (show n = 0 ∨ n = 1 ∨ n = 2 ∨ n = 3 ∨ n = 4 ∨ n = 5 by omega) with rfl | rfl | rfl | rfl | rfl | rfl <;> decide +kernel
theorem mt_fmp {n : Nat} (h : n < 6) : f_J9_floorMod_7cf53 (zI n - 1) 6 = some (zI (((n + 5) % 6 : Nat) : Int)) := by
  rcases (show n = 0 ∨ n = 1 ∨ n = 2 ∨ n = 3 ∨ n = 4 ∨ n = 5 by omega) with rfl | rfl | rfl | rfl | rfl | rfl <;> decide +kernel
