theorem mg_mix_none : ∀ (w : va_W), mg_mix w (List.replicate w.length none) [] = w
  | [] => rfl
  | c :: w => by
    show mg_pk [] c none :: mg_mix w (List.replicate w.length none) [] = c :: w
    rw [mg_mix_none w]; rfl
theorem mg_ok_none (n : Nat) : mg_ok [] (List.replicate n none) = true := by
  unfold mg_ok
  rw [List.all_eq_true]
  intro j hj
  have hj' : j < n := by simpa using hj
  have e : (List.replicate n (none : Option Nat))[j]? = some none := by
    rw [List.getElem?_replicate]; simp [hj']
  rw [e]; rfl
section MS
variable {z : mg_Z} {k : mg_K} {A : Nat → Prop} {nL h kc ks : Nat} {cc : ByteArray} {own : String} {Q : State → Prop} {w : va_W} {lv : List (Nat × Value)} {pc : Nat} {st : List Value}
theorem mg_gets (C : mg_C z k A nL h kc ks cc own) {idx : Nat} (hl : Cond.fieldLink own idx "java/lang/String" "COMPACT_STRINGS" "Z" ∈ lw_g) (d : decode cc pc = .ok (.getstatic idx, 3)) (g : mg z k A nL kc ks Q w lv (pc + 3) (.int 1 :: st)) : mg z k A nL kc ks Q w lv pc st := fun H locs ls hP hD hS hl0 => va_gets C.1 C.2.1 C.2.2.2.2.2.2.2.2.2.2.2.2.2.2.1 hS C.2.2.2.1 (C.2.2.2.2.1 _ hl) (fun _ h9 => h9) d (g H locs ls hP hD hS hl0)
theorem mg_getsq (C : mg_C z k A nL h kc ks cc own) {idx : Nat} (hl : Cond.fieldLink own idx "jdk/internal/util/Preconditions" "SIOOBE_FORMATTER" "Ljava/util/function/BiFunction;" ∈ lw_g) (d : decode cc pc = .ok (.getstatic idx, 3)) (g : ∀ v : Value, (v = .null ∨ ∃ t, v = .ref t) → mg z k A nL kc ks Q w lv (pc + 3) (v :: st)) : mg z k A nL kc ks Q w lv pc st := by
  intro H locs ls hP hD hS hl0
  rcases C.2.2.2.2.2.2.2.2.2.2.2.2.2.2.2 with hZ | ⟨t, hZ⟩
  · exact va_gets C.1 C.2.1 hZ hS C.2.2.2.1 (C.2.2.2.2.1 _ hl) (fun _ h9 => h9) d (g _ (Or.inl rfl) H locs ls hP hD hS hl0)
  · exact va_gets C.1 C.2.1 hZ hS C.2.2.2.1 (C.2.2.2.2.1 _ hl) (fun _ h9 => h9) d (g _ (Or.inr ⟨t, rfl⟩) H locs ls hP hD hS hl0)
theorem mg_getSv (C : mg_C z k A nL h kc ks cc own) {idx i : Nat} (hi : i < 6) (hl : Cond.fieldLink own idx "java/lang/String" "value" "[B" ∈ lw_g) (d : decode cc pc = .ok (.getfield idx, 3)) (g : mg z k A nL kc ks Q w lv (pc + 3) (.ref (k.2.2.2.2.2 i) :: st)) : mg z k A nL kc ks Q w lv pc (.ref (k.2.2.2.2.1 i) :: st) := fun H locs ls hP hD hS hl0 => vk_getf C.1 C.2.1 (C.2.2.2.2.2.2.2.2.2.2.2.2.2.1.1 i hi).2.2.1 hS C.2.2.2.1 (C.2.2.2.2.1 _ hl) (fun _ h9 => h9) d (g H locs ls hP hD hS hl0)
theorem mg_getSc (C : mg_C z k A nL h kc ks cc own) {idx i : Nat} (hi : i < 6) (hl : Cond.fieldLink own idx "java/lang/String" "coder" "B" ∈ lw_g) (d : decode cc pc = .ok (.getfield idx, 3)) (g : mg z k A nL kc ks Q w lv (pc + 3) (.int 0 :: st)) : mg z k A nL kc ks Q w lv pc (.ref (k.2.2.2.2.1 i) :: st) := fun H locs ls hP hD hS hl0 => vk_getf C.1 C.2.1 (C.2.2.2.2.2.2.2.2.2.2.2.2.2.1.1 i hi).2.1 hS C.2.2.2.1 (C.2.2.2.2.1 _ hl) (fun _ h9 => h9) d (g H locs ls hP hD hS hl0)
theorem mg_alenS (C : mg_C z k A nL h kc ks cc own) {i : Nat} (hi : i < 6) (d : decode cc pc = .ok (.arraylength, 1)) (g : mg z k A nL kc ks Q w lv (pc + 1) (.int (Int32.ofNat (mg_sl.getD i 0)) :: st)) : mg z k A nL kc ks Q w lv pc (.ref (k.2.2.2.2.2 i) :: st) := fun H locs ls hP hD hS hl0 => va_tlen C.1 C.2.1 (C.2.2.2.2.2.2.2.2.2.2.2.2.2.1.1 i hi).2.2.2 hS rfl d (g H locs ls hP hD hS hl0)
theorem mg_baldS (C : mg_C z k A nL h kc ks cc own) {i : Nat} {x : Int32} (hi : i < 6) (hx : mg_ix x (mg_sl.getD i 0) = true) (d : decode cc pc = .ok (.baload, 1)) (g : mg z k A nL kc ks Q w lv (pc + 1) (.int ((mg_sb.getD i []).getD x.toNatClampNeg 0) :: st)) : mg z k A nL kc ks Q w lv pc (.int x :: .ref (k.2.2.2.2.2 i) :: st) := fun H locs ls hP hD hS hl0 => va_tb C.1 C.2.1 (C.2.2.2.2.2.2.2.2.2.2.2.2.2.1.1 i hi).2.2.2 hS (mg_ix_in hx) rfl d (g H locs ls hP hD hS hl0)
theorem mg_ishr (C : mg_C z k A nL h kc ks cc own) {x y : Int32} (d : decode cc pc = .ok (.ishr, 1)) (g : mg z k A nL kc ks Q w lv (pc + 1) (.int (x >>> (y &&& 31)) :: st)) : mg z k A nL kc ks Q w lv pc (.int y :: .int x :: st) := fun H locs ls hP hD hS hl => lv_ishr C.1 C.2.1 d (g H locs ls hP hD hS hl)
theorem mg_ldcS (C : mg_C z k A nL h kc ks cc RX6) {idx : Nat} {tx : String} (i : Nat) (hi : mg_sr[i]? = some (idx, tx)) (d : decode cc pc = .ok (.ldc idx, 2)) (g : mg z k A nL kc ks Q w lv (pc + 2) (.ref (k.2.2.2.2.1 i) :: st)) : mg z k A nL kc ks Q w lv pc st := fun H locs ls hP hD hS hl => va_ldcS C.1 C.2.1 C.2.2.2.1 (C.2.2.2.2.2.2.2.2.2.2.2.2.1 i _ hi) d (g H locs ls hP hD hS hl)
theorem mg_callVS (C : mg_C z k A nL h kc ks cc own) {y : MethodName} {cy : ByteArray} {ny n hc idx i : Nat} {ret : Option FieldType} {as : List Value} {r : Value} (hM : mg_M z.2.1 y cy ny ret hc k (.ref (k.2.2.2.2.1 i) :: as) [] [] (some r)) (hi : i < 6) (Y : mg_Y y cy ny ret n) (hm : Cond.methodLink own idx y ∈ lw_g) (hh : hc < h) (hn : as.length = n) (hy : y.cls = "java/lang/String") {rest st0 : List Value} (hst : (rest.map fun v => v.category).sum ≤ 8) (h0 : as.reverse ++ .ref (k.2.2.2.2.1 i) :: rest = st0) (d : decode cc pc = .ok (.invokevirtual idx, 3)) (g : mg z k A nL kc ks Q w lv (pc + 3) (r :: rest)) : mg z k A nL kc ks Q w lv pc st0 := by
  intro H locs ls hP hD hS hl
  have hF := C.2.2.2.2.2.2.2.1
  have hL := C.2.2.2.2.2.2.2.2.1
  subst h0
  have hts := C.2.2.2.2.1
  refine mg_core (va_runV (Ts := lw_g) (own := own) (C := y.cls) (b := k.2.2.2.2.1 i) (As := as) (n := n) ⟨C.1, C.2.1, C.2.2.1, C.2.2.2.1, hts⟩ (hM H.size) ⟨callB_of n hts (mg_good Y.2.2.2.1) rfl rfl rfl (hts _ Y.2.2.1) (hts _ hm) Y.2.2.2.2.1 ⟨?_, ?_⟩, hts _ Y.1, hts _ Y.2.1⟩ ⟨mg_blind, ?_, mg_pre hP hD C.2.2.2.2.2.1 hS C.2.2.2.2.2.2.1 C.2.2.2.2.2.2.2.2.2.2.2 [] rfl rfl⟩ rfl hn hl.1 rfl (lv_room hst) d ⟨C.2.2.2.2.2.2.2.2.2.1, C.2.2.2.2.2.2.2.2.2.2.1⟩) hP hD hS hl C.2.2.2.2.2.2.1 [] rfl rfl (mg_ok_none w.length) (by rw [mg_mix_none]; exact g)
  · show hc + 1 ≤ _
    omega
  · show 8 + (ny + 11) + 40 * hc ≤ _
    have := Y.2.2.2.2.2
    omega
  · rw [hy]
    exact vk_recv C.2.2.2.2.2.2.2.2.2.2.2.2.2.1 hi hS
end MS
theorem mg_Mg {l : Launch} {y : MethodName} {cy : ByteArray} {n h : Nat} {k : mg_K} {as : List Value} {w w' : va_W} {r : Int32} {ty : FieldType} (own : String) (lv : List (Nat × Value)) (hr : narrow ty (.int r) = .int r) (hy : plainFor y = true) (hown : y.cls = own) (hlv : lv_args 0 as = lv) (hn : (lg_sl as).length ≤ n) (body : ∀ (z : mg_Z) (A : Nat → Prop) (Q : State → Prop), z.2.1 = l → mg_C z k A n h 0 0 cy own → mg_E z k A n 0 0 Q cy w' .ireturn [.int r] → mg z k A n 0 0 Q w lv 0 []) : mg_M l y cy n (some ty) h k as w w' (some (.int r)) := by
  intro sz
  refine va_MetF (cc := cy) (maxL := n) (ret := some ty) hy rfl ?_
  intro p e s m args below meth c s₁ B hml hv
  obtain ⟨rfl, hsz, hP, hK, hD0, hN⟩ := hv
  have hts : ∀ w ∈ lw_g, w.before as.toArray s = true := fun w hw => atoms_spec (ws := Cond.code y cy n (some ty) :: lw_g) B.pre w (List.mem_cons_of_mem _ hw)
  have hfc : s.vm.findClass y.cls = some m.cls := findClass_of_methodNamed B.named
  subst hsz
  subst hown
  rw [lg_entry_eq]
  refine body (p, l, e, _, s, m, as.toArray, below, meth, c) (va_A w s.heap.size) _ rfl ⟨B.exec, B.bytes, hml, hfc, hts, hK, fun q hq => Or.inr hq, Nat.le_refl _, Nat.le_refl _, Nat.zero_le _, Nat.zero_le _, hN⟩ ?_ s.heap [] _ hP hD0.self va_S.rf (hlv ▸ lv_entry as hn)
  intro pc lv2 d H locs ls hP1 hD1 hS1 hl1
  exact W.zret B.exec B.bytes B.returns hr (fun t ht hW => ⟨rfl, by rw [ht]; exact hP1, hD1, hS1.F ht⟩) hS1.2.2 d (hlocks := B.notSynchronized)
def mg_ch (i : Nat) (x : Int32) : Int32 := (((mg_sb.getD i []).getD x.toNatClampNeg 0 &&& 255).toUInt32 % 65536).toInt32
theorem Y_J0_coder_7d493 : mg_Y yJ0_coder_7d493 cJ0_coder_7d493 1 (some .byte) 0 := ⟨wm_360, wm_361, wm_12, wm_362, ⟨by decide +kernel, by decide +kernel, by decide +kernel⟩, by decide⟩
theorem Y_J0_isLatin1_aae02 : mg_Y yJ0_isLatin1_aae02 cJ0_isLatin1_aae02 1 (some .boolean) 0 := ⟨wm_370, wm_371, wm_12, wm_372, ⟨by decide +kernel, by decide +kernel, by decide +kernel⟩, by decide⟩
theorem Y_J0_length_8abf5 : mg_Y yJ0_length_8abf5 cJ0_length_8abf5 1 (some .int) 0 := ⟨wm_356, wm_357, wm_12, wm_358, ⟨by decide +kernel, by decide +kernel, by decide +kernel⟩, by decide⟩
theorem Y_J0_charAt_5068e : mg_Y yJ0_charAt_5068e cJ0_charAt_5068e 2 (some .char) 1 := ⟨wm_366, wm_367, wm_12, wm_368, ⟨by decide +kernel, by decide +kernel, by decide +kernel⟩, by decide⟩
theorem Y_J0_checkIndex_df160 : mg_YS yJ0_checkIndex_df160 cJ0_checkIndex_df160 2 none 2 := ⟨wm_377, wm_12, wm_378, ⟨by decide +kernel, by decide +kernel, by decide +kernel⟩, by decide⟩
theorem Y_J1_charAt_3b067 : mg_YS yJ1_charAt_3b067 cJ1_charAt_3b067 2 (some .char) 2 := ⟨wm_374, wm_13, wm_375, ⟨by decide +kernel, by decide +kernel, by decide +kernel⟩, by decide⟩
theorem Y_J3_checkIndex_8e157 : mg_YS yJ3_checkIndex_8e157 cJ3_checkIndex_8e157 3 (some .int) 3 := ⟨wm_382, wm_14, wm_383, ⟨by decide +kernel, by decide +kernel, by decide +kernel⟩, by decide⟩
theorem c_J0_coder (l : Launch) (k : mg_K) (i : Nat) (hi : i < 6) : mg_M l yJ0_coder_7d493 cJ0_coder_7d493 1 (some .byte) 0 k [.ref (k.2.2.2.2.1 i)] [] [] (some (.int 0)) := by
  refine mg_Mg RJ0 [(0, .ref (k.2.2.2.2.1 i))] rfl (by decide +kernel) rfl rfl (Nat.le_of_ble_eq_true rfl) ?_
  intro z A Q hl C E
  subst hl
  refine mg_gets (pc := 0) C wm_363 dJ0_coder_7d493_0 ?_
  refine mg_if_eqF (pc := 3) (tgt := 13) C (by decide) dJ0_coder_7d493_3 (by decide) ?_
  refine mg_aload_n (pc := 6) C 0 dJ0_coder_7d493_6 rfl rfl ?_
  refine mg_getSc (pc := 7) C hi wm_1264 dJ0_coder_7d493_7 ?_
  refine mg_goto (pc := 10) (tgt := 14) C dJ0_coder_7d493_10 (by decide) ?_
  exact E _ _ dJ0_coder_7d493_14
theorem c_J0_isLatin1 (l : Launch) (k : mg_K) (i : Nat) (hi : i < 6) : mg_M l yJ0_isLatin1_aae02 cJ0_isLatin1_aae02 1 (some .boolean) 0 k [.ref (k.2.2.2.2.1 i)] [] [] (some (.int 1)) := by
  refine mg_Mg RJ0 [(0, .ref (k.2.2.2.2.1 i))] rfl (by decide +kernel) rfl rfl (Nat.le_of_ble_eq_true rfl) ?_
  intro z A Q hl C E
  subst hl
  refine mg_gets (pc := 0) C wm_363 dJ0_isLatin1_aae02_0 ?_
  refine mg_if_eqF (pc := 3) (tgt := 17) C (by decide) dJ0_isLatin1_aae02_3 (by decide) ?_
  refine mg_aload_n (pc := 6) C 0 dJ0_isLatin1_aae02_6 rfl rfl ?_
  refine mg_getSc (pc := 7) C hi wm_1264 dJ0_isLatin1_aae02_7 ?_
  refine mg_if_neT (pc := 10) (tgt := 17) C (by decide) dJ0_isLatin1_aae02_10 (by decide) ?_
  refine mg_iconst (pc := 13) C dJ0_isLatin1_aae02_13 (v := 1) (by decide) ?_
  refine mg_goto (pc := 14) (tgt := 18) C dJ0_isLatin1_aae02_14 (by decide) ?_
  exact E _ _ dJ0_isLatin1_aae02_18
theorem c_J0_length (l : Launch) (k : mg_K) (i : Nat) (hi : i < 6) : mg_M l yJ0_length_8abf5 cJ0_length_8abf5 1 (some .int) 1 k [.ref (k.2.2.2.2.1 i)] [] [] (some (.int (Int32.ofNat (mg_sl.getD i 0)))) := by
  refine mg_Mi RJ0 [(0, .ref (k.2.2.2.2.1 i))] (by decide +kernel) rfl rfl (Nat.le_of_ble_eq_true rfl) ?_
  intro z A Q hl C E
  subst hl
  refine mg_aload_n (pc := 0) C 0 dJ0_length_8abf5_0 rfl rfl ?_
  refine mg_getSv (pc := 1) C hi wm_1263 dJ0_length_8abf5_1 ?_
  refine mg_alenS (pc := 4) C hi dJ0_length_8abf5_4 ?_
  refine mg_aload_n (pc := 5) C 0 dJ0_length_8abf5_5 rfl rfl ?_
  refine mg_callVS (pc := 6) C (c_J0_coder z.2.1 k i hi) hi Y_J0_coder_7d493 wm_359 (by decide) rfl rfl (Nat.le_of_ble_eq_true rfl) rfl dJ0_length_8abf5_6 ?_
  refine mg_ishr (pc := 9) C dJ0_length_8abf5_9 ?_
  rw [sb_shr0]
  exact E _ _ dJ0_length_8abf5_10
theorem c_J3_checkIndex (l : Launch) (k : mg_K) (x n : Int32) (v : Value) (hv : v = .null ∨ ∃ t, v = .ref t) (h1 : ¬ x < 0) (h2 : x < n) : mg_M l yJ3_checkIndex_8e157 cJ3_checkIndex_8e157 3 (some .int) 0 k [.int x, .int n, v] [] [] (some (.int x)) := by
  refine mg_Mi RJ3 [(0, .int x), (1, .int n), (2, v)] (by decide +kernel) rfl (by rcases hv with rfl | ⟨t, rfl⟩ <;> rfl) (by rcases hv with rfl | ⟨t, rfl⟩ <;> exact Nat.le_of_ble_eq_true rfl) ?_
  intro z A Q hl C E
  subst hl
  refine mg_iload_n (pc := 0) C 0 dJ3_checkIndex_8e157_0 rfl rfl ?_
  refine mg_if_ltF (pc := 1) (tgt := 9) C h1 dJ3_checkIndex_8e157_1 (by decide) ?_
  refine mg_iload_n (pc := 4) C 0 dJ3_checkIndex_8e157_4 rfl rfl ?_
  refine mg_iload_n (pc := 5) C 1 dJ3_checkIndex_8e157_5 rfl rfl ?_
  refine mg_icmp_ltT (pc := 6) (tgt := 16) C h2 dJ3_checkIndex_8e157_6 (by decide) ?_
  refine mg_iload_n (pc := 16) C 0 dJ3_checkIndex_8e157_16 rfl rfl ?_
  exact E _ _ dJ3_checkIndex_8e157_17
theorem c_J0_checkIndex (l : Launch) (k : mg_K) (x n : Int32) (h1 : ¬ x < 0) (h2 : x < n) : mg_M l yJ0_checkIndex_df160 cJ0_checkIndex_df160 2 none 1 k [.int x, .int n] [] [] none := by
  refine mg_Mv RJ0 [(0, .int x), (1, .int n)] (by decide +kernel) rfl rfl (Nat.le_of_ble_eq_true rfl) ?_
  intro z A Q hl C E
  subst hl
  refine mg_iload_n (pc := 0) C 0 dJ0_checkIndex_df160_0 rfl rfl ?_
  refine mg_iload_n (pc := 1) C 1 dJ0_checkIndex_df160_1 rfl rfl ?_
  refine mg_getsq (pc := 2) C wm_379 dJ0_checkIndex_df160_2 (fun v hv => ?_)
  refine mg_callS (pc := 5) C (w2 := []) (c_J3_checkIndex z.2.1 k x n v hv h1 h2) Y_J3_checkIndex_8e157 wm_381 (by decide) rfl [] rfl (by decide) rfl [] (by decide) rfl (Nat.le_of_ble_eq_true rfl) rfl dJ0_checkIndex_df160_5 ?_
  refine mg_pop (pc := 8) C dJ0_checkIndex_df160_8 rfl ?_
  exact E _ _ dJ0_checkIndex_df160_9
theorem mg_ix_lt {x : Int32} {n : Nat} (hn : n < 2 ^ 31) (h : mg_ix x n = true) : ¬ x < 0 ∧ x < Int32.ofNat n := by
  simp only [mg_ix, Bool.and_eq_true, decide_eq_true_eq] at h
  have h0 : ¬ x < 0 := Int32.not_lt.mpr h.1
  obtain ⟨j, hj, rfl⟩ := nI_of h0
  rw [nI_clamp hj] at h
  exact ⟨h0, nI_lt h.2 hn⟩
theorem mg_sl_small : ∀ i, i < 6 → mg_sl.getD i 0 < 2 ^ 31 := by decide
theorem c_J1_charAt (l : Launch) (k : mg_K) (i : Nat) (hi : i < 6) (x : Int32) (hx : mg_ix x (mg_sl.getD i 0) = true) : mg_M l yJ1_charAt_3b067 cJ1_charAt_3b067 2 (some .char) 2 k [.ref (k.2.2.2.2.2 i), .int x] [] [] (some (.int (mg_ch i x))) := by
  refine mg_Mg RJ1 [(0, .ref (k.2.2.2.2.2 i)), (1, .int x)] (pk_nc _) (by decide +kernel) rfl rfl (Nat.le_of_ble_eq_true rfl) ?_
  intro z A Q hl C E
  subst hl
  obtain ⟨h1, h2⟩ := mg_ix_lt (mg_sl_small i hi) hx
  refine mg_iload_n (pc := 0) C 1 dJ1_charAt_3b067_0 rfl rfl ?_
  refine mg_aload_n (pc := 1) C 0 dJ1_charAt_3b067_1 rfl rfl ?_
  refine mg_alenS (pc := 2) C hi dJ1_charAt_3b067_2 ?_
  refine mg_callS (pc := 3) C (w2 := []) (c_J0_checkIndex z.2.1 k x (Int32.ofNat (mg_sl.getD i 0)) h1 h2) Y_J0_checkIndex_df160 wm_376 (by decide) rfl [] rfl (by decide) rfl [] (by decide) rfl (Nat.le_of_ble_eq_true rfl) rfl dJ1_charAt_3b067_3 ?_
  refine mg_aload_n (pc := 6) C 0 dJ1_charAt_3b067_6 rfl rfl ?_
  refine mg_iload_n (pc := 7) C 1 dJ1_charAt_3b067_7 rfl rfl ?_
  refine mg_baldS (pc := 8) C hi hx dJ1_charAt_3b067_8 ?_
  refine mg_sipush (pc := 9) C dJ1_charAt_3b067_9 (v := 255) (by decide) ?_
  refine mg_iand (pc := 12) C dJ1_charAt_3b067_12 ?_
  refine mg_i2c (pc := 13) C dJ1_charAt_3b067_13 ?_
  exact E _ _ dJ1_charAt_3b067_14
theorem c_J0_charAt (l : Launch) (k : mg_K) (i : Nat) (hi : i < 6) (x : Int32) (hx : mg_ix x (mg_sl.getD i 0) = true) : mg_M l yJ0_charAt_5068e cJ0_charAt_5068e 2 (some .char) 3 k [.ref (k.2.2.2.2.1 i), .int x] [] [] (some (.int (mg_ch i x))) := by
  refine mg_Mg RJ0 [(0, .ref (k.2.2.2.2.1 i)), (1, .int x)] (pk_nc _) (by decide +kernel) rfl rfl (Nat.le_of_ble_eq_true rfl) ?_
  intro z A Q hl C E
  subst hl
  refine mg_aload_n (pc := 0) C 0 dJ0_charAt_5068e_0 rfl rfl ?_
  refine mg_callVS (pc := 1) C (c_J0_isLatin1 z.2.1 k i hi) hi Y_J0_isLatin1_aae02 wm_369 (by decide) rfl rfl (Nat.le_of_ble_eq_true rfl) rfl dJ0_charAt_5068e_1 ?_
  refine mg_if_eqF (pc := 4) (tgt := 16) C (by decide) dJ0_charAt_5068e_4 (by decide) ?_
  refine mg_aload_n (pc := 7) C 0 dJ0_charAt_5068e_7 rfl rfl ?_
  refine mg_getSv (pc := 8) C hi wm_1263 dJ0_charAt_5068e_8 ?_
  refine mg_iload_n (pc := 11) C 1 dJ0_charAt_5068e_11 rfl rfl ?_
  refine mg_callS (pc := 12) C (w2 := []) (c_J1_charAt z.2.1 k i hi x hx) Y_J1_charAt_3b067 wm_373 (by decide) rfl [] rfl (by decide) rfl [] (by decide) rfl (Nat.le_of_ble_eq_true rfl) rfl dJ0_charAt_5068e_12 ?_
  exact E _ _ dJ0_charAt_5068e_15
