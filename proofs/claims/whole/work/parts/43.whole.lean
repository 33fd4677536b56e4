/-! THE CLAIM OUT OF ONE WALK OF THE LAW'S BODY. Your part is whole_start (and what it stands on); all else here is the same for every law, but numbers. -/
def R_law : String := "CaissonSinkerLaw"
def lw_P (b : Addr) (xs : List Int32) (args : Array Value) (s : State) : Prop := args = #[.ref b] ∧ s.IntsAt b xs ∧ xs.length ≤ 2048 ∧ (Jvm.Cond.and given_1 narrow_1).before args s = true
def lw_Q (_ : Array Value) (s : State) (o : Outcome) (t : State) : Prop := o = .returned (some (.int 1)) ∧ Framed s o t [] 600000 7302250
def lw_Z (below : List Frame) (a : Array Value) (s : State) : State → Prop := fun t => ∃ o, t.status = .running ∧ Ended t below o ∧ lw_Q a s o t
/-- the law's own end, with 1 on the stack, nothing written that was there before, its room as the claim has it -/
theorem lw_ret {p : Program} {l : Launch} {e : Env} {s : State} {m : MethodId} {below : List Frame} {meth : Method} {c : Code} {b : Nat} (hx : p.tables.exec = Jvm.exec) (hb : c.code = code) (hr : meth.sig.returnType = ret) (hlocks : meth.locks = false) {pc : Nat} {H : Heap} {ls : Array Slot} (hdg : decode code pc = .ok (.ireturn, 1)) : W p l e room_1 s m #[Value.ref b] below meth c H [] 600000 7302250 (lw_Z below #[Value.ref b] s) (F0 m pc ls [.int 1]) := by
  intro T hT X
  obtain ⟨fs, hret, hrun, hended, hW, hframe⟩ := X.leave (v := some (.int 1)) (hlocks := hlocks) (fun h => by rw [hr] at h; cases h)
  have hmeth' : T.vm.method? m = some meth := X.method'
  refine ⟨T.setFrames fs, ?_, .returned (some (.int 1)), hrun, hended, rfl, ⟨_, rfl⟩, hW, hframe⟩
  jvm_step X.here [X.here.top, hx, hb, hdg, hmeth', hr, ret, narrow_b1]
  (try refine ⟨rfl, ?_⟩); (try refine ⟨rfl, ?_⟩)
  first | (intro acts; rw [hret _ acts rfl rfl rfl]) | rw [hret _ _ rfl rfl rfl]
  exact Steps.refl _
/-- what holds at the law's entry: the machine, the code, the tables' words (any of lw_tbl by 'hts w (by decide +kernel)'), the script of L ints xs at the cell b, what the Statement gives of the start (any of its parts by flat_of_before) -/
def lw_At (p : Program) (s : State) (m : MethodId) (meth : Method) (c : Code) (b L : Nat) (xs : Nat → Int32) : Prop :=
  p.tables.exec = Jvm.exec ∧ c.code = code ∧ meth.sig.returnType = ret ∧ c.maxLocals = 4 ∧ s.vm.findClass R_law = some m.cls ∧ (∀ w ∈ lw_tbl, w.before #[Value.ref b] s = true) ∧ va_X b L xs s s.heap ∧ b < s.heap.size ∧ meth.locks = false ∧ (Jvm.Cond.and given_1 narrow_1).before #[Value.ref b] s = true
def mt_r0 : rs_T := (0, 0, 0, 0, 0, 0, 0, 0, (fun _ => 0), (fun _ => 0), (fun _ => 0), (fun _ => 0), (upd (upd (upd (upd (upd (fun j => if j < 227 then 0 else (fun _ => 0) j) 0 5) 1 4) 5 600) 6 400) 7 400), (fun _ => 0), (fun _ => 0))
def lw_tm (i : Nat) : Term := Term.string RX6 (([146, 152, 153, 154, 156, 158] : List Nat).getD i 0)
theorem mg_nw_in : ∀ w ∈ mg_nw, w ∈ lw_tbl := by decide +kernel
set_option maxRecDepth 100000 in
set_option maxHeartbeats 40000000 in
theorem lw_set {s : State} {b : Nat} (hts : ∀ w ∈ lw_tbl, w.before #[Value.ref b] s = true) (hgv : (Jvm.Cond.and given_1 narrow_1).before #[Value.ref b] s = true) : ∃ k : mg_K, va_K k.1 vwCl (mg_ty k) s ∧ mg_N k (fun q : Nat => s.heap.size ≤ q) s s.heap ∧ va_AO "CaissonSinker$Site" s := by
  have hg : ∀ w ∈ lw_g, w.before #[Value.ref b] s = true := fun w hw => hts w (List.mem_filter.mp hw).1
  have hs := flat_of_before _ hgv
  obtain ⟨c0, iS0, hKn0⟩ := u_known (C := RX0) (T := TX0) (N := 1) (n := 1) hg inX0 (hg _ wm_102)
  obtain ⟨c1, iS1, hKn1⟩ := u_known (C := RX1) (T := TX1) (N := 8) (n := 8) hg inX1 (hg _ wm_26)
  obtain ⟨c2, iS2, hKn2⟩ := u_known (C := RX2) (T := TX2) (N := 1) (n := 1) hg inX2 (hg _ wm_65)
  obtain ⟨c3, iS3, hKn3⟩ := u_known (C := RX3) (T := TX3) (N := 3) (n := 3) hg inX3 (hg _ wm_228)
  obtain ⟨c4, iS4, hKn4⟩ := u_known (C := RX4) (T := TX4) (N := 4) (n := 4) hg inX4 (hg _ wm_38)
  obtain ⟨c5, iS5, hKn5⟩ := u_known (C := RX5) (T := TX5) (N := 11) (n := 11) hg inX5 (hg _ wm_32)
  obtain ⟨c6, iS6, hKn6⟩ := u_known (C := RX6) (T := TX6) (N := 7) (n := 7) hg inX6 (hg _ wm_248)
  obtain ⟨c7, iS7, hKn7⟩ := u_known (C := RX7) (T := TX7) (N := 3) (n := 3) hg inX7 (hg _ wm_71)
  obtain ⟨c8, iS8, hKn8⟩ := u_known (C := RX8) (T := TX8) (N := 8) (n := 8) hg inX8 (hg _ wm_18)
  obtain ⟨c9, iS9, hKn9⟩ := u_known (C := RX9) (T := TX9) (N := 15) (n := 15) hg inX9 (hg _ wm_865)
  have hKc : ∀ (k : Nat) (q : vw_C), vwCl[k]? = some q → u_Kn s q.1 q.2.1 q.2.2 ((fun k => if k = 0 then c0 else if k = 1 then c1 else if k = 2 then c2 else if k = 3 then c3 else if k = 4 then c4 else if k = 5 then c5 else if k = 6 then c6 else if k = 7 then c7 else if k = 8 then c8 else c9) k) ((fun k => if k = 0 then iS0 else if k = 1 then iS1 else if k = 2 then iS2 else if k = 3 then iS3 else if k = 4 then iS4 else if k = 5 then iS5 else if k = 6 then iS6 else if k = 7 then iS7 else if k = 8 then iS8 else iS9) k) := by
    intro k q hq
    match k, hq with
    | 0, hq => cases hq; exact hKn0
    | 1, hq => cases hq; exact hKn1
    | 2, hq => cases hq; exact hKn2
    | 3, hq => cases hq; exact hKn3
    | 4, hq => cases hq; exact hKn4
    | 5, hq => cases hq; exact hKn5
    | 6, hq => cases hq; exact hKn6
    | 7, hq => cases hq; exact hKn7
    | 8, hq => cases hq; exact hKn8
    | 9, hq => cases hq; exact hKn9
    | k + 10, hq => simp [vwCl] at hq
  obtain ⟨cI, kI, coI, fI1, fI2, fI3⟩ := Cond.arrayClass_spec (args := #[Value.ref b]) (first := s) (s := s) (o := none) (idx := []) (hg _ wm_63)
  obtain ⟨cC, kC, coC, fC1, fC2, fC3⟩ := Cond.arrayClass_spec (args := #[Value.ref b]) (first := s) (s := s) (o := none) (idx := []) (hg _ wm_276)
  have hAO0 : (Cond.arrayOver (.object "CaissonSinker$Site")).before #[Value.ref b] s = true := hts _ wm_234
  obtain ⟨coS, cS, kS, fS1, -, fS2, fS3, fS4⟩ := Cond.arrayOver_spec (args := #[Value.ref b]) (first := s) (s := s) (o := none) (idx := []) hAO0
  obtain ⟨adK, adV, hZ, hEv⟩ := vk_Sof (args := #[Value.ref b]) (s := s) (A := (fun q : Nat => s.heap.size ≤ q)) (tm := lw_tm) (len := mg_sl) (byt := mg_sb) (N := 6) (fun i hi => mg_sl_small i hi)
    (fun i hi => match i, hi with | 0, _ => hs _ (by decide +kernel) | 1, _ => hs _ (by decide +kernel) | 2, _ => hs _ (by decide +kernel) | 3, _ => hs _ (by decide +kernel) | 4, _ => hs _ (by decide +kernel) | 5, _ => hs _ (by decide +kernel) | i + 6, h => absurd h (by omega))
    (fun i hi => match i, hi with | 0, _ => hs _ (by decide +kernel) | 1, _ => hs _ (by decide +kernel) | 2, _ => hs _ (by decide +kernel) | 3, _ => hs _ (by decide +kernel) | 4, _ => hs _ (by decide +kernel) | 5, _ => hs _ (by decide +kernel) | i + 6, h => absurd h (by omega))
    (fun i hi => match i, hi with | 0, _ => hs _ (by decide +kernel) | 1, _ => hs _ (by decide +kernel) | 2, _ => hs _ (by decide +kernel) | 3, _ => hs _ (by decide +kernel) | 4, _ => hs _ (by decide +kernel) | 5, _ => hs _ (by decide +kernel) | i + 6, h => absurd h (by omega))
    (fun i hi => match i, hi with | 0, _ => hs _ (by decide +kernel) | 1, _ => hs _ (by decide +kernel) | 2, _ => hs _ (by decide +kernel) | 3, _ => hs _ (by decide +kernel) | 4, _ => hs _ (by decide +kernel) | 5, _ => hs _ (by decide +kernel) | i + 6, h => absurd h (by omega))
    (fun i hi j hj => by
      rcases (show i = 0 ∨ i = 1 ∨ i = 2 ∨ i = 3 ∨ i = 4 ∨ i = 5 by omega) with rfl | rfl | rfl | rfl | rfl | rfl
      · rcases (show j = 0 ∨ j = 1 ∨ j = 2 ∨ j = 3 from by have hj : j < 4 := hj; omega) with rfl | rfl | rfl | rfl <;> exact hs _ (by decide +kernel)
      · rcases (show j = 0 ∨ j = 1 ∨ j = 2 ∨ j = 3 ∨ j = 4 ∨ j = 5 from by have hj : j < 6 := hj; omega) with rfl | rfl | rfl | rfl | rfl | rfl <;> exact hs _ (by decide +kernel)
      · rcases (show j = 0 ∨ j = 1 ∨ j = 2 ∨ j = 3 ∨ j = 4 from by have hj : j < 5 := hj; omega) with rfl | rfl | rfl | rfl | rfl <;> exact hs _ (by decide +kernel)
      · rcases (show j = 0 ∨ j = 1 ∨ j = 2 ∨ j = 3 ∨ j = 4 from by have hj : j < 5 := hj; omega) with rfl | rfl | rfl | rfl | rfl <;> exact hs _ (by decide +kernel)
      · rcases (show j = 0 ∨ j = 1 ∨ j = 2 ∨ j = 3 ∨ j = 4 from by have hj : j < 5 := hj; omega) with rfl | rfl | rfl | rfl | rfl <;> exact hs _ (by decide +kernel)
      · rcases (show j = 0 ∨ j = 1 ∨ j = 2 ∨ j = 3 ∨ j = 4 ∨ j = 5 ∨ j = 6 from by have hj : j < 7 := hj; omega) with rfl | rfl | rfl | rfl | rfl | rfl | rfl <;> exact hs _ (by decide +kernel))
    (fun i j hi hj hij => by
      rcases (show i = 0 ∨ i = 1 ∨ i = 2 ∨ i = 3 ∨ i = 4 ∨ i = 5 by omega) with rfl | rfl | rfl | rfl | rfl | rfl <;> rcases (show j = 0 ∨ j = 1 ∨ j = 2 ∨ j = 3 ∨ j = 4 ∨ j = 5 by omega) with rfl | rfl | rfl | rfl | rfl | rfl <;> first | exact absurd rfl hij | exact Or.inl (hs _ (by decide +kernel)) | exact Or.inr (hs _ (by decide +kernel)))
    (fun a h9 => Nat.not_le.mpr h9)
  refine ⟨((fun k => if k = 0 then c0 else if k = 1 then c1 else if k = 2 then c2 else if k = 3 then c3 else if k = 4 then c4 else if k = 5 then c5 else if k = 6 then c6 else if k = 7 then c7 else if k = 8 then c8 else c9, fun k => if k = 0 then iS0 else if k = 1 then iS1 else if k = 2 then iS2 else if k = 3 then iS3 else if k = 4 then iS4 else if k = 5 then iS5 else if k = 6 then iS6 else if k = 7 then iS7 else if k = 8 then iS8 else iS9), cI, cC, cS, adK, adV), ⟨hKc, fun k q hq => ?_⟩, ⟨?_, ?_, hZ, ?_, ?_⟩, hAO0⟩
  · match k, hq with
    | 0, hq => cases hq; exact ⟨fun N z => ⟨fun k h => (by cases h), kI, fI2, coI, fI3⟩, fI1⟩
    | 1, hq => cases hq; exact ⟨fun N z => ⟨fun k h => (by cases h), kC, fC2, coC, fC3⟩, fC1⟩
    | 2, hq => cases hq; exact ⟨fun N z => ⟨fun k h => (by cases h), kS, fS2, coS, fS3⟩, kS, coS, fS2, fS3, fS1, fS4⟩
    | k + 3, hq => simp [mg_ty] at hq
  · intro w hw
    exact va_Nw.of (mg_nw_on w hw) (hts w (mg_nw_in w hw))
  · intro i q hq
    match i, hq with
    | 0, hq => cases hq; exact vk_R.of (hts _ (by decide +kernel)) (hEv 0 (by decide))
    | 1, hq => cases hq; exact vk_R.of (hts _ (by decide +kernel)) (hEv 1 (by decide))
    | 2, hq => cases hq; exact vk_R.of (hts _ (by decide +kernel)) (hEv 2 (by decide))
    | 3, hq => cases hq; exact vk_R.of (hts _ (by decide +kernel)) (hEv 3 (by decide))
    | 4, hq => cases hq; exact vk_R.of (hts _ (by decide +kernel)) (hEv 4 (by decide))
    | 5, hq => cases hq; exact vk_R.of (hts _ (by decide +kernel)) (hEv 5 (by decide))
    | i + 6, hq => simp [mg_sr] at hq
  · exact va_Zof (hts _ (by decide +kernel)) (hts _ (by decide +kernel)) (va_eqi (hs _ (by decide +kernel))) (fun a h9 => Nat.not_le.mpr h9)
  · exact va_Zqof (hts _ (by decide +kernel)) (hts _ (by decide +kernel)) (hs _ (by decide +kernel)) (fun a h9 => Nat.not_le.mpr h9)
set_option maxRecDepth 100000 in
set_option maxHeartbeats 40000000 in
theorem whole_open (Cpl : cs_T → rs_T → Prop) (m_appendCharacter : MT_appendCharacter Cpl) (m_clearText : MT_clearText Cpl) (m_load : MT_load Cpl) (m_resize : MT_resize Cpl) (m_setWeight : MT_setWeight Cpl) (m_setStiffness : MT_setStiffness Cpl) (m_addLayer : MT_addLayer Cpl) (m_addBoulder : MT_addBoulder Cpl) (m_ground : MT_ground Cpl) (m_boulder : MT_boulder Cpl) (m_state : MT_state Cpl) (m_edge : MT_edge Cpl) (m_bottom : MT_bottom Cpl) (m_surplus : MT_surplus Cpl) (m_moment : MT_moment Cpl) (m_nextStep : MT_nextStep Cpl) (m_sideResistance : MT_sideResistance Cpl) (m_stuckDepth : MT_stuckDepth Cpl) (m_ballastNeeded : MT_ballastNeeded Cpl) (m_dig : MT_dig Cpl) (m_settle : MT_settle Cpl) (m_setBallast : MT_setBallast Cpl) (m_lubricate : MT_lubricate Cpl) (m_blast : MT_blast Cpl) (m_pump : MT_pump Cpl) (m_record : MT_record Cpl) (m_wouldSettle : MT_wouldSettle Cpl) (m_bestWell : MT_bestWell Cpl) (m_makePlan : MT_makePlan Cpl) (m_plan : MT_plan Cpl) (m_carryOut : MT_carryOut Cpl) (m_highSide : MT_highSide Cpl) (m_undo : MT_undo Cpl) (hC0 : ∀ c, mt_C0 c → Cpl c mt_r0) {p : Program} {e : Env} {s : State} {m : MethodId} {below : List Frame} {meth : Method} {c : Code} (l : Launch) (hflags : l.flags = flags0) {b L : Nat} {xs : Nat → Int32} (hL : L ≤ 2048) (C0 : lw_At p s m meth c b L xs) : W p l e room_1 s m #[Value.ref b] below meth c s.heap [] 0 0 (lw_Z below #[Value.ref b] s) (entryFrame m ([Value.ref b] : List Value).toArray 4) := by
  obtain ⟨hx, hb, hr, hml, hown, hts, hX, hbl, hlocks, hgv⟩ := id C0
  obtain ⟨k, hK, hN, hO⟩ := lw_set hts hgv
  have hg : ∀ w ∈ lw_g, w.before #[Value.ref b] s = true := fun w hw => hts w (List.mem_filter.mp hw).1
  have hbA : ¬ (fun q : Nat => s.heap.size ≤ q) b := Nat.not_le.mpr hbl
  have C : mg_C (p, l, e, room_1, s, m, #[Value.ref b], below, meth, c) k (fun q : Nat => s.heap.size ≤ q) 4 13 0 0 cL_law RL := ⟨hx, hb, hml, hown, hg, hK, fun _ h => h, Nat.le_of_ble_eq_true rfl, Nat.le_of_ble_eq_true rfl, Nat.zero_le _, Nat.zero_le _, hN⟩
  suffices G : mg (p, l, e, room_1, s, m, #[Value.ref b], below, meth, c) k (fun q : Nat => s.heap.size ≤ q) 4 0 0 (lw_Z below #[Value.ref b] s) [] [(0, .ref b)] 0 [] by
    rw [lg_entry_eq]
    exact G s.heap [] _ (fun k q h => by simp at h) ⟨fun i j p q h => by simp at h, fun k q h => by simp at h⟩ va_S.rf (lv_entry ([.ref b]) (n := 4) (Nat.le_of_ble_eq_true rfl))
  generalize hz : ((p, l, e, room_1, s, m, #[Value.ref b], below, meth, c) : mg_Z) = z at C ⊢
  have hRc : (mg_R z).cells = 600000 := by rw [← hz]; rfl
  have hRs : (mg_R z).slots = 7302250 := by rw [← hz]; rfl
  have hO : va_AO "CaissonSinker$Site" (mg_s z) := by rw [← hz]; exact hO
  have hX : va_X b L xs (mg_s z) (mg_s z).heap := by rw [← hz]; exact hX
  have hbl : b < (mg_s z).heap.size := by rw [← hz]; exact hbl
  refine mg_new (pc := 0) C (fs := [.null, .null, .null, .null, .null, .null, .null, .int 0]) (w2 := fun a_t => [(a_t, .inr (8, [.null, .null, .null, .null, .null, .null, .null, .int 0]))]) inX8 tyX8 tyX8_ok wm_17 wm_18 wm_1 rfl mt_dX8 (by rw [hRc]; exact Nat.le_of_ble_eq_true rfl) (by rw [hRs]; exact Nat.le_of_ble_eq_true rfl) (fun _ => rfl) dL_law_0 (fun a_t => ?_)
  have C := mg_Cup C (kc' := 1) (ks' := 8) (by rw [hRc]; exact Nat.le_of_ble_eq_true rfl) (by rw [hRs]; exact Nat.le_of_ble_eq_true rfl)
  refine mg_dup (pc := 3) C dL_law_3 rfl ?_
  refine mg_callI (pc := 4) C (wr := []) hO (i_X8 z.2.1 k a_t) YI_X8 wm_19 (by decide) rfl [0] [] rfl (by decide) rfl (by decide) (by decide) (by rw [hRc]; exact Nat.le_of_ble_eq_true rfl) (by rw [hRs]; exact Nat.le_of_ble_eq_true rfl) (Nat.le_of_ble_eq_true rfl) rfl dL_law_4 (fun w9 hw9 => ?_)
  have C := mg_Cup C (kc' := 119) (ks' := 2370) (by rw [hRc]; exact Nat.le_of_ble_eq_true rfl) (by rw [hRs]; exact Nat.le_of_ble_eq_true rfl)
  obtain ⟨a_t_forces, a_t_history, a_t_text, a_t_wellsToDig, a_t_imagined, a_t_forces_trial, a_t_forces_chosen, a_t_forces_chosen_bottoms, a_t_forces_trial_bottoms, a_t_history_saved, a_t_imagined_bottoms, a_t_text_characters, a_t_text_values, a_t_wellsToDig_values, b_t_forces_site, b_t_draft, b_t_history_saved, c0, rfl, hc0⟩ := hw9
  refine mg_astore_n (pc := 7) C (lv' := [(1, .ref a_t), (0, .ref b)]) dL_law_7 rfl (by decide) rfl ?_
  refine mg_new (pc := 8) C (fs := [.null, .null, .null, .int 0, .null, .int 0, .int 0, .int 0, .int 0, .int 0, .null, .null, .null, .int 0, .int 0]) (w2 := fun a_u => w_comp k a_t a_t_forces a_t_history a_t_text a_t_wellsToDig a_t_imagined a_t_forces_trial a_t_forces_chosen a_t_forces_chosen_bottoms a_t_forces_trial_bottoms a_t_history_saved a_t_imagined_bottoms a_t_text_characters a_t_text_values a_t_wellsToDig_values b_t_forces_site b_t_draft b_t_history_saved c0 ++ [(a_u, .inr (9, [.null, .null, .null, .int 0, .null, .int 0, .int 0, .int 0, .int 0, .int 0, .null, .null, .null, .int 0, .int 0]))]) inX9 tyX9 tyX9_ok wm_864 wm_865 wm_11 rfl mt_dX9 (by rw [hRc]; exact Nat.le_of_ble_eq_true rfl) (by rw [hRs]; exact Nat.le_of_ble_eq_true rfl) (fun _ => rfl) dL_law_8 (fun a_u => ?_)
  have C := mg_Cup C (kc' := 120) (ks' := 2385) (by rw [hRc]; exact Nat.le_of_ble_eq_true rfl) (by rw [hRs]; exact Nat.le_of_ble_eq_true rfl)
  refine mg_dup (pc := 11) C dL_law_11 rfl ?_
  refine mg_callI (pc := 12) C (wr := w_comp k a_t a_t_forces a_t_history a_t_text a_t_wellsToDig a_t_imagined a_t_forces_trial a_t_forces_chosen a_t_forces_chosen_bottoms a_t_forces_trial_bottoms a_t_history_saved a_t_imagined_bottoms a_t_text_characters a_t_text_values a_t_wellsToDig_values b_t_forces_site b_t_draft b_t_history_saved c0) hO (i_X9 z.2.1 k a_u) YI_X9 wm_866 (by decide) rfl [119] [0, 1, 2, 3, 4, 5, 6, 7, 8, 9, 10, 11, 12, 13, 14, 15, 16, 17, 18, 19, 20, 21, 22, 23, 24, 25, 26, 27, 28, 29, 30, 31, 32, 33, 34, 35, 36, 37, 38, 39, 40, 41, 42, 43, 44, 45, 46, 47, 48, 49, 50, 51, 52, 53, 54, 55, 56, 57, 58, 59, 60, 61, 62, 63, 64, 65, 66, 67, 68, 69, 70, 71, 72, 73, 74, 75, 76, 77, 78, 79, 80, 81, 82, 83, 84, 85, 86, 87, 88, 89, 90, 91, 92, 93, 94, 95, 96, 97, 98, 99, 100, 101, 102, 103, 104, 105, 106, 107, 108, 109, 110, 111, 112, 113, 114, 115, 116, 117, 118] rfl (by decide) rfl (by decide +kernel) (by decide +kernel) (by rw [hRc]; exact Nat.le_of_ble_eq_true rfl) (by rw [hRs]; exact Nat.le_of_ble_eq_true rfl) (Nat.le_of_ble_eq_true rfl) rfl dL_law_12 (fun w9 hw9 => ?_)
  have C := mg_Cup C (kc' := 127) (ks' := 4494) (by rw [hRc]; exact Nat.le_of_ble_eq_true rfl) (by rw [hRs]; exact Nat.le_of_ble_eq_true rfl)
  obtain ⟨a_u_s, a_u_past, a_u_aside, a_u_text, a_u_told, a_u_bottoms, a_u_planned, rfl⟩ := hw9
  refine mg_astore_n (pc := 15) C (lv' := [(2, .ref a_u), (1, .ref a_t), (0, .ref b)]) dL_law_15 rfl (by decide) rfl ?_
  refine mg_iconst (pc := 16) C dL_law_16 (v := 0) (by decide) ?_
  refine mg_istore_n (pc := 17) C (lv' := [(3, .int 0), (2, .ref a_u), (1, .ref a_t), (0, .ref b)]) dL_law_17 rfl (by decide) rfl ?_
  refine mg_lv [3, 2, 1, 0] rfl ?_
  refine mg_wp (w2 := w_law k a_t a_u a_t_forces a_t_history a_t_text a_t_wellsToDig a_t_imagined a_t_forces_trial a_t_forces_chosen a_t_forces_chosen_bottoms a_t_forces_trial_bottoms a_t_history_saved a_t_imagined_bottoms a_t_text_characters a_t_text_values a_t_wellsToDig_values a_u_s a_u_past a_u_aside a_u_text a_u_told a_u_bottoms a_u_planned b_t_forces_site b_t_draft b_t_history_saved c0 mt_r0) [0, 1, 2, 3, 4, 5, 6, 7, 8, 9, 10, 11, 12, 13, 14, 15, 16, 17, 18, 19, 20, 21, 22, 23, 24, 25, 26, 27, 28, 29, 30, 31, 32, 33, 34, 35, 36, 37, 38, 39, 40, 41, 42, 43, 44, 45, 46, 47, 48, 49, 50, 51, 52, 53, 54, 55, 56, 57, 58, 59, 60, 61, 62, 63, 64, 65, 66, 67, 68, 69, 70, 71, 72, 73, 74, 75, 76, 77, 78, 79, 80, 81, 82, 83, 84, 85, 86, 87, 88, 89, 90, 91, 92, 93, 94, 95, 96, 97, 98, 99, 100, 101, 102, 103, 104, 105, 106, 107, 108, 109, 110, 111, 112, 113, 114, 115, 116, 117, 118, 119, 122, 125, 121, 126, 120, 123, 124] rfl (by decide +kernel) ?_
  exact law_loop C hL hX hbl hbA a_t a_u a_t_forces a_t_history a_t_text a_t_wellsToDig a_t_imagined a_t_forces_trial a_t_forces_chosen a_t_forces_chosen_bottoms a_t_forces_trial_bottoms a_t_history_saved a_t_imagined_bottoms a_t_text_characters a_t_text_values a_t_wellsToDig_values a_u_s a_u_past a_u_aside a_u_text a_u_told a_u_bottoms a_u_planned b_t_forces_site b_t_draft b_t_history_saved Cpl m_appendCharacter m_clearText m_load m_resize m_setWeight m_setStiffness m_addLayer m_addBoulder m_ground m_boulder m_state m_edge m_bottom m_surplus m_moment m_nextStep m_sideResistance m_stuckDepth m_ballastNeeded m_dig m_settle m_setBallast m_lubricate m_blast m_pump m_record m_wouldSettle m_bestWell m_makePlan m_plan m_carryOut m_highSide m_undo (fun c r i hc => by
    refine mg_iconst (pc := 1025) C dL_law_1025 (v := 1) (by decide) ?_
    intro H locs ls hP hD hS hl
    subst hz
    refine va_forget (fun q hq => hS.2.2 q hq) ?_
    refine W.widen (k := 600000) (n := 7302250) (by omega) (by omega) ?_
    exact lw_ret hx hb hr hlocks dL_law_1026) (L + 1) 0 c0 mt_r0 (Nat.zero_le _) (by omega) (hC0 c0 hc0)
