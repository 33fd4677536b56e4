def mg_PI (k : mg_K) (as : List Value) (w : va_W) (sz : Nat) : Array Value → State → Prop := va_Pc as (fun U => U.heap.size = sz ∧ va_P k.1 vwCl w U.heap ∧ va_K k.1 vwCl (mg_ty k) U ∧ va_D (fun _ => True) w ∧ mg_N k (va_A w sz) U U.heap ∧ va_AO "CaissonSinker$Site" U)
def mg_QI (k : mg_K) (w : va_W) (Post : va_W → Prop) (sz : Nat) : Array Value → State → Outcome → State → Prop := fun _ st oc t => oc = .returned none ∧ (∃ w', Post w' ∧ va_P k.1 vwCl w' t.heap ∧ va_D (va_A w sz) w') ∧ va_F (va_A w sz) st t
/-- a constructor's contract: mc cells of ms slots are made; the world behind it is one that Post tells -/
def mg_I (l : Launch) (y : MethodName) (cy : ByteArray) (n h mc ms : Nat) (k : mg_K) (as : List Value) (w : va_W) (Post : va_W → Prop) : Prop := ∀ sz : Nat, Met l y (Cond.code y cy n none :: lw_g) ({ frames := h, cells := mc, slots := ms, locals := 40 * h }) (mg_PI k as w sz) (mg_QI k w Post sz) mc ms (va_A w sz)
def mg_YI (y : MethodName) (cy : ByteArray) (ny : Nat) (n : Nat) : Prop := Cond.instanceMethod y ∈ lw_g ∧ Cond.initialized y.cls ∈ lw_g ∧ Cond.code y cy ny none ∈ lw_g ∧ (y.cls ≠ "java/lang/invoke/MethodHandle" ∧ y.cls ≠ "java/lang/invoke/VarHandle" ∧ (parseMethodDescriptor y.desc).map (fun d => d.parameters.length) = some n) ∧ ny ≤ 20 ∧ y.name = "<init>"
section MI
variable {z : mg_Z} {k : mg_K} {A : Nat → Prop} {nL h kc ks : Nat} {cc : ByteArray} {own : String} {Q : State → Prop} {w : va_W} {lv : List (Nat × Value)} {pc : Nat} {st : List Value}
theorem mg_Cup (C : mg_C z k A nL h kc ks cc own) {kc' ks' : Nat} (h1 : kc' ≤ (mg_R z).cells) (h2 : ks' ≤ (mg_R z).slots) : mg_C z k A nL h kc' ks' cc own := ⟨C.1, C.2.1, C.2.2.1, C.2.2.2.1, C.2.2.2.2.1, C.2.2.2.2.2.1, C.2.2.2.2.2.2.1, C.2.2.2.2.2.2.2.1, C.2.2.2.2.2.2.2.2.1, h1, h2, C.2.2.2.2.2.2.2.2.2.2.2⟩
theorem mg_wp {w2 : va_W} (is : List Nat) (hs : is.map (fun i => w[i]?) = w2.map some) (hnd : va_nd is = true) (g : mg z k A nL kc ks Q w2 lv pc st) : mg z k A nL kc ks Q w lv pc st := by
  intro H locs ls hP hD hS hl
  refine g H locs ls (fun i q hq => ?_) (hD.sub is hnd hs) hS hl
  obtain ⟨j, h1, h2⟩ := mg_at2 hs hq
  exact hP j q h2
theorem mg_new (C : mg_C z k A nL h kc ks cc own) {Cn : String} {T : u_T} {N ci idx : Nat} {fs : List Value} {w2 : Nat → va_W} (hin : ∀ x ∈ u_ws Cn T N, x ∈ lw_g) (ty : Nat → FieldType) (hty : ∀ k, k < N → parseFieldDescriptor (T k).2.2.1 = some (ty k)) (hcl : Cond.classLink own idx Cn ∈ lw_g) (hinst : Cond.instantiable Cn N ∈ lw_g) (hini : Cond.initialized Cn ∈ lw_g) (hc : vwCl[ci]? = some (Cn, T, N)) (hfs : ∀ j, j < N → defaultValue (ty j) = vp_V fs j) (h1 : kc + 1 ≤ (mg_R z).cells) (h2 : ks + N ≤ (mg_R z).slots) (hw : ∀ q, w ++ [(q, .inr (ci, fs))] = w2 q) (d : decode cc pc = .ok (.new idx, 3)) (g : ∀ q : Nat, mg z k A nL (kc + 1) (ks + N) Q (w2 q) lv (pc + 3) (.ref q :: st)) : mg z k A nL kc ks Q w lv pc st := fun H locs ls hP hD hS hl => va_new C.1 C.2.1 C.2.2.2.2.1 hin ty hty C.2.2.2.1 (C.2.2.2.2.1 _ hcl) (C.2.2.2.2.1 _ hinst) (C.2.2.2.2.1 _ hini) C.2.2.2.2.2.1 hP hD hS C.2.2.2.2.2.2.1 hc hfs h1 h2 d (fun q H1 hP1 hD1 hS1 => g q H1 locs ls (hw q ▸ hP1) (hw q ▸ hD1) hS1 hl)
theorem mg_newi (C : mg_C z k A nL h kc ks cc own) {n : Int32} {N : Nat} {w2 : Nat → va_W} (harr : Cond.arrayClass .int ∈ lw_g) (hn : ¬ n < 0) (hN : n.toNatClampNeg = N) (hb : N * 4 ≤ 536870912) (h1 : kc + 1 ≤ (mg_R z).cells) (h2 : ks + N ≤ (mg_R z).slots) (hw : ∀ q, w ++ [(q, .inl (k.2.1, N, .inl (fun _ => 0)))] = w2 q) (d : decode cc pc = .ok (.newarray .int, 2)) (g : ∀ q : Nat, mg z k A nL (kc + 1) (ks + N) Q (w2 q) lv (pc + 2) (.ref q :: st)) : mg z k A nL kc ks Q w lv pc (.int n :: st) := by
  intro H locs ls hP hD hS hl
  refine va_newa (atype := .int) (ty := .int) (a0 := (N, .inl (fun _ => 0))) C.1 C.2.1 (C.2.2.2.2.1 _ harr) rfl C.2.2.2.2.2.1 hP hD hS C.2.2.2.2.2.2.1 (fun _ => rfl) hn hN hb h1 h2 d (fun q cA H1 hK1 hP1 hD1 hS1 => ?_)
  have e1 := (hK1.2 3 (cA, .int) rfl).2
  have e2 := (C.2.2.2.2.2.1.2 0 (k.2.1, .int) rfl).2
  have e : cA = k.2.1 := Option.some.inj (e1.symm.trans e2)
  subst e
  exact g q H1 locs ls (hw q ▸ hP1) (hw q ▸ hD1) hS1 hl
theorem mg_newc (C : mg_C z k A nL h kc ks cc own) {n : Int32} {N : Nat} {w2 : Nat → va_W} (harr : Cond.arrayClass .char ∈ lw_g) (hn : ¬ n < 0) (hN : n.toNatClampNeg = N) (hb : N * 2 ≤ 536870912) (h1 : kc + 1 ≤ (mg_R z).cells) (h2 : ks + N ≤ (mg_R z).slots) (hw : ∀ q, w ++ [(q, .inl (k.2.2.1, N, .inl (fun _ => 0)))] = w2 q) (d : decode cc pc = .ok (.newarray .char, 2)) (g : ∀ q : Nat, mg z k A nL (kc + 1) (ks + N) Q (w2 q) lv (pc + 2) (.ref q :: st)) : mg z k A nL kc ks Q w lv pc (.int n :: st) := by
  intro H locs ls hP hD hS hl
  refine va_newa (atype := .char) (ty := .char) (a0 := (N, .inl (fun _ => 0))) C.1 C.2.1 (C.2.2.2.2.1 _ harr) rfl C.2.2.2.2.2.1 hP hD hS C.2.2.2.2.2.2.1 (fun _ => rfl) hn hN hb h1 h2 d (fun q cA H1 hK1 hP1 hD1 hS1 => ?_)
  have e1 := (hK1.2 3 (cA, .char) rfl).2
  have e2 := (C.2.2.2.2.2.1.2 1 (k.2.2.1, .char) rfl).2
  have e : cA = k.2.2.1 := Option.some.inj (e1.symm.trans e2)
  subst e
  exact g q H1 locs ls (hw q ▸ hP1) (hw q ▸ hD1) hS1 hl
theorem mg_newq (C : mg_C z k A nL h kc ks cc own) {n : Int32} {N idx : Nat} {w2 : Nat → va_W} (hAO : va_AO "CaissonSinker$Site" (mg_s z)) (hcl : Cond.classLink own idx "CaissonSinker$Site" ∈ lw_g) (hn : ¬ n < 0) (hN : n.toNatClampNeg = N) (hb : N * 4 ≤ 536870912) (h1 : kc + 1 ≤ (mg_R z).cells) (h2 : ks + N ≤ (mg_R z).slots) (hw : ∀ q, w ++ [(q, .inl (k.2.2.2.1, N, .inr (.inr (.inr (.inr (fun _ => none))))))] = w2 q) (d : decode cc pc = .ok (.anewarray idx, 3)) (g : ∀ q : Nat, mg z k A nL (kc + 1) (ks + N) Q (w2 q) lv (pc + 3) (.ref q :: st)) : mg z k A nL kc ks Q w lv pc (.int n :: st) := by
  intro H locs ls hP hD hS hl
  refine va_newq C.1 C.2.1 C.2.2.2.1 (C.2.2.2.2.1 _ hcl) hAO C.2.2.2.2.2.1 hP hD hS C.2.2.2.2.2.2.1 hn hN hb h1 h2 d (fun q cA H1 hK1 hP1 hD1 hS1 => ?_)
  obtain ⟨-, -, -, -, -, e1⟩ := (hK1.2 3 (cA, .object "CaissonSinker$Site") rfl).2
  obtain ⟨-, -, -, -, -, e2⟩ := (C.2.2.2.2.2.1.2 2 (k.2.2.2.1, .object "CaissonSinker$Site") rfl).2
  have e : cA = k.2.2.2.1 := Option.some.inj (e1.symm.trans e2)
  subst e
  exact g q H1 locs ls (hw q ▸ hP1) (hw q ▸ hD1) hS1 hl
theorem mg_putF (C : mg_C z k A nL h kc ks cc own) {a ci : Nat} {fs : List Value} {Cn : String} {T : u_T} {N : Nat} {ref : String} {idx : Nat} {v : Value} {w2 : va_W} {ty : FieldType} (hin2 : z.2.2.2.2.2.2.2.2.1.name = "<init>") (q0 : Nat) (he : w[q0]? = some (a, .inr (ci, fs))) (hc : vwCl[ci]? = some (Cn, T, N)) (hin : ∀ x ∈ u_ws Cn T N, x ∈ lw_g) (j : Nat) (hj : j < N) (hl : Cond.fieldLink own idx ref (T j).2.1 (T j).2.2.1 ∈ lw_g) (hs : (T j).1 = ref) (ty0 : Nat → FieldType) (hty : ∀ k, k < N → parseFieldDescriptor (T k).2.2.1 = some (ty0 k)) (hnm : ∀ a, a < N → ∀ b, b < N → a ≠ b → (T a).2.1 ≠ (T b).2.1) (hfin : (T j).2.2.2 = true) (hdecl : (T j).1 = own) (hd : parseFieldDescriptor (T j).2.2.1 = some ty) (hn : narrow ty v = v) (hfit : fits ty v = true) (hlt : j < fs.length) (hw : w.set q0 (a, .inr (ci, fs.set j v)) = w2) (d : decode cc pc = .ok (.putfield idx, 3)) (g : mg z k A nL kc ks Q w2 lv (pc + 3) st) : mg z k A nL kc ks Q w lv pc (v :: .ref a :: st) := fun H locs ls hP hD hS hl0 => va_putF C.1 C.2.1 C.2.2.2.2.1 hin ty0 hty hnm C.2.2.2.1 C.2.2.2.2.2.1 hP hD hS q0 he hc j hj (C.2.2.2.2.1 _ hl) (fun x h9 => by rw [← hs]; exact h9) hfin hin2 hdecl hd hn hfit hlt d (fun H1 locs1 hP1 hD1 hS1 => g H1 locs1 ls (by rw [← hw]; exact hP1) (by rw [← hw]; exact hD1) hS1 hl0)
theorem mg_aast (C : mg_C z k A nL h kc ks cc own) {a n v ci : Nat} {f : Nat → Option Nat} {i : Int32} {vs : List Value} {T : u_T} {N : Nat} {w2 : va_W} (q0 qk j : Nat) (ha : w[q0]? = some (a, .inl (k.2.2.2.1, n, .inr (.inr (.inr (.inr f)))))) (hv : w[qk]? = some (v, .inr (ci, vs))) (hc : vwCl[ci]? = some ("CaissonSinker$Site", T, N)) (hi : mg_ix i n = true) (hj : i.toNatClampNeg = j) (hw : w.set q0 (a, .inl (k.2.2.2.1, n, .inr (.inr (.inr (.inr (va_up f j (some v))))))) = w2) (d : decode cc pc = .ok (.aastore, 1)) (g : mg z k A nL kc ks Q w2 lv (pc + 1) st) : mg z k A nL kc ks Q w lv pc (.ref v :: .int i :: .ref a :: st) := fun H locs ls hP hD hS hl => va_astq C.1 C.2.1 C.2.2.2.2.2.1 hP hD hS q0 2 qk ci (r := ("CaissonSinker$Site", T, N)) ha rfl hv hc (mg_ix_in hi) d (fun H1 locs1 hP1 hD1 hS1 => g H1 locs1 ls (by rw [← hw, ← hj]; exact hP1) (by rw [← hw, ← hj]; exact hD1) hS1 hl)
theorem mg_objInit (C : mg_C z k A nL h kc ks cc own) {idx a : Nat} (hm : Cond.methodLink own idx Lib.objectInit ∈ lw_g) (h1 : Cond.instanceMethod Lib.objectInit ∈ lw_g) (h2 : Cond.code Lib.objectInit ⟨#[0xb1]⟩ 1 none ∈ lw_g) (hh : 1 ≤ h) (hst : (st.map fun v => v.category).sum ≤ 8) (d : decode cc pc = .ok (.invokespecial idx, 3)) (g : mg z k A nL kc ks Q w lv (pc + 3) st) : mg z k A nL kc ks Q w lv pc (.ref a :: st) := by
  intro H locs ls hP hD hS hl
  have hF := C.2.2.2.2.2.2.2.1
  have hL := C.2.2.2.2.2.2.2.2.1
  refine W.objInit C.1 C.2.1 C.2.2.2.1 (C.2.2.2.2.1 _ hm) (C.2.2.2.2.1 _ h1) (C.2.2.2.2.1 _ h2) rfl (by rw [C.2.2.1]; exact hl.1) rfl d (by omega) (by show 2 * 0 + _ + 12 ≤ _; omega) ?_
  exact g H locs ls hP hD hS hl
theorem mg_coreI {mc ms : Nat} {wc wr : va_W} {Post : va_W → Prop} {H : Heap} {locs : List Loc} {ls : Array Slot} {st0 rest : List Value} {a : Array Value} (hr : va_Run z.1 z.2.1 z.2.2.1 (mg_R z) (mg_s z) (mg_m z) (mg_a z) z.2.2.2.2.2.2.2.1 z.2.2.2.2.2.2.2.2.1 (mg_c z) H locs kc ks mc ms (F0 (mg_m z) pc ls st0) rest (mg_QI k wc Post H.size a) (va_A wc H.size)) (hP : va_P k.1 vwCl w H) (hD : va_D A w) (hS : va_S A (mg_s z).heap H locs) (hl : lv_has ls nL lv) (hA : ∀ q, (mg_s z).heap.size ≤ q → A q) (isC isR : List Nat) (hC : isC.map (fun i => w[i]?) = wc.map some) (hR : isR.map (fun i => w[i]?) = wr.map some) (hn : va_nd isR = true) (hdis : ∀ i ∈ isR, i ∉ isC) (g : ∀ w' : va_W, Post w' → mg z k A nL (kc + mc) (ks + ms) Q (wr ++ w') lv (pc + 3) rest) : mg_W z H locs kc ks Q (F0 (mg_m z) pc ls st0) := by
  intro T hT X
  obtain ⟨v, st₀, t, T', L, h0, X', hL, e1, e2, ⟨hv, ⟨w', hpo, hP1, hD1⟩, hz, hk⟩, sp⟩ := hr T hT X
  cases hv
  rw [h0] at hz hk
  have hF := va_free hD hS hA isC hC
  rw [← e1] at hz hk hP1
  obtain ⟨hP2, hD2⟩ := va_join hP hD isC isR hC hR hn hdis hk hF hP1 hD1
  obtain ⟨t2, a1, b1⟩ := g w' hpo T'.heap (locs ++ L) ls hP2 hD2 ⟨Nat.le_trans hS.1 hz, fun q h1 h2 => by rw [hk q (Nat.lt_of_lt_of_le h1 hS.1) (fun z => h2 (hF q z))]; exact hS.2.1 q h1 h2, fun q hq => by
      rcases List.mem_append.mp hq with h | h
      · exact hS.2.2 q h
      · exact hF _ (hL q h)⟩ hl T' rfl X'
  exact ⟨t2, sp t2 a1, b1⟩
theorem mg_blindI {as : List Value} {sz : Nat} : FrameBlind (mg_PI k as w sz) := by
  intro a U g mk q
  obtain ⟨q0, q1, qP, qK, qD, qN, qA⟩ := q
  exact ⟨q0, q1, qP, va_K.moved (u := U) (U := U.calling g mk a) (Vm.Alike.refl U.vm) qK, qD, mg_N.same (u := U) rfl qN, va_AO.moved (u := U) (U := U.calling g mk a) (Vm.Alike.refl U.vm) qA⟩
theorem mg_preI {wc : va_W} {H : Heap} {as : List Value} {locs : List Loc} (hP : va_P k.1 vwCl w H) (hD : va_D A w) (hK : va_K k.1 vwCl (mg_ty k) (mg_s z)) (hS : va_S A (mg_s z).heap H locs) (hA : ∀ q, (mg_s z).heap.size ≤ q → A q) (hN : mg_N k A (mg_s z) (mg_s z).heap) (hO : va_AO "CaissonSinker$Site" (mg_s z)) (is : List Nat) (hC : is.map (fun i => w[i]?) = wc.map some) (hnd : va_nd is = true) : ∀ U : State, U.heap = H → (mg_s z).WarmedH U.vm → mg_PI k as wc H.size as.toArray U := by
  intro U hU hW
  have h0 := mg_pre (as := as) hP hD hK hS hA hN is hC hnd U hU hW
  exact ⟨h0.1, h0.2.1, h0.2.2.1, h0.2.2.2.1, h0.2.2.2.2.1, h0.2.2.2.2.2, hO.moved hW.alike⟩
theorem mg_callI (C : mg_C z k A nL h kc ks cc own) (hO : va_AO "CaissonSinker$Site" (mg_s z)) {y : MethodName} {cy : ByteArray} {ny n hc idx a mc ms : Nat} {as : List Value} {wc wr : va_W} {Post : va_W → Prop} (hM : mg_I z.2.1 y cy ny hc mc ms k (.ref a :: as) wc Post) (Y : mg_YI y cy ny n) (hm : Cond.methodLink own idx y ∈ lw_g) (hh : hc < h) (hn : as.length = n) (isC isR : List Nat) (hC : isC.map (fun i => w[i]?) = wc.map some) (hnd : va_nd isC = true) (hR : isR.map (fun i => w[i]?) = wr.map some) (hnR : va_nd isR = true) (hdis : ∀ i ∈ isR, i ∉ isC) (h1 : kc + mc ≤ (mg_R z).cells) (h2 : ks + ms ≤ (mg_R z).slots) {rest st0 : List Value} (hst : (rest.map fun v => v.category).sum ≤ 8) (h0 : as.reverse ++ .ref a :: rest = st0) (d : decode cc pc = .ok (.invokespecial idx, 3)) (g : ∀ w' : va_W, Post w' → mg z k A nL (kc + mc) (ks + ms) Q (wr ++ w') lv (pc + 3) rest) : mg z k A nL kc ks Q w lv pc st0 := by
  intro H locs ls hP hD hS hl
  have hF := C.2.2.2.2.2.2.2.1
  have hL := C.2.2.2.2.2.2.2.2.1
  subst h0
  have hts := C.2.2.2.2.1
  refine mg_coreI (va_runI (Ts := lw_g) (own := own) (b := a) (As := as) (n := n) ⟨C.1, C.2.1, C.2.2.1, C.2.2.2.1, hts⟩ (hM H.size) ⟨callB_of n hts (mg_good Y.2.2.1) rfl rfl rfl (hts _ Y.2.1) (hts _ hm) Y.2.2.2.1 ⟨?_, ?_⟩, Y.2.2.2.2.2, hts _ Y.1⟩ ⟨mg_blindI, mg_preI hP hD C.2.2.2.2.2.1 hS C.2.2.2.2.2.2.1 C.2.2.2.2.2.2.2.2.2.2.2 hO isC hC hnd⟩ rfl hn hl.1 rfl (lv_room hst) d ⟨h1, h2⟩) hP hD hS hl C.2.2.2.2.2.2.1 isC isR hC hR hnR hdis g
  · show hc + 1 ≤ _
    omega
  · show 8 + (ny + 11) + 40 * hc ≤ _
    have := Y.2.2.2.2.1
    omega
theorem mg_callIN (C : mg_C z k A nL h kc ks cc own) (hO : va_AO "CaissonSinker$Site" (mg_s z)) {y : MethodName} {cy : ByteArray} {ny n hc idx a mc ms : Nat} {host : String} {as : List Value} {wc wr : va_W} {Post : va_W → Prop} (hM : mg_I z.2.1 y cy ny hc mc ms k (.ref a :: as) wc Post) (Y : mg_YI y cy ny n) (hm : Cond.methodLinkNest own idx y host ∈ mg_nw) (hh : hc < h) (hn : as.length = n) (isC isR : List Nat) (hC : isC.map (fun i => w[i]?) = wc.map some) (hnd : va_nd isC = true) (hR : isR.map (fun i => w[i]?) = wr.map some) (hnR : va_nd isR = true) (hdis : ∀ i ∈ isR, i ∉ isC) (h1 : kc + mc ≤ (mg_R z).cells) (h2 : ks + ms ≤ (mg_R z).slots) {rest st0 : List Value} (hst : (rest.map fun v => v.category).sum ≤ 8) (h0 : as.reverse ++ .ref a :: rest = st0) (d : decode cc pc = .ok (.invokespecial idx, 3)) (g : ∀ w' : va_W, Post w' → mg z k A nL (kc + mc) (ks + ms) Q (wr ++ w') lv (pc + 3) rest) : mg z k A nL kc ks Q w lv pc st0 := by
  intro H locs ls hP hD hS hl
  have hF := C.2.2.2.2.2.2.2.1
  have hL := C.2.2.2.2.2.2.2.2.1
  subst h0
  have hts := C.2.2.2.2.1
  refine mg_coreI (va_runIN (Ts := lw_g) (own := own) (host := host) (b := a) (As := as) (n := n) ⟨C.1, C.2.1, C.2.2.1, C.2.2.2.1, hts⟩ (hM H.size) ⟨⟨⟨rfl, rfl, ?_, ?_, pay_in hts (mg_good Y.2.2.1), List.mem_cons_self⟩, hts _ Y.2.2.1, hts _ Y.2.1, ⟨Y.2.2.2.1.1, Y.2.2.2.1.2.1⟩, fun sig e => ?_, va_Nw.use rfl (C.2.2.2.2.2.2.2.2.2.2.2.1 _ hm)⟩, Y.2.2.2.2.2, hts _ Y.1⟩ ⟨mg_blindI, mg_preI hP hD C.2.2.2.2.2.1 hS C.2.2.2.2.2.2.1 C.2.2.2.2.2.2.2.2.2.2.2 hO isC hC hnd⟩ rfl hn hl.1 rfl (lv_room hst) d ⟨h1, h2⟩) hP hD hS hl C.2.2.2.2.2.2.1 isC isR hC hR hnR hdis g
  · show hc + 1 ≤ _
    omega
  · show 8 + (ny + 11) + 40 * hc ≤ _
    have := Y.2.2.2.2.1
    omega
  · have h2 := Y.2.2.2.1.2.2
    rw [e] at h2
    exact (Option.some.inj h2).symm
end MI
theorem mg_Iof {l : Launch} {y : MethodName} {cy : ByteArray} {n h mc ms : Nat} {k : mg_K} {as : List Value} {w : va_W} {Post : va_W → Prop} (own : String) (lv : List (Nat × Value)) (hy : plainFor y = true) (hin : y.name = "<init>") (hown : y.cls = own) (hlv : lv_args 0 as = lv) (hn : (lg_sl as).length ≤ n) (body : ∀ (z : mg_Z) (A : Nat → Prop) (Q : State → Prop), z.2.1 = l → mg_C z k A n h 0 0 cy own → (mg_R z).cells = mc → (mg_R z).slots = ms → z.2.2.2.2.2.2.2.2.1.name = "<init>" → va_AO "CaissonSinker$Site" (mg_s z) → (∀ w', Post w' → mg_E z k A n mc ms Q cy w' .return_ []) → mg z k A n 0 0 Q w lv 0 []) : mg_I l y cy n h mc ms k as w Post := by
  intro sz
  refine va_MetF (cc := cy) (maxL := n) (ret := none) hy rfl ?_
  intro p e s m args below meth c s₁ B hml hv
  obtain ⟨rfl, hsz, hP, hK, hD0, hN, hO⟩ := hv
  have hts : ∀ w ∈ lw_g, w.before as.toArray s = true := fun w hw => atoms_spec (ws := Cond.code y cy n none :: lw_g) B.pre w (List.mem_cons_of_mem _ hw)
  have hfc : s.vm.findClass y.cls = some m.cls := findClass_of_methodNamed B.named
  subst hsz
  subst hown
  rw [lg_entry_eq]
  refine body (p, l, e, _, s, m, as.toArray, below, meth, c) (va_A w s.heap.size) _ rfl ⟨B.exec, B.bytes, hml, hfc, hts, hK, fun q hq => Or.inr hq, Nat.le_refl _, Nat.le_refl _, Nat.zero_le _, Nat.zero_le _, hN⟩ rfl rfl ((name_of_methodNamed B.named B.method).1.trans hin) hO ?_ s.heap [] _ hP hD0.self va_S.rf (hlv ▸ lv_entry as hn)
  intro w' hw' pc lv2 d H locs ls hP1 hD1 hS1 hl1
  exact W.vret B.exec B.bytes B.returns (fun t ht hW => ⟨rfl, ⟨w', hw', by rw [ht]; exact hP1, hD1⟩, hS1.F ht⟩) hS1.2.2 d (hlocks := B.notSynchronized)
