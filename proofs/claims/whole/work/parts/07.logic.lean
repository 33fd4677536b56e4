/-! the small logic: a frame of the machine over a world of cells, one row an instruction -/
abbrev mg_Z : Type := Program × Launch × Env × Room × State × MethodId × Array Value × List Frame × Method × Code
abbrev mg_K : Type := va_G × ClassId × ClassId × ClassId × (Nat → Nat) × (Nat → Nat)
abbrev mg_R (z : mg_Z) : Room := z.2.2.2.1
abbrev mg_s (z : mg_Z) : State := z.2.2.2.2.1
abbrev mg_m (z : mg_Z) : MethodId := z.2.2.2.2.2.1
abbrev mg_a (z : mg_Z) : Array Value := z.2.2.2.2.2.2.1
abbrev mg_c (z : mg_Z) : Code := z.2.2.2.2.2.2.2.2.2
abbrev mg_ty (k : mg_K) : List (ClassId × FieldType) := [(k.2.1, .int), (k.2.2.1, .char), (k.2.2.2.1, .object "CaissonSinker$Site")]
abbrev mg_W (z : mg_Z) (H : Heap) (locs : List Loc) (kc ks : Nat) (Q : State → Prop) (g : JFrame) : Prop := W z.1 z.2.1 z.2.2.1 (mg_R z) (mg_s z) (mg_m z) (mg_a z) z.2.2.2.2.2.2.2.1 z.2.2.2.2.2.2.2.2.1 (mg_c z) H locs kc ks Q g
/-- what stands outside of every world: links of nest mates, the six texts, two statics -/
def mg_nw : List Cond := [Cond.methodLinkNest RX8 11 yX1_init RX8, Cond.methodLinkNest RX5 20 yX4_init RX8, Cond.methodLinkNest RX5 27 yX2_init RX8, Cond.methodLinkNest RX5 34 yX0_init RX8, Cond.methodLinkNest RX1 20 yX4_init RX8, Cond.methodLinkNest RX8 36 yX6_init RX8, Cond.methodLinkNest RX8 52 yX4_init RX8, Cond.methodLinkNest RX6 90 yX8_isWithin RX8]
def mg_sr : List (Nat × String) := [(146, "plan"), (152, "weight"), (153, "water"), (154, "stiff"), (156, "layer"), (158, "boulder")]
def mg_sl : List Nat := [4, 6, 5, 5, 5, 7]
def mg_sb : List (List Int32) := [[112, 108, 97, 110], [119, 101, 105, 103, 104, 116], [119, 97, 116, 101, 114], [115, 116, 105, 102, 102], [108, 97, 121, 101, 114], [98, 111, 117, 108, 100, 101, 114]]
def mg_N (k : mg_K) (A : Nat → Prop) (U : State) (H : Heap) : Prop :=
  (∀ w ∈ mg_nw, va_Nw w U) ∧ (∀ (i : Nat) (q : Nat × String), mg_sr[i]? = some q → vk_R RX6 q.1 q.2 (k.2.2.2.2.1 i) U) ∧ vk_S 6 mg_sl mg_sb k.2.2.2.2.1 k.2.2.2.2.2 A U H ∧ va_Z "java/lang/String" "COMPACT_STRINGS" "Z" (.int 1) A U H ∧ va_Zq "jdk/internal/util/Preconditions" "SIOOBE_FORMATTER" "Ljava/util/function/BiFunction;" A U H
theorem mg_nw_warm {s U : State} (hW : s.WarmedH U.vm) : ∀ w ∈ mg_nw, va_Nw w s → va_Nw w U := by
  intro w hw h
  simp only [mg_nw, List.mem_cons, List.not_mem_nil, or_false] at hw
  rcases hw with rfl | rfl | rfl | rfl | rfl | rfl | rfl | rfl <;> exact va_Nw.warmM hW h
theorem mg_nw_on : ∀ w ∈ mg_nw, w.onTables = true := by decide +kernel
theorem mg_N.same {k : mg_K} {A : Nat → Prop} {u U : State} {H : Heap} (hv : U.vm = u.vm) (h : mg_N k A u H) : mg_N k A U H := by
  obtain ⟨h1, h2, h3, h4, h5⟩ := h
  have ha : u.vm.Alike U.vm := by rw [hv]; exact Vm.Alike.refl _
  exact ⟨fun w hw => va_Nw.same (mg_nw_on w hw) hv.symm (h1 w hw), fun i q hq => (h2 i q hq).same hv, h3.moved ha, h4.moved ha, h5.moved ha⟩
theorem mg_N.step {k : mg_K} {A B : Nat → Prop} {s U : State} {H : Heap} {locs : List Loc} (h : mg_N k A s s.heap) (hS : va_S A s.heap H locs) (hB : ∀ q, B q → A q) (hW : s.WarmedH U.vm) : mg_N k B U H := by
  obtain ⟨h1, h2, h3, h4, h5⟩ := h
  have hk : ∀ a : Nat, a < s.heap.size → ¬ A a → H[a]? = s.heap[a]? := hS.2.1
  exact ⟨fun w hw => mg_nw_warm hW w hw (h1 w hw), fun i q hq => (h2 i q hq).warm hW, ((h3.kept hk).narrow hB).moved hW.alike, ((h4.kept hk).narrow hB).moved hW.alike, ((h5.kept hk).narrow hB).moved hW.alike⟩
def mg_C (z : mg_Z) (k : mg_K) (A : Nat → Prop) (nL h kc ks : Nat) (cc : ByteArray) (own : String) : Prop :=
  z.1.tables.exec = Jvm.exec ∧ (mg_c z).code = cc ∧ (mg_c z).maxLocals = nL ∧ (mg_s z).vm.findClass own = some (mg_m z).cls ∧ (∀ w ∈ lw_g, w.before (mg_a z) (mg_s z) = true) ∧ va_K k.1 vwCl (mg_ty k) (mg_s z) ∧ (∀ q, (mg_s z).heap.size ≤ q → A q) ∧ h ≤ (mg_R z).frames ∧ 40 * h ≤ (mg_R z).locals ∧ kc ≤ (mg_R z).cells ∧ ks ≤ (mg_R z).slots ∧ mg_N k A (mg_s z) (mg_s z).heap
def mg (z : mg_Z) (k : mg_K) (A : Nat → Prop) (nL kc ks : Nat) (Q : State → Prop) (w : va_W) (lv : List (Nat × Value)) (pc : Nat) (st : List Value) : Prop :=
  ∀ (H : Heap) (locs : List Loc) (ls : Array Slot), va_P k.1 vwCl w H → va_D A w → va_S A (mg_s z).heap H locs → lv_has ls nL lv → mg_W z H locs kc ks Q (F0 (mg_m z) pc ls st)
def mg_E (z : mg_Z) (k : mg_K) (A : Nat → Prop) (nL kc ks : Nat) (Q : State → Prop) (cc : ByteArray) (w : va_W) (i : Instr) (st : List Value) : Prop := ∀ (pc : Nat) (lv : List (Nat × Value)), decode cc pc = .ok (i, 1) → mg z k A nL kc ks Q w lv pc st
def mg_P (k : mg_K) (as : List Value) (w : va_W) (sz : Nat) : Array Value → State → Prop := va_Pc as (fun U => U.heap.size = sz ∧ va_P k.1 vwCl w U.heap ∧ va_K k.1 vwCl (mg_ty k) U ∧ va_D (fun _ => True) w ∧ mg_N k (va_A w sz) U U.heap)
def mg_Q (k : mg_K) (w w' : va_W) (r : Option Value) (sz : Nat) : Array Value → State → Outcome → State → Prop := fun _ st oc t => oc = .returned r ∧ va_P k.1 vwCl w' t.heap ∧ va_D (va_A w sz) w' ∧ va_F (va_A w sz) st t
/-- a method's contract: from the world w it answers r and leaves the world w' -/
def mg_M (l : Launch) (y : MethodName) (cy : ByteArray) (n : Nat) (ret : Option FieldType) (h : Nat) (k : mg_K) (as : List Value) (w w' : va_W) (r : Option Value) : Prop := ∀ sz : Nat, Met l y (Cond.code y cy n ret :: lw_g) ({ frames := h, cells := 0, slots := 0, locals := 40 * h }) (mg_P k as w sz) (mg_Q k w w' r sz) 0 0 (va_A w sz)
theorem mg_good {y : MethodName} {c : ByteArray} {n : Nat} {r : Option FieldType} (h : Cond.code y c n r ∈ lw_g) : GoodIn lw_g (Cond.code y c n r :: lw_g) := by
  intro w hw
  have hm : w ∈ lw_g := by
    rcases List.mem_cons.mp hw with e | e
    · rw [e]; exact h
    · exact e
  exact ⟨hm, good_of_word (List.mem_filter.mp hm).2⟩
def mg_pk (wc : va_W) (c : Nat × va_E) (p : Option Nat) : Nat × va_E := match p with
  | none => c
  | some i => wc.getD i c
/-- a world with some cells taken from another list, by places -/
def mg_mix (w : va_W) (ps : List (Option Nat)) (wc : va_W) : va_W := List.zipWith (mg_pk wc) w ps
def mg_ok (is : List Nat) (ps : List (Option Nat)) : Bool := (List.range ps.length).all (fun j => match ps[j]? with
  | some (some i) => is[i]? == some j
  | some none => !is.contains j
  | none => false)
theorem mg_at {is : List Nat} {w wc : va_W} (hC : is.map (fun i => w[i]?) = wc.map some) {i j : Nat} (h : is[i]? = some j) : ∃ p, wc[i]? = some p ∧ w[j]? = some p := by
  have h1 : (wc.map some)[i]? = some (w[j]?) := by rw [← hC, List.getElem?_map, h]; rfl
  rw [List.getElem?_map] at h1
  cases hp : wc[i]? with
  | none => rw [hp] at h1; cases h1
  | some p =>
    rw [hp] at h1
    exact ⟨p, rfl, (Option.some.inj h1).symm⟩
theorem mg_at2 {is : List Nat} {w wc : va_W} (hC : is.map (fun i => w[i]?) = wc.map some) {i : Nat} {p : Nat × va_E} (h : wc[i]? = some p) : ∃ j, is[i]? = some j ∧ w[j]? = some p := by
  have h1 : (is.map (fun i => w[i]?))[i]? = some (some p) := by rw [hC, List.getElem?_map, h]; rfl
  rw [List.getElem?_map] at h1
  cases hj : is[i]? with
  | none => rw [hj] at h1; cases h1
  | some j =>
    rw [hj] at h1
    exact ⟨j, rfl, Option.some.inj h1⟩
theorem mg_fst {wc wc' : va_W} (had : wc'.map (fun q => q.1) = wc.map (fun q => q.1)) {i : Nat} {q p : Nat × va_E} (h : wc'[i]? = some q) (h2 : wc[i]? = some p) : q.1 = p.1 := by
  have e : (wc'.map (fun q => q.1))[i]? = some q.1 := by rw [List.getElem?_map, h]; rfl
  rw [had, List.getElem?_map, h2] at e
  exact (Option.some.inj e).symm
theorem mg_len {is : List Nat} {w wc wc' : va_W} (hC : is.map (fun i => w[i]?) = wc.map some) (had : wc'.map (fun q => q.1) = wc.map (fun q => q.1)) : is.length = wc'.length := by
  have e1 := congrArg List.length hC
  have e2 := congrArg List.length had
  simp only [List.length_map] at e1 e2
  omega
theorem mg_mix_get {is : List Nat} {ps : List (Option Nat)} {w wc wc' : va_W} (hok : mg_ok is ps = true) (hC : is.map (fun i => w[i]?) = wc.map some) (had : wc'.map (fun q => q.1) = wc.map (fun q => q.1)) {j : Nat} {q : Nat × va_E} (h : (mg_mix w ps wc')[j]? = some q) : (∃ i : Nat, is[i]? = some j ∧ wc'[i]? = some q) ∨ (w[j]? = some q ∧ j ∉ is) := by
  unfold mg_mix at h
  rw [List.getElem?_zipWith] at h
  cases hw : w[j]? with
  | none => rw [hw] at h; simp at h
  | some c =>
    cases hp : ps[j]? with
    | none => rw [hw, hp] at h; simp at h
    | some p =>
      rw [hw, hp] at h
      have hq : mg_pk wc' c p = q := Option.some.inj h
      have hj : j < ps.length := (List.getElem?_eq_some_iff.mp hp).1
      have hk := List.all_eq_true.mp hok j (List.mem_range.mpr hj)
      rw [hp] at hk
      cases p with
      | none =>
        have hk : (!is.contains j) = true := hk
        refine Or.inr ⟨by rw [← hq]; rfl, fun hm => ?_⟩
        simp at hk
        exact hk hm
      | some i =>
        have hk : (is[i]? == some j) = true := hk
        have hi : is[i]? = some j := by simpa using hk
        obtain ⟨p, h1, h2⟩ := mg_at hC hi
        have hl : wc'.length = wc.length := by
          have := congrArg List.length had
          simpa using this
        have hlt : i < wc'.length := by rw [hl]; exact (List.getElem?_eq_some_iff.mp h1).1
        refine Or.inl ⟨i, hi, ?_⟩
        have e : wc'.getD i c = q := hq
        rw [← e, List.getD_eq_getElem?_getD, List.getElem?_eq_getElem hlt]
        rfl
theorem mg_put_P {k : mg_K} {A : Nat → Prop} {w wc wc' : va_W} {is : List Nat} {ps : List (Option Nat)} {H H1 : Heap} (hP : va_P k.1 vwCl w H) (hD : va_D A w) (hC : is.map (fun i => w[i]?) = wc.map some) (had : wc'.map (fun q => q.1) = wc.map (fun q => q.1)) (hk : ∀ q : Nat, q < H.size → ¬ va_A wc H.size q → H1[q]? = H[q]?) (hok : mg_ok is ps = true) (hP1 : va_P k.1 vwCl wc' H1) : va_P k.1 vwCl (mg_mix w ps wc') H1 := by
  intro j q hj
  rcases mg_mix_get hok hC had hj with ⟨i, h1, h2⟩ | ⟨h1, h2⟩
  · exact hP1 i q h2
  · have hlt := (hP j q h1).lt
    refine (hP j q h1).kept (hk q.1 hlt ?_)
    rintro (⟨i, e, h3⟩ | h3)
    · obtain ⟨j2, h4, h5⟩ := mg_at2 hC h3
      have e2 := hD.1 j j2 q (q.1, e) h1 h5 rfl
      subst e2
      exact h2 (List.mem_of_getElem? h4)
    · omega
theorem mg_put_D {A : Nat → Prop} {w wc wc' : va_W} {is : List Nat} {ps : List (Option Nat)} (hD : va_D A w) (hC : is.map (fun i => w[i]?) = wc.map some) (had : wc'.map (fun q => q.1) = wc.map (fun q => q.1)) (hok : mg_ok is ps = true) : va_D A (mg_mix w ps wc') := by
  have key : ∀ (j : Nat) (q : Nat × va_E), (mg_mix w ps wc')[j]? = some q → ∃ q0, w[j]? = some q0 ∧ q0.1 = q.1 := by
    intro j q hj
    rcases mg_mix_get hok hC had hj with ⟨i, h1, h2⟩ | ⟨h1, h2⟩
    · obtain ⟨p, h3, h4⟩ := mg_at hC h1
      exact ⟨p, h4, (mg_fst had h2 h3).symm⟩
    · exact ⟨q, h1, rfl⟩
  refine ⟨fun i j x y hi hj hxy => ?_, fun j q hj => ?_⟩
  · obtain ⟨x0, h1, h2⟩ := key i x hi
    obtain ⟨y0, h3, h4⟩ := key j y hj
    exact hD.1 i j x0 y0 h1 h3 (h2.trans (hxy.trans h4.symm))
  · obtain ⟨q0, h1, h2⟩ := key j q hj
    rw [← h2]
    exact hD.2 j q0 h1
/-- an index in its row -/
def mg_ix (i : Int32) (n : Nat) : Bool := decide (0 ≤ i) && decide (i.toNatClampNeg < n)
theorem mg_ix_in {i : Int32} {n : Nat} (h : mg_ix i n = true) : vp_in i n := by
  simp only [mg_ix, Bool.and_eq_true, decide_eq_true_eq] at h
  rintro (h1 | h1)
  · exact absurd h.1 (Int32.not_le.mpr h1)
  · omega
def mg_cp (sp dp n : Int32) (n0 n1 : Nat) : Bool := decide (¬ sp < 0) && (decide (¬ dp < 0) && (decide (¬ n < 0) && (decide (sp.toNatClampNeg + n.toNatClampNeg ≤ n0) && decide (dp.toNatClampNeg + n.toNatClampNeg ≤ n1))))
def mg_mx (x y : Int32) : Int32 := if x < y then y else x
def mg_mn (x y : Int32) : Int32 := if y < x then y else x
def mg_ab (x : Int32) : Int32 := if 0 ≤ x then x else 0 - x
theorem mg_b {α β : Type} {x : Option α} {f : α → Option β} {r : β} (h : x.bind f = some r) : ∃ q, x = some q ∧ f q = some r := by
  cases x with
  | none => cases h
  | some q => exact ⟨q, rfl, h⟩
theorem mg_t {c : Prop} [Decidable c] {α : Type} {a b r : α} (h : c) (hf : (if c then a else b) = r) : a = r := by rw [if_pos h] at hf; exact hf
theorem mg_f {c : Prop} [Decidable c] {α : Type} {a b r : α} (h : ¬ c) (hf : (if c then a else b) = r) : b = r := by rw [if_neg h] at hf; exact hf
theorem mg_ck {c : Prop} [Decidable c] {α : Type} {a : Option α} {r : α} (hf : (if c then a else none) = some r) : c ∧ a = some r := by
  by_cases h : c
  · rw [if_pos h] at hf; exact ⟨h, hf⟩
  · rw [if_neg h] at hf; cases hf
theorem mg_ck' {c : Prop} [Decidable c] {α : Type} {a : Option α} {r : α} (hf : (if c then none else a) = some r) : ¬ c ∧ a = some r := by
  by_cases h : c
  · rw [if_pos h] at hf; cases hf
  · rw [if_neg h] at hf; exact ⟨h, hf⟩
def mg_Y (y : MethodName) (cy : ByteArray) (ny : Nat) (ret : Option FieldType) (n : Nat) : Prop := Cond.instanceMethod y ∈ lw_g ∧ Cond.selects y.cls y y ∈ lw_g ∧ Cond.initialized y.cls ∈ lw_g ∧ Cond.code y cy ny ret ∈ lw_g ∧ (y.cls ≠ "java/lang/invoke/MethodHandle" ∧ y.cls ≠ "java/lang/invoke/VarHandle" ∧ (parseMethodDescriptor y.desc).map (fun d => d.parameters.length) = some n) ∧ ny ≤ 20
def mg_YS (y : MethodName) (cy : ByteArray) (ny : Nat) (ret : Option FieldType) (n : Nat) : Prop := Cond.static y ∈ lw_g ∧ Cond.initialized y.cls ∈ lw_g ∧ Cond.code y cy ny ret ∈ lw_g ∧ (y.cls ≠ "java/lang/invoke/MethodHandle" ∧ y.cls ≠ "java/lang/invoke/VarHandle" ∧ (parseMethodDescriptor y.desc).map (fun d => d.parameters.length) = some n) ∧ ny ≤ 20
section MG
variable {z : mg_Z} {k : mg_K} {A : Nat → Prop} {nL h kc ks : Nat} {cc : ByteArray} {own : String} {Q : State → Prop} {w : va_W} {lv : List (Nat × Value)} {pc : Nat} {st : List Value}
theorem mg_lv {lv' : List (Nat × Value)} (js : List Nat) (hl : lv_pick lv js = lv') (g : mg z k A nL kc ks Q w lv' pc st) : mg z k A nL kc ks Q w lv pc st := fun H locs ls hP hD hS h => g H locs ls hP hD hS (lv_sub h js hl)
theorem mg_cs {c : Prop} [Decidable c] {α : Type} {a b r : α} (hf : (if c then a else b) = r) (kt : c → a = r → mg z k A nL kc ks Q w lv pc st) (kf : ¬ c → b = r → mg z k A nL kc ks Q w lv pc st) : mg z k A nL kc ks Q w lv pc st := by
  by_cases h : c
  · exact kt h (mg_t h hf)
  · exact kf h (mg_f h hf)
theorem mg_iconst (C : mg_C z k A nL h kc ks cc own) {n : Int} {v : Int32} (d : decode cc pc = .ok (.iconst n, 1)) (hv : Int32.ofInt n = v) (g : mg z k A nL kc ks Q w lv (pc + 1) (.int v :: st)) : mg z k A nL kc ks Q w lv pc (st) := fun H locs ls hP hD hS hl => lv_iconst C.1 C.2.1 d hv (g H locs ls hP hD hS hl)
theorem mg_bipush (C : mg_C z k A nL h kc ks cc own) {n : Int} {v : Int32} (d : decode cc pc = .ok (.bipush n, 2)) (hv : (Int8.ofInt n).toInt32 = v) (g : mg z k A nL kc ks Q w lv (pc + 2) (.int v :: st)) : mg z k A nL kc ks Q w lv pc (st) := fun H locs ls hP hD hS hl => lv_bipush C.1 C.2.1 d hv (g H locs ls hP hD hS hl)
theorem mg_sipush (C : mg_C z k A nL h kc ks cc own) {n : Int} {v : Int32} (d : decode cc pc = .ok (.sipush n, 3)) (hv : (Int16.ofInt n).toInt32 = v) (g : mg z k A nL kc ks Q w lv (pc + 3) (.int v :: st)) : mg z k A nL kc ks Q w lv pc (st) := fun H locs ls hP hD hS hl => lv_sipush C.1 C.2.1 d hv (g H locs ls hP hD hS hl)
theorem mg_ldc (C : mg_C z k A nL h kc ks cc own) {i : Nat} {v : Int32} (hm : Cond.constant own i v ∈ lw_g) (d : decode cc pc = .ok (.ldc i, 2))  (g : mg z k A nL kc ks Q w lv (pc + 2) (.int v :: st)) : mg z k A nL kc ks Q w lv pc (st) := fun H locs ls hP hD hS hl => lv_ldc C.1 C.2.1 C.2.2.2.1 (C.2.2.2.2.1 _ hm) d (g H locs ls hP hD hS hl)
theorem mg_ldc2 (C : mg_C z k A nL h kc ks cc own) {i : Nat} {v : Int64} (hm : Cond.constantLong own i v ∈ lw_g) (d : decode cc pc = .ok (.ldc2_w i, 3))  (g : mg z k A nL kc ks Q w lv (pc + 3) (.long v :: st)) : mg z k A nL kc ks Q w lv pc (st) := fun H locs ls hP hD hS hl => lv_ldc2 C.1 C.2.1 C.2.2.2.1 (C.2.2.2.2.1 _ hm) d (g H locs ls hP hD hS hl)
theorem mg_iload_n (C : mg_C z k A nL h kc ks cc own) {i : Fin 4} {n : Nat} {x : Int32} (j : Nat) (d : decode cc pc = .ok (.iload_n i, 1)) (hi : (i : Nat) = n) (hk : lv[j]? = some (n, Value.int x)) (g : mg z k A nL kc ks Q w lv (pc + 1) (.int x :: st)) : mg z k A nL kc ks Q w lv pc (st) := fun H locs ls hP hD hS hl => lv_iload_n C.1 C.2.1 d hi (lv_at hl j hk) (g H locs ls hP hD hS hl)
theorem mg_iload (C : mg_C z k A nL h kc ks cc own) {n : Nat} {x : Int32} (j : Nat) (d : decode cc pc = .ok (.iload n, 2)) (hk : lv[j]? = some (n, Value.int x)) (g : mg z k A nL kc ks Q w lv (pc + 2) (.int x :: st)) : mg z k A nL kc ks Q w lv pc (st) := fun H locs ls hP hD hS hl => lv_iload C.1 C.2.1 d (lv_at hl j hk) (g H locs ls hP hD hS hl)
theorem mg_aload_n (C : mg_C z k A nL h kc ks cc own) {i : Fin 4} {n : Nat} {x : Nat} (j : Nat) (d : decode cc pc = .ok (.aload_n i, 1)) (hi : (i : Nat) = n) (hk : lv[j]? = some (n, Value.ref x)) (g : mg z k A nL kc ks Q w lv (pc + 1) (.ref x :: st)) : mg z k A nL kc ks Q w lv pc (st) := fun H locs ls hP hD hS hl => lv_aload_n C.1 C.2.1 d hi (lv_at hl j hk) (g H locs ls hP hD hS hl)
theorem mg_aload (C : mg_C z k A nL h kc ks cc own) {n : Nat} {x : Nat} (j : Nat) (d : decode cc pc = .ok (.aload n, 2)) (hk : lv[j]? = some (n, Value.ref x)) (g : mg z k A nL kc ks Q w lv (pc + 2) (.ref x :: st)) : mg z k A nL kc ks Q w lv pc (st) := fun H locs ls hP hD hS hl => lv_aload C.1 C.2.1 d (lv_at hl j hk) (g H locs ls hP hD hS hl)
theorem mg_lload_n (C : mg_C z k A nL h kc ks cc own) {i : Fin 4} {n : Nat} {x : Int64} (j : Nat) (d : decode cc pc = .ok (.lload_n i, 1)) (hi : (i : Nat) = n) (hk : lv[j]? = some (n, Value.long x)) (g : mg z k A nL kc ks Q w lv (pc + 1) (.long x :: st)) : mg z k A nL kc ks Q w lv pc (st) := fun H locs ls hP hD hS hl => lv_lload_n C.1 C.2.1 d hi (lv_at hl j hk) (g H locs ls hP hD hS hl)
theorem mg_lload (C : mg_C z k A nL h kc ks cc own) {n : Nat} {x : Int64} (j : Nat) (d : decode cc pc = .ok (.lload n, 2)) (hk : lv[j]? = some (n, Value.long x)) (g : mg z k A nL kc ks Q w lv (pc + 2) (.long x :: st)) : mg z k A nL kc ks Q w lv pc (st) := fun H locs ls hP hD hS hl => lv_lload C.1 C.2.1 d (lv_at hl j hk) (g H locs ls hP hD hS hl)
theorem mg_istore_n (C : mg_C z k A nL h kc ks cc own) {i : Fin 4} {n : Nat} {x : Int32} {lv' : List (Nat × Value)} (d : decode cc pc = .ok (.istore_n i, 1)) (hi : (i : Nat) = n) (hn : n < nL) (hl : (n, Value.int x) :: lv.filter (fun q => !(q.1 == n) && !(q.1 + 1 == n && q.2.category == 2)) = lv') (g : mg z k A nL kc ks Q w lv' (pc + 1) st) : mg z k A nL kc ks Q w lv pc (.int x :: st) := fun H locs ls hP hD hS hl0 => lv_istore_n C.1 C.2.1 d hi hl0 hn hl (fun ls' hl' => g H locs ls' hP hD hS hl')
theorem mg_istore (C : mg_C z k A nL h kc ks cc own) {n : Nat} {x : Int32} {lv' : List (Nat × Value)} (d : decode cc pc = .ok (.istore n, 2)) (hn : n < nL) (hl : (n, Value.int x) :: lv.filter (fun q => !(q.1 == n) && !(q.1 + 1 == n && q.2.category == 2)) = lv') (g : mg z k A nL kc ks Q w lv' (pc + 2) st) : mg z k A nL kc ks Q w lv pc (.int x :: st) := fun H locs ls hP hD hS hl0 => lv_istore C.1 C.2.1 d hl0 hn hl (fun ls' hl' => g H locs ls' hP hD hS hl')
theorem mg_astore_n (C : mg_C z k A nL h kc ks cc own) {i : Fin 4} {n : Nat} {x : Nat} {lv' : List (Nat × Value)} (d : decode cc pc = .ok (.astore_n i, 1)) (hi : (i : Nat) = n) (hn : n < nL) (hl : (n, Value.ref x) :: lv.filter (fun q => !(q.1 == n) && !(q.1 + 1 == n && q.2.category == 2)) = lv') (g : mg z k A nL kc ks Q w lv' (pc + 1) st) : mg z k A nL kc ks Q w lv pc (.ref x :: st) := fun H locs ls hP hD hS hl0 => lv_astore_n C.1 C.2.1 d hi hl0 hn hl (fun ls' hl' => g H locs ls' hP hD hS hl')
theorem mg_astore (C : mg_C z k A nL h kc ks cc own) {n : Nat} {x : Nat} {lv' : List (Nat × Value)} (d : decode cc pc = .ok (.astore n, 2)) (hn : n < nL) (hl : (n, Value.ref x) :: lv.filter (fun q => !(q.1 == n) && !(q.1 + 1 == n && q.2.category == 2)) = lv') (g : mg z k A nL kc ks Q w lv' (pc + 2) st) : mg z k A nL kc ks Q w lv pc (.ref x :: st) := fun H locs ls hP hD hS hl0 => lv_astore C.1 C.2.1 d hl0 hn hl (fun ls' hl' => g H locs ls' hP hD hS hl')
theorem mg_iinc (C : mg_C z k A nL h kc ks cc own) {n : Nat} {b : Int} {x c : Int32} {lv' : List (Nat × Value)} (j : Nat) (d : decode cc pc = .ok (.iinc n b, 3)) (hk : lv[j]? = some (n, .int x)) (hc : Int32.ofInt b = c) (hn : n < nL) (hl : (n, Value.int (x + c)) :: lv.filter (fun q => !(q.1 == n) && !(q.1 + 1 == n && q.2.category == 2)) = lv') (g : mg z k A nL kc ks Q w lv' (pc + 3) st) : mg z k A nL kc ks Q w lv pc st := fun H locs ls hP hD hS hl0 => lv_iinc C.1 C.2.1 d hl0 hk (by rw [hc]) hn hl (fun ls' hl' => g H locs ls' hP hD hS hl')
theorem mg_iadd (C : mg_C z k A nL h kc ks cc own) {x y : Int32} (d : decode cc pc = .ok (.iadd, 1))  (g : mg z k A nL kc ks Q w lv (pc + 1) (.int (x + y) :: st)) : mg z k A nL kc ks Q w lv pc (.int y :: .int x :: st) := fun H locs ls hP hD hS hl => lv_iadd C.1 C.2.1 d (g H locs ls hP hD hS hl)
theorem mg_isub (C : mg_C z k A nL h kc ks cc own) {x y : Int32} (d : decode cc pc = .ok (.isub, 1))  (g : mg z k A nL kc ks Q w lv (pc + 1) (.int (x - y) :: st)) : mg z k A nL kc ks Q w lv pc (.int y :: .int x :: st) := fun H locs ls hP hD hS hl => lv_isub C.1 C.2.1 d (g H locs ls hP hD hS hl)
theorem mg_imul (C : mg_C z k A nL h kc ks cc own) {x y : Int32} (d : decode cc pc = .ok (.imul, 1))  (g : mg z k A nL kc ks Q w lv (pc + 1) (.int (x * y) :: st)) : mg z k A nL kc ks Q w lv pc (.int y :: .int x :: st) := fun H locs ls hP hD hS hl => lv_imul C.1 C.2.1 d (g H locs ls hP hD hS hl)
theorem mg_iand (C : mg_C z k A nL h kc ks cc own) {x y : Int32} (d : decode cc pc = .ok (.iand, 1))  (g : mg z k A nL kc ks Q w lv (pc + 1) (.int (x &&& y) :: st)) : mg z k A nL kc ks Q w lv pc (.int y :: .int x :: st) := fun H locs ls hP hD hS hl => lv_iand C.1 C.2.1 d (g H locs ls hP hD hS hl)
theorem mg_ixor (C : mg_C z k A nL h kc ks cc own) {x y : Int32} (d : decode cc pc = .ok (.ixor, 1))  (g : mg z k A nL kc ks Q w lv (pc + 1) (.int (x ^^^ y) :: st)) : mg z k A nL kc ks Q w lv pc (.int y :: .int x :: st) := fun H locs ls hP hD hS hl => lv_ixor C.1 C.2.1 d (g H locs ls hP hD hS hl)
theorem mg_land (C : mg_C z k A nL h kc ks cc own) {x y : Int64} (d : decode cc pc = .ok (.land, 1))  (g : mg z k A nL kc ks Q w lv (pc + 1) (.long (x &&& y) :: st)) : mg z k A nL kc ks Q w lv pc (.long y :: .long x :: st) := fun H locs ls hP hD hS hl => lv_land C.1 C.2.1 d (g H locs ls hP hD hS hl)
theorem mg_ineg (C : mg_C z k A nL h kc ks cc own) {x : Int32} (d : decode cc pc = .ok (.ineg, 1))  (g : mg z k A nL kc ks Q w lv (pc + 1) (.int (-x) :: st)) : mg z k A nL kc ks Q w lv pc (.int x :: st) := fun H locs ls hP hD hS hl => lv_ineg C.1 C.2.1 d (g H locs ls hP hD hS hl)
theorem mg_l2i (C : mg_C z k A nL h kc ks cc own) {x : Int64} (d : decode cc pc = .ok (.l2i, 1))  (g : mg z k A nL kc ks Q w lv (pc + 1) (.int x.toInt32 :: st)) : mg z k A nL kc ks Q w lv pc (.long x :: st) := fun H locs ls hP hD hS hl => lv_l2i C.1 C.2.1 d rfl (g H locs ls hP hD hS hl)
theorem mg_i2c (C : mg_C z k A nL h kc ks cc own) {x : Int32} (d : decode cc pc = .ok (.i2c, 1))  (g : mg z k A nL kc ks Q w lv (pc + 1) (.int (x.toUInt32 % 65536).toInt32 :: st)) : mg z k A nL kc ks Q w lv pc (.int x :: st) := fun H locs ls hP hD hS hl => lv_i2c C.1 C.2.1 d rfl (g H locs ls hP hD hS hl)
theorem mg_lshr (C : mg_C z k A nL h kc ks cc own) {x : Int64} {y : Int32} (d : decode cc pc = .ok (.lshr, 1))  (g : mg z k A nL kc ks Q w lv (pc + 1) (.long (x >>> (y.toInt64 &&& 63)) :: st)) : mg z k A nL kc ks Q w lv pc (.int y :: .long x :: st) := fun H locs ls hP hD hS hl => lv_lshr C.1 C.2.1 d rfl (g H locs ls hP hD hS hl)
theorem mg_idiv (C : mg_C z k A nL h kc ks cc own) {x y : Int32} (d : decode cc pc = .ok (.idiv, 1)) (hne : ¬ y = 0) (g : mg z k A nL kc ks Q w lv (pc + 1) (.int (x / y) :: st)) : mg z k A nL kc ks Q w lv pc (.int y :: .int x :: st) := fun H locs ls hP hD hS hl => lv_idiv C.1 C.2.1 d hne (g H locs ls hP hD hS hl)
theorem mg_irem (C : mg_C z k A nL h kc ks cc own) {x y : Int32} (d : decode cc pc = .ok (.irem, 1)) (hne : ¬ y = 0) (g : mg z k A nL kc ks Q w lv (pc + 1) (.int (x - x / y * y) :: st)) : mg z k A nL kc ks Q w lv pc (.int y :: .int x :: st) := fun H locs ls hP hD hS hl => lv_irem C.1 C.2.1 d hne (g H locs ls hP hD hS hl)
theorem mg_dup (C : mg_C z k A nL h kc ks cc own) {a : Value} (d : decode cc pc = .ok (.dup, 1)) (ha : a.category = 1) (g : mg z k A nL kc ks Q w lv (pc + 1) (a :: a :: st)) : mg z k A nL kc ks Q w lv pc (a :: st) := fun H locs ls hP hD hS hl => lv_dup C.1 C.2.1 d ha (g H locs ls hP hD hS hl)
theorem mg_dup2 (C : mg_C z k A nL h kc ks cc own) {a b : Value} (d : decode cc pc = .ok (.dup2, 1)) (ha : a.category = 1) (hb : b.category = 1) (g : mg z k A nL kc ks Q w lv (pc + 1) (a :: b :: a :: b :: st)) : mg z k A nL kc ks Q w lv pc (a :: b :: st) := fun H locs ls hP hD hS hl => lv_dup2_11 C.1 C.2.1 d ha hb (g H locs ls hP hD hS hl)
theorem mg_pop (C : mg_C z k A nL h kc ks cc own) {a : Value} (d : decode cc pc = .ok (.pop, 1)) (ha : a.category = 1) (g : mg z k A nL kc ks Q w lv (pc + 1) (st)) : mg z k A nL kc ks Q w lv pc (a :: st) := fun H locs ls hP hD hS hl => lv_pop C.1 C.2.1 d ha (g H locs ls hP hD hS hl)
theorem mg_goto (C : mg_C z k A nL h kc ks cc own) {off : Int} {tgt : Nat} (d : decode cc pc = .ok (.goto off, 3)) (ht : (pc : Int) + off = (tgt : Int)) (g : mg z k A nL kc ks Q w lv tgt st) : mg z k A nL kc ks Q w lv pc st := fun H locs ls hP hD hS hl => lv_goto C.1 C.2.1 d ht (g H locs ls hP hD hS hl)
theorem mg_if_eq (C : mg_C z k A nL h kc ks cc own) {x : Int32} {off : Int} {tgt : Nat} (d : decode cc pc = .ok (.ifCond .eq off, 3)) (ht : (pc : Int) + off = (tgt : Int)) {α : Type} {a b r : α} (hf : (if x = 0 then a else b) = r) (kt : a = r → mg z k A nL kc ks Q w lv tgt st) (kf : b = r → mg z k A nL kc ks Q w lv (pc + 3) st) : mg z k A nL kc ks Q w lv pc (.int x :: st) := fun H locs ls hP hD hS hl => lv_if_eq C.1 C.2.1 d ht (fun e => kt (mg_t e hf) H locs ls hP hD hS hl) (fun e => kf (mg_f e hf) H locs ls hP hD hS hl)
theorem mg_icmp_eq (C : mg_C z k A nL h kc ks cc own) {x y : Int32} {off : Int} {tgt : Nat} (d : decode cc pc = .ok (.if_icmp .eq off, 3)) (ht : (pc : Int) + off = (tgt : Int)) {α : Type} {a b r : α} (hf : (if x = y then a else b) = r) (kt : a = r → mg z k A nL kc ks Q w lv tgt st) (kf : b = r → mg z k A nL kc ks Q w lv (pc + 3) st) : mg z k A nL kc ks Q w lv pc (.int y :: .int x :: st) := fun H locs ls hP hD hS hl => lv_icmp_eq C.1 C.2.1 d ht (fun e => kt (mg_t e hf) H locs ls hP hD hS hl) (fun e => kf (mg_f e hf) H locs ls hP hD hS hl)
theorem mg_if_ne (C : mg_C z k A nL h kc ks cc own) {x : Int32} {off : Int} {tgt : Nat} (d : decode cc pc = .ok (.ifCond .ne off, 3)) (ht : (pc : Int) + off = (tgt : Int)) {α : Type} {a b r : α} (hf : (if x = 0 then a else b) = r) (kt : b = r → mg z k A nL kc ks Q w lv tgt st) (kf : a = r → mg z k A nL kc ks Q w lv (pc + 3) st) : mg z k A nL kc ks Q w lv pc (.int x :: st) := fun H locs ls hP hD hS hl => lv_if_ne C.1 C.2.1 d ht (fun e => kt (mg_f e hf) H locs ls hP hD hS hl) (fun e => kf (mg_t e hf) H locs ls hP hD hS hl)
theorem mg_icmp_ne (C : mg_C z k A nL h kc ks cc own) {x y : Int32} {off : Int} {tgt : Nat} (d : decode cc pc = .ok (.if_icmp .ne off, 3)) (ht : (pc : Int) + off = (tgt : Int)) {α : Type} {a b r : α} (hf : (if x = y then a else b) = r) (kt : b = r → mg z k A nL kc ks Q w lv tgt st) (kf : a = r → mg z k A nL kc ks Q w lv (pc + 3) st) : mg z k A nL kc ks Q w lv pc (.int y :: .int x :: st) := fun H locs ls hP hD hS hl => lv_icmp_ne C.1 C.2.1 d ht (fun e => kt (mg_f e hf) H locs ls hP hD hS hl) (fun e => kf (mg_t e hf) H locs ls hP hD hS hl)
theorem mg_if_lt (C : mg_C z k A nL h kc ks cc own) {x : Int32} {off : Int} {tgt : Nat} (d : decode cc pc = .ok (.ifCond .lt off, 3)) (ht : (pc : Int) + off = (tgt : Int)) {α : Type} {a b r : α} (hf : (if x < 0 then a else b) = r) (kt : a = r → mg z k A nL kc ks Q w lv tgt st) (kf : b = r → mg z k A nL kc ks Q w lv (pc + 3) st) : mg z k A nL kc ks Q w lv pc (.int x :: st) := fun H locs ls hP hD hS hl => lv_if_lt C.1 C.2.1 d ht (fun e => kt (mg_t e hf) H locs ls hP hD hS hl) (fun e => kf (mg_f e hf) H locs ls hP hD hS hl)
theorem mg_icmp_lt (C : mg_C z k A nL h kc ks cc own) {x y : Int32} {off : Int} {tgt : Nat} (d : decode cc pc = .ok (.if_icmp .lt off, 3)) (ht : (pc : Int) + off = (tgt : Int)) {α : Type} {a b r : α} (hf : (if x < y then a else b) = r) (kt : a = r → mg z k A nL kc ks Q w lv tgt st) (kf : b = r → mg z k A nL kc ks Q w lv (pc + 3) st) : mg z k A nL kc ks Q w lv pc (.int y :: .int x :: st) := fun H locs ls hP hD hS hl => lv_icmp_lt C.1 C.2.1 d ht (fun e => kt (mg_t e hf) H locs ls hP hD hS hl) (fun e => kf (mg_f e hf) H locs ls hP hD hS hl)
theorem mg_if_ge (C : mg_C z k A nL h kc ks cc own) {x : Int32} {off : Int} {tgt : Nat} (d : decode cc pc = .ok (.ifCond .ge off, 3)) (ht : (pc : Int) + off = (tgt : Int)) {α : Type} {a b r : α} (hf : (if 0 ≤ x then a else b) = r) (kt : a = r → mg z k A nL kc ks Q w lv tgt st) (kf : b = r → mg z k A nL kc ks Q w lv (pc + 3) st) : mg z k A nL kc ks Q w lv pc (.int x :: st) := fun H locs ls hP hD hS hl => lv_if_ge C.1 C.2.1 d ht (fun e => kt (mg_t e hf) H locs ls hP hD hS hl) (fun e => kf (mg_f e hf) H locs ls hP hD hS hl)
theorem mg_icmp_ge (C : mg_C z k A nL h kc ks cc own) {x y : Int32} {off : Int} {tgt : Nat} (d : decode cc pc = .ok (.if_icmp .ge off, 3)) (ht : (pc : Int) + off = (tgt : Int)) {α : Type} {a b r : α} (hf : (if y ≤ x then a else b) = r) (kt : a = r → mg z k A nL kc ks Q w lv tgt st) (kf : b = r → mg z k A nL kc ks Q w lv (pc + 3) st) : mg z k A nL kc ks Q w lv pc (.int y :: .int x :: st) := fun H locs ls hP hD hS hl => lv_icmp_ge C.1 C.2.1 d ht (fun e => kt (mg_t e hf) H locs ls hP hD hS hl) (fun e => kf (mg_f e hf) H locs ls hP hD hS hl)
theorem mg_if_gt (C : mg_C z k A nL h kc ks cc own) {x : Int32} {off : Int} {tgt : Nat} (d : decode cc pc = .ok (.ifCond .gt off, 3)) (ht : (pc : Int) + off = (tgt : Int)) {α : Type} {a b r : α} (hf : (if 0 < x then a else b) = r) (kt : a = r → mg z k A nL kc ks Q w lv tgt st) (kf : b = r → mg z k A nL kc ks Q w lv (pc + 3) st) : mg z k A nL kc ks Q w lv pc (.int x :: st) := fun H locs ls hP hD hS hl => lv_if_gt C.1 C.2.1 d ht (fun e => kt (mg_t e hf) H locs ls hP hD hS hl) (fun e => kf (mg_f e hf) H locs ls hP hD hS hl)
theorem mg_icmp_gt (C : mg_C z k A nL h kc ks cc own) {x y : Int32} {off : Int} {tgt : Nat} (d : decode cc pc = .ok (.if_icmp .gt off, 3)) (ht : (pc : Int) + off = (tgt : Int)) {α : Type} {a b r : α} (hf : (if y < x then a else b) = r) (kt : a = r → mg z k A nL kc ks Q w lv tgt st) (kf : b = r → mg z k A nL kc ks Q w lv (pc + 3) st) : mg z k A nL kc ks Q w lv pc (.int y :: .int x :: st) := fun H locs ls hP hD hS hl => lv_icmp_gt C.1 C.2.1 d ht (fun e => kt (mg_t e hf) H locs ls hP hD hS hl) (fun e => kf (mg_f e hf) H locs ls hP hD hS hl)
theorem mg_if_le (C : mg_C z k A nL h kc ks cc own) {x : Int32} {off : Int} {tgt : Nat} (d : decode cc pc = .ok (.ifCond .le off, 3)) (ht : (pc : Int) + off = (tgt : Int)) {α : Type} {a b r : α} (hf : (if x ≤ 0 then a else b) = r) (kt : a = r → mg z k A nL kc ks Q w lv tgt st) (kf : b = r → mg z k A nL kc ks Q w lv (pc + 3) st) : mg z k A nL kc ks Q w lv pc (.int x :: st) := fun H locs ls hP hD hS hl => lv_if_le C.1 C.2.1 d ht (fun e => kt (mg_t e hf) H locs ls hP hD hS hl) (fun e => kf (mg_f e hf) H locs ls hP hD hS hl)
theorem mg_icmp_le (C : mg_C z k A nL h kc ks cc own) {x y : Int32} {off : Int} {tgt : Nat} (d : decode cc pc = .ok (.if_icmp .le off, 3)) (ht : (pc : Int) + off = (tgt : Int)) {α : Type} {a b r : α} (hf : (if x ≤ y then a else b) = r) (kt : a = r → mg z k A nL kc ks Q w lv tgt st) (kf : b = r → mg z k A nL kc ks Q w lv (pc + 3) st) : mg z k A nL kc ks Q w lv pc (.int y :: .int x :: st) := fun H locs ls hP hD hS hl => lv_icmp_le C.1 C.2.1 d ht (fun e => kt (mg_t e hf) H locs ls hP hD hS hl) (fun e => kf (mg_f e hf) H locs ls hP hD hS hl)
theorem mg_tableIn (C : mg_C z k A nL h kc ks cc own) {dflt lo hi : Int} {offs : Array Int} {len : Nat} {x : Int32} {off : Int} {tgt : Nat} (v : Int32) (hx : x = v) (d : decode cc pc = .ok (.tableswitch dflt lo hi offs, len)) (h1 : ¬ v.toInt < lo) (h2 : ¬ hi < v.toInt) (ho : offs[(v.toInt - lo).toNat]? = some off) (ht : (pc : Int) + off = (tgt : Int)) (g : mg z k A nL kc ks Q w lv tgt st) : mg z k A nL kc ks Q w lv pc (.int x :: st) := fun H locs ls hP hD hS hl => lv_tableIn C.1 C.2.1 d (by rw [hx]; exact h1) (by rw [hx]; exact h2) (by rw [hx]; exact ho) ht (g H locs ls hP hD hS hl)
theorem mg_tableOut (C : mg_C z k A nL h kc ks cc own) {dflt lo hi : Int} {offs : Array Int} {len : Nat} {x : Int32} {tgt : Nat} (d : decode cc pc = .ok (.tableswitch dflt lo hi offs, len)) (ho : x.toInt < lo ∨ hi < x.toInt) (ht : (pc : Int) + dflt = (tgt : Int)) (g : mg z k A nL kc ks Q w lv tgt st) : mg z k A nL kc ks Q w lv pc (.int x :: st) := fun H locs ls hP hD hS hl => lv_tableOut C.1 C.2.1 d ho ht (g H locs ls hP hD hS hl)
theorem mg_lookup (C : mg_C z k A nL h kc ks cc own) {dflt : Int} {ps : Array (Int × Int)} {len : Nat} {x : Int32} {off : Int} {tgt : Nat} (d : decode cc pc = .ok (.lookupswitch dflt ps, len)) (hp : (ps.toList.zip (ps.toList.drop 1)).all (fun (a, next) => a.1 < next.1) = true) (ho : Op.lookupswitch.offset ps.toList dflt x.toInt = off) (ht : (pc : Int) + off = (tgt : Int)) (g : mg z k A nL kc ks Q w lv tgt st) : mg z k A nL kc ks Q w lv pc (.int x :: st) := fun H locs ls hP hD hS hl => lv_lookup C.1 C.2.1 d hp ho ht (g H locs ls hP hD hS hl)
theorem mg_ne {x c : Int32} {i : Int} (h : ¬ x = c) (hc : c.toInt = i) : x.toInt ≠ i := fun e => h (Int32.toInt_inj.mp (e.trans hc.symm))
theorem mg_get (C : mg_C z k A nL h kc ks cc own) {a ci : Nat} {fs : List Value} {Cn : String} {T : u_T} {N : Nat} {ref : String} {idx : Nat} {v : Value} (q0 : Nat) (he : w[q0]? = some (a, .inr (ci, fs))) (hc : vwCl[ci]? = some (Cn, T, N)) (hin : ∀ x ∈ u_ws Cn T N, x ∈ lw_g) (j : Nat) (hj : j < N) (hl : Cond.fieldLink own idx ref (T j).2.1 (T j).2.2.1 ∈ lw_g) (hs : (T j).1 = ref) (hv : fs[j]? = some v) (d : decode cc pc = .ok (.getfield idx, 3)) (g : mg z k A nL kc ks Q w lv (pc + 3) (v :: st)) : mg z k A nL kc ks Q w lv pc (.ref a :: st) := fun H locs ls hP hD hS hl0 => va_get C.1 C.2.1 C.2.2.2.2.1 hin C.2.2.2.1 C.2.2.2.2.2.1 hP q0 he hc j hj (C.2.2.2.2.1 _ hl) (fun x h9 => by rw [← hs]; exact h9) hv d (g H locs ls hP hD hS hl0)
theorem mg_puti (C : mg_C z k A nL h kc ks cc own) {a ci : Nat} {fs : List Value} {Cn : String} {T : u_T} {N : Nat} {ref : String} {idx : Nat} {x : Int32} {w2 : va_W} (q0 : Nat) (he : w[q0]? = some (a, .inr (ci, fs))) (hc : vwCl[ci]? = some (Cn, T, N)) (hin : ∀ x ∈ u_ws Cn T N, x ∈ lw_g) (j : Nat) (hj : j < N) (hl : Cond.fieldLink own idx ref (T j).2.1 (T j).2.2.1 ∈ lw_g) (hs : (T j).1 = ref) (ty0 : Nat → FieldType) (hty : ∀ k, k < N → parseFieldDescriptor (T k).2.2.1 = some (ty0 k)) (hnm : ∀ a, a < N → ∀ b, b < N → a ≠ b → (T a).2.1 ≠ (T b).2.1) (hfin : (T j).2.2.2 = false) (hd : parseFieldDescriptor (T j).2.2.1 = some .int) (hlt : j < fs.length) (hw : w.set q0 (a, .inr (ci, fs.set j (.int x))) = w2) (d : decode cc pc = .ok (.putfield idx, 3)) (g : mg z k A nL kc ks Q w2 lv (pc + 3) st) : mg z k A nL kc ks Q w lv pc (.int x :: .ref a :: st) := fun H locs ls hP hD hS hl0 => va_put C.1 C.2.1 C.2.2.2.2.1 hin ty0 hty hnm C.2.2.2.1 C.2.2.2.2.2.1 hP hD hS q0 he hc j hj (C.2.2.2.2.1 _ hl) (fun x h9 => by rw [← hs]; exact h9) hfin hd rfl rfl hlt d (fun H1 locs1 hP1 hD1 hS1 => g H1 locs1 ls (by rw [← hw]; exact hP1) (by rw [← hw]; exact hD1) hS1 hl0)
theorem mg_iald (C : mg_C z k A nL h kc ks cc own) {a n : Nat} {f : Nat → Int32} {i : Int32} {α : Type} {K : Option α} {r : α} (q0 : Nat) (ha : w[q0]? = some (a, .inl (k.2.1, n, .inl f))) (d : decode cc pc = .ok (.iaload, 1)) (hf : (if mg_ix i n = true then K else none) = some r) (g : K = some r → mg z k A nL kc ks Q w lv (pc + 1) (.int (f i.toNatClampNeg) :: st)) : mg z k A nL kc ks Q w lv pc (.int i :: .ref a :: st) := fun H locs ls hP hD hS hl => va_iald C.1 C.2.1 C.2.2.2.2.2.1 hP q0 0 ha rfl (mg_ix_in (mg_ck hf).1) d (g (mg_ck hf).2 H locs ls hP hD hS hl)
theorem mg_ialdK (C : mg_C z k A nL h kc ks cc own) {a n : Nat} {f : Nat → Int32} {i : Int32} (q0 j : Nat) (ha : w[q0]? = some (a, .inl (k.2.1, n, .inl f))) (d : decode cc pc = .ok (.iaload, 1)) (hi : mg_ix i n = true) (hj : i.toNatClampNeg = j) (g : mg z k A nL kc ks Q w lv (pc + 1) (.int (f j) :: st)) : mg z k A nL kc ks Q w lv pc (.int i :: .ref a :: st) := fun H locs ls hP hD hS hl => va_iald C.1 C.2.1 C.2.2.2.2.2.1 hP q0 0 ha rfl (mg_ix_in hi) d (by rw [hj]; exact g H locs ls hP hD hS hl)
theorem mg_cald (C : mg_C z k A nL h kc ks cc own) {a n : Nat} {f : Nat → Int32} {i : Int32} {α : Type} {K : Option α} {r : α} (q0 : Nat) (ha : w[q0]? = some (a, .inl (k.2.2.1, n, .inl f))) (d : decode cc pc = .ok (.caload, 1)) (hf : (if mg_ix i n = true then K else none) = some r) (g : K = some r → mg z k A nL kc ks Q w lv (pc + 1) (.int (f i.toNatClampNeg) :: st)) : mg z k A nL kc ks Q w lv pc (.int i :: .ref a :: st) := fun H locs ls hP hD hS hl => va_cald C.1 C.2.1 C.2.2.2.2.2.1 hP q0 1 ha rfl (mg_ix_in (mg_ck hf).1) d (g (mg_ck hf).2 H locs ls hP hD hS hl)
theorem mg_caldK (C : mg_C z k A nL h kc ks cc own) {a n : Nat} {f : Nat → Int32} {i : Int32} (q0 j : Nat) (ha : w[q0]? = some (a, .inl (k.2.2.1, n, .inl f))) (d : decode cc pc = .ok (.caload, 1)) (hi : mg_ix i n = true) (hj : i.toNatClampNeg = j) (g : mg z k A nL kc ks Q w lv (pc + 1) (.int (f j) :: st)) : mg z k A nL kc ks Q w lv pc (.int i :: .ref a :: st) := fun H locs ls hP hD hS hl => va_cald C.1 C.2.1 C.2.2.2.2.2.1 hP q0 1 ha rfl (mg_ix_in hi) d (by rw [hj]; exact g H locs ls hP hD hS hl)
theorem mg_iast (C : mg_C z k A nL h kc ks cc own) {a n : Nat} {f : Nat → Int32} {i x : Int32} {α : Type} {K : Option α} {r : α} {w2 : va_W} (q0 : Nat) (ha : w[q0]? = some (a, .inl (k.2.1, n, .inl f))) (d : decode cc pc = .ok (.iastore, 1)) (hf : (if mg_ix i n = true then K else none) = some r) (hw : w.set q0 (a, .inl (k.2.1, n, .inl (upd f i.toNatClampNeg x))) = w2) (g : K = some r → mg z k A nL kc ks Q w2 lv (pc + 1) st) : mg z k A nL kc ks Q w lv pc (.int x :: .int i :: .ref a :: st) := fun H locs ls hP hD hS hl => va_iast C.1 C.2.1 C.2.2.2.2.2.1 hP hD hS q0 0 ha rfl (mg_ix_in (mg_ck hf).1) d (fun H1 locs1 hP1 hD1 hS1 => g (mg_ck hf).2 H1 locs1 ls (by rw [← hw]; exact hP1) (by rw [← hw]; exact hD1) hS1 hl)
theorem mg_iastK (C : mg_C z k A nL h kc ks cc own) {a n : Nat} {f : Nat → Int32} {i x : Int32} {w2 : va_W} (q0 j : Nat) (ha : w[q0]? = some (a, .inl (k.2.1, n, .inl f))) (d : decode cc pc = .ok (.iastore, 1)) (hi : mg_ix i n = true) (hj : i.toNatClampNeg = j) (hw : w.set q0 (a, .inl (k.2.1, n, .inl (upd f j x))) = w2) (g : mg z k A nL kc ks Q w2 lv (pc + 1) st) : mg z k A nL kc ks Q w lv pc (.int x :: .int i :: .ref a :: st) := fun H locs ls hP hD hS hl => va_iast C.1 C.2.1 C.2.2.2.2.2.1 hP hD hS q0 0 ha rfl (mg_ix_in hi) d (fun H1 locs1 hP1 hD1 hS1 => g H1 locs1 ls (by rw [← hw, ← hj]; exact hP1) (by rw [← hw, ← hj]; exact hD1) hS1 hl)
theorem mg_cast (C : mg_C z k A nL h kc ks cc own) {a n : Nat} {f : Nat → Int32} {i x : Int32} {α : Type} {K : Option α} {r : α} {w2 : va_W} (q0 : Nat) (ha : w[q0]? = some (a, .inl (k.2.2.1, n, .inl f))) (d : decode cc pc = .ok (.castore, 1)) (hf : (if mg_ix i n = true then K else none) = some r) (hw : w.set q0 (a, .inl (k.2.2.1, n, .inl (upd f i.toNatClampNeg (vp_nar .char x)))) = w2) (g : K = some r → mg z k A nL kc ks Q w2 lv (pc + 1) st) : mg z k A nL kc ks Q w lv pc (.int x :: .int i :: .ref a :: st) := fun H locs ls hP hD hS hl => va_cast C.1 C.2.1 C.2.2.2.2.2.1 hP hD hS q0 1 ha rfl (mg_ix_in (mg_ck hf).1) d (fun H1 locs1 hP1 hD1 hS1 => g (mg_ck hf).2 H1 locs1 ls (by rw [← hw]; exact hP1) (by rw [← hw]; exact hD1) hS1 hl)
theorem mg_castK (C : mg_C z k A nL h kc ks cc own) {a n : Nat} {f : Nat → Int32} {i x : Int32} {w2 : va_W} (q0 j : Nat) (ha : w[q0]? = some (a, .inl (k.2.2.1, n, .inl f))) (d : decode cc pc = .ok (.castore, 1)) (hi : mg_ix i n = true) (hj : i.toNatClampNeg = j) (hw : w.set q0 (a, .inl (k.2.2.1, n, .inl (upd f j (vp_nar .char x)))) = w2) (g : mg z k A nL kc ks Q w2 lv (pc + 1) st) : mg z k A nL kc ks Q w lv pc (.int x :: .int i :: .ref a :: st) := fun H locs ls hP hD hS hl => va_cast C.1 C.2.1 C.2.2.2.2.2.1 hP hD hS q0 1 ha rfl (mg_ix_in hi) d (fun H1 locs1 hP1 hD1 hS1 => g H1 locs1 ls (by rw [← hw, ← hj]; exact hP1) (by rw [← hw, ← hj]; exact hD1) hS1 hl)
theorem mg_aald (C : mg_C z k A nL h kc ks cc own) {a n : Nat} {f : Nat → Option Nat} {i : Int32} {α : Type} {K : Option α} {r : α} (q0 : Nat) (ha : w[q0]? = some (a, .inl (k.2.2.2.1, n, .inr (.inr (.inr (.inr f)))))) (d : decode cc pc = .ok (.aaload, 1)) (hf : (if mg_ix i n = true then K else none) = some r) (g : K = some r → mg z k A nL kc ks Q w lv (pc + 1) (va_rf (f i.toNatClampNeg) :: st)) : mg z k A nL kc ks Q w lv pc (.int i :: .ref a :: st) := fun H locs ls hP hD hS hl => va_aldq C.1 C.2.1 C.2.2.2.2.2.1 hP q0 2 ha rfl (mg_ix_in (mg_ck hf).1) d (g (mg_ck hf).2 H locs ls hP hD hS hl)
theorem mg_alen (C : mg_C z k A nL h kc ks cc own) {a : Nat} {cA : ClassId} {x : vp_A} {ty : FieldType} {v : Int32} (q0 t0 : Nat) (ha : w[q0]? = some (a, .inl (cA, x))) (ht : (mg_ty k)[t0]? = some (cA, ty)) (hv : Int32.ofNat x.1 = v) (d : decode cc pc = .ok (.arraylength, 1)) (g : mg z k A nL kc ks Q w lv (pc + 1) (.int v :: st)) : mg z k A nL kc ks Q w lv pc (.ref a :: st) := fun H locs ls hP hD hS hl => va_alen C.1 C.2.1 C.2.2.2.2.2.1 hP q0 t0 ha ht hv d (g H locs ls hP hD hS hl)
theorem mg_copy (C : mg_C z k A nL h kc ks cc own) {a0 a n0 n1 idx : Nat} {f g0 : Nat → Int32} {sp dp n : Int32} {α : Type} {K : Option α} {r : α} {w2 : va_W} (hm : Cond.methodLink own idx arraycopyName ∈ lw_g) (h1 : Cond.native arraycopyName ∈ lw_g) (h2 : Cond.static arraycopyName ∈ lw_g) (h3 : Cond.initialized "java/lang/System" ∈ lw_g) (hh : 1 ≤ h) (hst : (st.map fun v => v.category).sum ≤ 8) (q0 q1 : Nat) (ha0 : w[q0]? = some (a0, .inl (k.2.1, n0, .inl f))) (ha1 : w[q1]? = some (a, .inl (k.2.1, n1, .inl g0))) (d : decode cc pc = .ok (.invokestatic idx, 3)) (hf : (if mg_cp sp dp n n0 n1 = true then K else none) = some r) (hw : w.set q1 (a, .inl (k.2.1, n1, .inl (va_cpy f g0 sp.toNatClampNeg dp.toNatClampNeg n.toNatClampNeg))) = w2) (g : K = some r → mg z k A nL kc ks Q w2 lv (pc + 3) st) : mg z k A nL kc ks Q w lv pc (.int n :: .int dp :: .ref a :: .int sp :: .ref a0 :: st) := by
  intro H locs ls hP hD hS hl
  obtain ⟨hc, hf⟩ := mg_ck hf
  simp only [mg_cp, Bool.and_eq_true, decide_eq_true_eq] at hc
  have hF := C.2.2.2.2.2.2.2.1
  have hL := C.2.2.2.2.2.2.2.2.1
  have hnf : nativeFrameWords "java/lang/System" "arraycopy" 5 + 11 ≤ 30 := by decide +kernel
  exact va_copyi C.1 C.2.1 (C.2.2.1.trans hl.1.symm) C.2.2.2.1 (C.2.2.2.2.1 _ hm) (C.2.2.2.2.1 _ h1) (C.2.2.2.2.1 _ h2) (C.2.2.2.2.1 _ h3) C.2.2.2.2.2.1 hP hD hS q0 q1 0 0 ha0 ha1 rfl rfl rfl hc.1 hc.2.1 hc.2.2.1 hc.2.2.2.1 hc.2.2.2.2 (fun _ _ => rfl) (Nat.le_trans hh hF) (by omega) d (fun H1 locs1 hP1 hD1 hS1 => g hf H1 locs1 ls (by rw [← hw]; exact hP1) (by rw [← hw]; exact hD1) hS1 hl)
theorem mg_mmax (C : mg_C z k A nL h kc ks cc own) {x y : Int32} {idx : Nat} (hm : Cond.methodLink own idx Lib.Math.max.name ∈ lw_g) (h1 : Cond.static Lib.Math.max.name ∈ lw_g) (h2 : Cond.initialized "java/lang/Math" ∈ lw_g) (h3 : Cond.code Lib.Math.max.name Lib.Math.max.code 2 (some .int) ∈ lw_g) (hh : 1 ≤ h) (hst : (st.map fun v => v.category).sum ≤ 8) (d : decode cc pc = .ok (.invokestatic idx, 3)) (g : mg z k A nL kc ks Q w lv (pc + 3) (.int (mg_mx x y) :: st)) : mg z k A nL kc ks Q w lv pc (.int y :: .int x :: st) := by
  intro H locs ls hP hD hS hl
  have hF := C.2.2.2.2.2.2.2.1
  have hL := C.2.2.2.2.2.2.2.2.1
  exact va_mmax C.1 C.2.1 (C.2.2.1.trans hl.1.symm) C.2.2.2.1 (C.2.2.2.2.1 _ hm) (C.2.2.2.2.1 _ h1) (C.2.2.2.2.1 _ h2) (C.2.2.2.2.1 _ h3) (Nat.le_trans hh hF) (by omega) C.2.2.2.2.2.2.2.2.2.1 C.2.2.2.2.2.2.2.2.2.2.1 d (g H locs ls hP hD hS hl)
theorem mg_mmin (C : mg_C z k A nL h kc ks cc own) {x y : Int32} {idx : Nat} (hm : Cond.methodLink own idx Lib.Math.min.name ∈ lw_g) (h1 : Cond.static Lib.Math.min.name ∈ lw_g) (h2 : Cond.initialized "java/lang/Math" ∈ lw_g) (h3 : Cond.code Lib.Math.min.name Lib.Math.min.code 2 (some .int) ∈ lw_g) (hh : 1 ≤ h) (hst : (st.map fun v => v.category).sum ≤ 8) (d : decode cc pc = .ok (.invokestatic idx, 3)) (g : mg z k A nL kc ks Q w lv (pc + 3) (.int (mg_mn x y) :: st)) : mg z k A nL kc ks Q w lv pc (.int y :: .int x :: st) := by
  intro H locs ls hP hD hS hl
  have hF := C.2.2.2.2.2.2.2.1
  have hL := C.2.2.2.2.2.2.2.2.1
  exact va_mmin C.1 C.2.1 (C.2.2.1.trans hl.1.symm) C.2.2.2.1 (C.2.2.2.2.1 _ hm) (C.2.2.2.2.1 _ h1) (C.2.2.2.2.1 _ h2) (C.2.2.2.2.1 _ h3) (Nat.le_trans hh hF) (by omega) C.2.2.2.2.2.2.2.2.2.1 C.2.2.2.2.2.2.2.2.2.2.1 d (g H locs ls hP hD hS hl)
theorem mg_mabs (C : mg_C z k A nL h kc ks cc own) {x : Int32} {idx : Nat} (hm : Cond.methodLink own idx Lib.Math.abs.name ∈ lw_g) (h1 : Cond.static Lib.Math.abs.name ∈ lw_g) (h2 : Cond.initialized "java/lang/Math" ∈ lw_g) (h3 : Cond.code Lib.Math.abs.name Lib.Math.abs.code 1 (some .int) ∈ lw_g) (hh : 1 ≤ h) (hst : (st.map fun v => v.category).sum ≤ 8) (d : decode cc pc = .ok (.invokestatic idx, 3)) (g : mg z k A nL kc ks Q w lv (pc + 3) (.int (mg_ab x) :: st)) : mg z k A nL kc ks Q w lv pc (.int x :: st) := by
  intro H locs ls hP hD hS hl
  have hF := C.2.2.2.2.2.2.2.1
  have hL := C.2.2.2.2.2.2.2.2.1
  exact va_mabs C.1 C.2.1 (C.2.2.1.trans hl.1.symm) C.2.2.2.1 (C.2.2.2.2.1 _ hm) (C.2.2.2.2.1 _ h1) (C.2.2.2.2.1 _ h2) (C.2.2.2.2.1 _ h3) (Nat.le_trans hh hF) (by omega) C.2.2.2.2.2.2.2.2.2.1 C.2.2.2.2.2.2.2.2.2.2.1 d (g H locs ls hP hD hS hl)
theorem mg_core {wc wc' : va_W} {r : Option Value} {H : Heap} {locs : List Loc} {ls : Array Slot} {st0 rest : List Value} {a : Array Value} (hr : va_Run z.1 z.2.1 z.2.2.1 (mg_R z) (mg_s z) (mg_m z) (mg_a z) z.2.2.2.2.2.2.2.1 z.2.2.2.2.2.2.2.2.1 (mg_c z) H locs kc ks 0 0 (F0 (mg_m z) pc ls st0) rest (mg_Q k wc wc' r H.size a) (va_A wc H.size)) (hP : va_P k.1 vwCl w H) (hD : va_D A w) (hS : va_S A (mg_s z).heap H locs) (hl : lv_has ls nL lv) (hA : ∀ q, (mg_s z).heap.size ≤ q → A q) (is : List Nat) (hC : is.map (fun i => w[i]?) = wc.map some) (had : wc'.map (fun q => q.1) = wc.map (fun q => q.1)) {ps : List (Option Nat)} (hok : mg_ok is ps = true) (g : mg z k A nL kc ks Q (mg_mix w ps wc') lv (pc + 3) (r.toList ++ rest)) : mg_W z H locs kc ks Q (F0 (mg_m z) pc ls st0) := by
  intro T hT X
  obtain ⟨v, st₀, t, T', L, h0, X', hL, e1, e2, ⟨hv, hP1, hD1, hz, hk⟩, sp⟩ := hr T hT X
  cases hv
  rw [h0] at hz hk
  have hF := va_free hD hS hA is hC
  rw [← e1] at hz hk hP1
  obtain ⟨t2, a1, b1⟩ := g T'.heap (locs ++ L) ls (mg_put_P hP hD hC had hk hok hP1) (mg_put_D hD hC had hok) ⟨Nat.le_trans hS.1 hz, fun q h1 h2 => by rw [hk q (Nat.lt_of_lt_of_le h1 hS.1) (fun z => h2 (hF q z))]; exact hS.2.1 q h1 h2, fun q hq => by
      rcases List.mem_append.mp hq with h | h
      · exact hS.2.2 q h
      · exact hF _ (hL q h)⟩ hl T' rfl X'
  exact ⟨t2, sp t2 a1, b1⟩
theorem mg_blind {as : List Value} {sz : Nat} : FrameBlind (mg_P k as w sz) := by
  intro a U g mk q
  obtain ⟨q0, q1, qP, qK, qD, qN⟩ := q
  exact ⟨q0, q1, qP, va_K.moved (u := U) (U := U.calling g mk a) (Vm.Alike.refl U.vm) qK, qD, mg_N.same (u := U) rfl qN⟩
theorem mg_pre {wc : va_W} {H : Heap} {as : List Value} {locs : List Loc} (hP : va_P k.1 vwCl w H) (hD : va_D A w) (hK : va_K k.1 vwCl (mg_ty k) (mg_s z)) (hS : va_S A (mg_s z).heap H locs) (hA : ∀ q, (mg_s z).heap.size ≤ q → A q) (hN : mg_N k A (mg_s z) (mg_s z).heap) (is : List Nat) (hC : is.map (fun i => w[i]?) = wc.map some) (hnd : va_nd is = true) : ∀ U : State, U.heap = H → (mg_s z).WarmedH U.vm → mg_P k as wc H.size as.toArray U := by
  intro U hU hW
  refine ⟨rfl, by rw [hU], ?_, va_K.moved hW.alike hK, (hD.sub is hnd hC).weaken (fun _ _ _ _ => trivial), ?_⟩
  rotate_left
  · rw [hU]
    exact hN.step hS (va_free hD hS hA is hC) hW
  rw [hU]
  intro i q hq
  obtain ⟨j, h1, h2⟩ := mg_at2 hC hq
  exact hP j q h2
theorem mg_callV (C : mg_C z k A nL h kc ks cc own) {y : MethodName} {cy : ByteArray} {ny n hc idx a ci : Nat} {fs : List Value} {Cn : String} {T : u_T} {N : Nat} {ret : Option FieldType} {as : List Value} {wc wc' w2 : va_W} {r : Option Value} (hM : mg_M z.2.1 y cy ny ret hc k (.ref a :: as) wc wc' r) (Y : mg_Y y cy ny ret n) (hm : Cond.methodLink own idx y ∈ lw_g) (hh : hc < h) (hn : as.length = n) (q0 : Nat) (he : w[q0]? = some (a, .inr (ci, fs))) (hci : vwCl[ci]? = some (Cn, T, N)) (hy : y.cls = Cn) (is : List Nat) (hC : is.map (fun i => w[i]?) = wc.map some) (hnd : va_nd is = true) (had : wc'.map (fun q => q.1) = wc.map (fun q => q.1)) (ps : List (Option Nat)) (hok : mg_ok is ps = true) (hw : mg_mix w ps wc' = w2) {rest st0 : List Value} (hst : (rest.map fun v => v.category).sum ≤ 8) (h0 : as.reverse ++ .ref a :: rest = st0) (d : decode cc pc = .ok (.invokevirtual idx, 3)) (g : mg z k A nL kc ks Q w2 lv (pc + 3) (r.toList ++ rest)) : mg z k A nL kc ks Q w lv pc st0 := by
  intro H locs ls hP hD hS hl
  have hF := C.2.2.2.2.2.2.2.1
  have hL := C.2.2.2.2.2.2.2.2.1
  subst hy
  subst h0
  have hts := C.2.2.2.2.1
  refine mg_core (va_runV (Ts := lw_g) (own := own) (C := y.cls) (b := a) (As := as) (n := n) ⟨C.1, C.2.1, C.2.2.1, C.2.2.2.1, hts⟩ (hM H.size) ⟨callB_of n hts (mg_good Y.2.2.2.1) rfl rfl rfl (hts _ Y.2.2.1) (hts _ hm) Y.2.2.2.2.1 ⟨?_, ?_⟩, hts _ Y.1, hts _ Y.2.1⟩ ⟨mg_blind, va_recv C.2.2.2.2.2.1 hP hci he, mg_pre hP hD C.2.2.2.2.2.1 hS C.2.2.2.2.2.2.1 C.2.2.2.2.2.2.2.2.2.2.2 is hC hnd⟩ rfl hn hl.1 rfl (lv_room hst) d ⟨C.2.2.2.2.2.2.2.2.2.1, C.2.2.2.2.2.2.2.2.2.2.1⟩) hP hD hS hl C.2.2.2.2.2.2.1 is hC had hok (by rw [hw]; exact g)
  · show hc + 1 ≤ _
    omega
  · show 8 + (ny + 11) + 40 * hc ≤ _
    have := Y.2.2.2.2.2
    omega
theorem mg_callS (C : mg_C z k A nL h kc ks cc own) {y : MethodName} {cy : ByteArray} {ny n hc idx : Nat} {ret : Option FieldType} {as : List Value} {wc wc' w2 : va_W} {r : Option Value} (hM : mg_M z.2.1 y cy ny ret hc k as wc wc' r) (Y : mg_YS y cy ny ret n) (hm : Cond.methodLink own idx y ∈ lw_g) (hh : hc < h) (hn : as.length = n) (is : List Nat) (hC : is.map (fun i => w[i]?) = wc.map some) (hnd : va_nd is = true) (had : wc'.map (fun q => q.1) = wc.map (fun q => q.1)) (ps : List (Option Nat)) (hok : mg_ok is ps = true) (hw : mg_mix w ps wc' = w2) {rest st0 : List Value} (hst : (rest.map fun v => v.category).sum ≤ 8) (h0 : as.reverse ++ rest = st0) (d : decode cc pc = .ok (.invokestatic idx, 3)) (g : mg z k A nL kc ks Q w2 lv (pc + 3) (r.toList ++ rest)) : mg z k A nL kc ks Q w lv pc st0 := by
  intro H locs ls hP hD hS hl
  have hF := C.2.2.2.2.2.2.2.1
  have hL := C.2.2.2.2.2.2.2.2.1
  subst h0
  have hts := C.2.2.2.2.1
  refine mg_core (va_runS (Ts := lw_g) (own := own) (As := as) (n := n) ⟨C.1, C.2.1, C.2.2.1, C.2.2.2.1, hts⟩ (hM H.size) ⟨callB_of n hts (mg_good Y.2.2.1) rfl rfl rfl (hts _ Y.2.1) (hts _ hm) Y.2.2.2.1 ⟨?_, ?_⟩, hts _ Y.1⟩ ⟨mg_blind, mg_pre hP hD C.2.2.2.2.2.1 hS C.2.2.2.2.2.2.1 C.2.2.2.2.2.2.2.2.2.2.2 is hC hnd⟩ rfl hn hl.1 rfl (lv_room hst) d ⟨C.2.2.2.2.2.2.2.2.2.1, C.2.2.2.2.2.2.2.2.2.2.1⟩) hP hD hS hl C.2.2.2.2.2.2.1 is hC had hok (by rw [hw]; exact g)
  · show hc + 1 ≤ _
    omega
  · show 8 + (ny + 11) + 40 * hc ≤ _
    have := Y.2.2.2.2
    omega
theorem mg_callSN (C : mg_C z k A nL h kc ks cc own) {y : MethodName} {cy : ByteArray} {ny n hc idx : Nat} {host : String} {ret : Option FieldType} {as : List Value} {wc wc' w2 : va_W} {r : Option Value} (hM : mg_M z.2.1 y cy ny ret hc k as wc wc' r) (Y : mg_YS y cy ny ret n) (hm : Cond.methodLinkNest own idx y host ∈ mg_nw) (hh : hc < h) (hn : as.length = n) (is : List Nat) (hC : is.map (fun i => w[i]?) = wc.map some) (hnd : va_nd is = true) (had : wc'.map (fun q => q.1) = wc.map (fun q => q.1)) (ps : List (Option Nat)) (hok : mg_ok is ps = true) (hw : mg_mix w ps wc' = w2) {rest st0 : List Value} (hst : (rest.map fun v => v.category).sum ≤ 8) (h0 : as.reverse ++ rest = st0) (d : decode cc pc = .ok (.invokestatic idx, 3)) (g : mg z k A nL kc ks Q w2 lv (pc + 3) (r.toList ++ rest)) : mg z k A nL kc ks Q w lv pc st0 := by
  intro H locs ls hP hD hS hl
  have hF := C.2.2.2.2.2.2.2.1
  have hL := C.2.2.2.2.2.2.2.2.1
  subst h0
  have hts := C.2.2.2.2.1
  refine mg_core (va_runSN (Ts := lw_g) (own := own) (host := host) (As := as) (n := n) ⟨C.1, C.2.1, C.2.2.1, C.2.2.2.1, hts⟩ (hM H.size) ⟨⟨⟨rfl, rfl, ?_, ?_, pay_in hts (mg_good Y.2.2.1), List.mem_cons_self⟩, hts _ Y.2.2.1, hts _ Y.2.1, ⟨Y.2.2.2.1.1, Y.2.2.2.1.2.1⟩, fun sig e => ?_, va_Nw.use rfl (C.2.2.2.2.2.2.2.2.2.2.2.1 _ hm)⟩, hts _ Y.1, trivial⟩ ⟨mg_blind, mg_pre hP hD C.2.2.2.2.2.1 hS C.2.2.2.2.2.2.1 C.2.2.2.2.2.2.2.2.2.2.2 is hC hnd⟩ rfl hn hl.1 rfl (lv_room hst) d ⟨C.2.2.2.2.2.2.2.2.2.1, C.2.2.2.2.2.2.2.2.2.2.1⟩) hP hD hS hl C.2.2.2.2.2.2.1 is hC had hok (by rw [hw]; exact g)
  · show hc + 1 ≤ _
    omega
  · show 8 + (ny + 11) + 40 * hc ≤ _
    have := Y.2.2.2.2
    omega
  · have h2 := Y.2.2.2.1.2.2
    rw [e] at h2
    exact (Option.some.inj h2).symm
end MG
theorem mg_Mi {l : Launch} {y : MethodName} {cy : ByteArray} {n h : Nat} {k : mg_K} {as : List Value} {w w' : va_W} {r : Int32} (own : String) (lv : List (Nat × Value)) (hy : plainFor y = true) (hown : y.cls = own) (hlv : lv_args 0 as = lv) (hn : (lg_sl as).length ≤ n) (body : ∀ (z : mg_Z) (A : Nat → Prop) (Q : State → Prop), z.2.1 = l → mg_C z k A n h 0 0 cy own → mg_E z k A n 0 0 Q cy w' .ireturn [.int r] → mg z k A n 0 0 Q w lv 0 []) : mg_M l y cy n (some .int) h k as w w' (some (.int r)) := by
  intro sz
  refine va_MetF (cc := cy) (maxL := n) (ret := some .int) hy rfl ?_
  intro p e s m args below meth c s₁ B hml hv
  obtain ⟨rfl, hsz, hP, hK, hD0, hN⟩ := hv
  have hts : ∀ w ∈ lw_g, w.before as.toArray s = true := fun w hw => atoms_spec (ws := Cond.code y cy n (some .int) :: lw_g) B.pre w (List.mem_cons_of_mem _ hw)
  have hfc : s.vm.findClass y.cls = some m.cls := findClass_of_methodNamed B.named
  subst hsz
  subst hown
  rw [lg_entry_eq]
  refine body (p, l, e, _, s, m, as.toArray, below, meth, c) (va_A w s.heap.size) _ rfl ⟨B.exec, B.bytes, hml, hfc, hts, hK, fun q hq => Or.inr hq, Nat.le_refl _, Nat.le_refl _, Nat.zero_le _, Nat.zero_le _, hN⟩ ?_ s.heap [] _ hP hD0.self va_S.rf (hlv ▸ lv_entry as hn)
  intro pc lv2 d H locs ls hP1 hD1 hS1 hl1
  exact W.iret B.exec B.bytes B.returns (fun t ht hW => ⟨rfl, by rw [ht]; exact hP1, hD1, hS1.F ht⟩) hS1.2.2 d (hlocks := B.notSynchronized)
theorem mg_Mz {l : Launch} {y : MethodName} {cy : ByteArray} {n h : Nat} {k : mg_K} {as : List Value} {w w' : va_W} {r : Int32} (own : String) (lv : List (Nat × Value)) (hy : plainFor y = true) (hown : y.cls = own) (hlv : lv_args 0 as = lv) (hn : (lg_sl as).length ≤ n) (body : ∀ (z : mg_Z) (A : Nat → Prop) (Q : State → Prop), z.2.1 = l → mg_C z k A n h 0 0 cy own → (narrow .boolean (.int r) = .int r → mg_E z k A n 0 0 Q cy w' .ireturn [.int r]) → mg z k A n 0 0 Q w lv 0 []) : mg_M l y cy n (some .boolean) h k as w w' (some (.int r)) := by
  intro sz
  refine va_MetF (cc := cy) (maxL := n) (ret := some .boolean) hy rfl ?_
  intro p e s m args below meth c s₁ B hml hv
  obtain ⟨rfl, hsz, hP, hK, hD0, hN⟩ := hv
  have hts : ∀ w ∈ lw_g, w.before as.toArray s = true := fun w hw => atoms_spec (ws := Cond.code y cy n (some .boolean) :: lw_g) B.pre w (List.mem_cons_of_mem _ hw)
  have hfc : s.vm.findClass y.cls = some m.cls := findClass_of_methodNamed B.named
  subst hsz
  subst hown
  rw [lg_entry_eq]
  refine body (p, l, e, _, s, m, as.toArray, below, meth, c) (va_A w s.heap.size) _ rfl ⟨B.exec, B.bytes, hml, hfc, hts, hK, fun q hq => Or.inr hq, Nat.le_refl _, Nat.le_refl _, Nat.zero_le _, Nat.zero_le _, hN⟩ ?_ s.heap [] _ hP hD0.self va_S.rf (hlv ▸ lv_entry as hn)
  intro hr pc lv2 d H locs ls hP1 hD1 hS1 hl1
  exact W.zret B.exec B.bytes B.returns hr (fun t ht hW => ⟨rfl, by rw [ht]; exact hP1, hD1, hS1.F ht⟩) hS1.2.2 d (hlocks := B.notSynchronized)
theorem mg_Mv {l : Launch} {y : MethodName} {cy : ByteArray} {n h : Nat} {k : mg_K} {as : List Value} {w w' : va_W} (own : String) (lv : List (Nat × Value)) (hy : plainFor y = true) (hown : y.cls = own) (hlv : lv_args 0 as = lv) (hn : (lg_sl as).length ≤ n) (body : ∀ (z : mg_Z) (A : Nat → Prop) (Q : State → Prop), z.2.1 = l → mg_C z k A n h 0 0 cy own → mg_E z k A n 0 0 Q cy w' .return_ [] → mg z k A n 0 0 Q w lv 0 []) : mg_M l y cy n none h k as w w' none := by
  intro sz
  refine va_MetF (cc := cy) (maxL := n) (ret := none) hy rfl ?_
  intro p e s m args below meth c s₁ B hml hv
  obtain ⟨rfl, hsz, hP, hK, hD0, hN⟩ := hv
  have hts : ∀ w ∈ lw_g, w.before as.toArray s = true := fun w hw => atoms_spec (ws := Cond.code y cy n none :: lw_g) B.pre w (List.mem_cons_of_mem _ hw)
  have hfc : s.vm.findClass y.cls = some m.cls := findClass_of_methodNamed B.named
  subst hsz
  subst hown
  rw [lg_entry_eq]
  refine body (p, l, e, _, s, m, as.toArray, below, meth, c) (va_A w s.heap.size) _ rfl ⟨B.exec, B.bytes, hml, hfc, hts, hK, fun q hq => Or.inr hq, Nat.le_refl _, Nat.le_refl _, Nat.zero_le _, Nat.zero_le _, hN⟩ ?_ s.heap [] _ hP hD0.self va_S.rf (hlv ▸ lv_entry as hn)
  intro pc lv2 d H locs ls hP1 hD1 hS1 hl1
  exact W.vret B.exec B.bytes B.returns (fun t ht hW => ⟨rfl, by rw [ht]; exact hP1, hD1, hS1.F ht⟩) hS1.2.2 d (hlocks := B.notSynchronized)
