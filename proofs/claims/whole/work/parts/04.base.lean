/-! the pure side: partial functions, loops -/
def zgd {α : Type} (b : Bool) (x : Option α) : Option α := if b then x else none
theorem zgd_some {α : Type} {b : Bool} {x : Option α} {r : α} (h : zgd b x = some r) : b = true ∧ x = some r := by
  cases b with
  | false => cases h
  | true => exact ⟨rfl, h⟩
theorem zgd_t {α : Type} {b : Bool} {x : Option α} (h : b = true) : zgd b x = x := by subst h; rfl
def znm {α β : Type} (a : α) (f : α → Option β) : Option β := f a
theorem znm_some {α β : Type} {a : α} {f : α → Option β} {r : β} (h : znm a f = some r) : ∃ b, b = a ∧ f b = some r := ⟨a, rfl, h⟩
theorem znm_to {α β : Type} {a b : α} {f : α → Option β} {r : β} (e : b = a) (h : znm a f = some r) : f b = some r := by subst e; exact h
theorem bd_some {α β : Type} {x : Option α} {f : α → Option β} {r : β} (h : Option.bind x f = some r) : ∃ a, x = some a ∧ f a = some r := by
  cases x with
  | none => cases h
  | some a => exact ⟨a, rfl, h⟩
def zup {σ ρ : Type} (x : Option ρ) : Option (σ ⊕ ρ) := Option.bind x (fun r => some (.inr r))
theorem zup_some {σ ρ : Type} {x : Option ρ} {y : σ ⊕ ρ} (h : zup x = some y) : ∃ r, x = some r ∧ y = .inr r := by
  cases x with
  | none => cases h
  | some a => exact ⟨a, rfl, (Option.some.inj h).symm⟩
def znx {σ ρ : Type} (go : σ → Option ρ) : σ ⊕ ρ → Option ρ
  | .inl s => go s
  | .inr r => some r
def zit {σ ρ : Type} (step : σ → Option (σ ⊕ ρ)) : Nat → σ → Option ρ
  | 0, _ => none
  | n + 1, s => Option.bind (step s) (znx (zit step n))
theorem zit_s {σ ρ : Type} {step : σ → Option (σ ⊕ ρ)} {n : Nat} {s : σ} {o : ρ} (h : zit step (n + 1) s = some o) : ∃ x, step s = some x ∧ znx (zit step n) x = some o := bd_some h
theorem zit_0 {σ ρ : Type} {step : σ → Option (σ ⊕ ρ)} {s : σ} {o : ρ} {P : Prop} (h : zit step 0 s = some o) : P := by cases h
theorem znx_r {σ ρ : Type} {go : σ → Option ρ} {x : σ ⊕ ρ} {r o : ρ} (e : x = .inr r) (h : znx go x = some o) : r = o := by subst e; exact Option.some.inj h
theorem znx_l {σ ρ : Type} {go : σ → Option ρ} {x : σ ⊕ ρ} {s : σ} {o : ρ} (e : some (Sum.inl s) = some x) (h : znx go x = some o) : go s = some o := by cases e; exact h
theorem zup_k {σ ρ : Type} {x : Option ρ} {y : σ ⊕ ρ} {go : σ → Option ρ} {o : ρ} (h : zup x = some y) (hk : znx go y = some o) : x = some o := by
  obtain ⟨r, h1, h2⟩ := zup_some h
  subst h2
  rw [h1]
  exact hk
theorem it_t {α : Type} {c : Prop} [Decidable c] {a b r : α} (h : c) (e : (if c then a else b) = r) : a = r := by rw [if_pos h] at e; exact e
theorem it_f {α : Type} {c : Prop} [Decidable c] {a b r : α} (h : ¬ c) (e : (if c then a else b) = r) : b = r := by rw [if_neg h] at e; exact e
def zin (i : Int32) (n : Nat) : Bool := decide (0 ≤ i.toInt) && decide (i.toInt < n)
theorem zin_in {i : Int32} {n : Nat} (h : zin i n = true) : vp_in i n := by
  rw [vp_in_iff]
  simpa [zin] using h
def zib (v : Int32) : Bool := decide (v = 0) || decide (v = 1)
theorem zib_n {v : Int32} (h : zib v = true) : narrow .boolean (.int v) = .int v := by
  have : v = 0 ∨ v = 1 := by simpa [zib] using h
  rcases this with rfl | rfl <;> rfl
theorem zib_f {v : Int32} (h : zib v = true) : fits .boolean (.int v) = true := by
  have : v = 0 ∨ v = 1 := by simpa [zib] using h
  rcases this with rfl | rfl <;> rfl
theorem ii {n : Int} {k : Int32} (h : Int32.ofInt n = k) (x : Int32) : x + Int32.ofInt n = x + k := by rw [h]
/-- the state of an object and of what it owns: its int fields, the contents of its arrays, by number -/
abbrev XSt : Type := (Nat → Int32) × (Nat → Nat → Int32)
def zpS (S : XSt) (j : Nat) (v : Int32) : XSt := (va_up S.1 j v, S.2)
def zpA (S : XSt) (k : Nat) (i v : Int32) : XSt := (S.1, va_up S.2 k (upd (S.2 k) i.toNatClampNeg v))
/-- the reference's: one long besides -/
abbrev MSt : Type := (Nat → Int32) × (Nat → Nat → Int32) × Int64
def zmS (S : MSt) (j : Nat) (v : Int32) : MSt := (va_up S.1 j v, S.2.1, S.2.2)
def zmA (S : MSt) (k : Nat) (i v : Int32) : MSt := (S.1, va_up S.2.1 k (upd (S.2.1 k) i.toNatClampNeg v), S.2.2)
def zmL (S : MSt) (v : Int64) : MSt := (S.1, S.2.1, v)
/-! words -/
def isNest : Cond → Bool
  | .fieldLinkNest .. | .methodLinkNest .. => true
  | _ => false
theorem nl_nest : NL.all isNest = true := by decide +kernel
def Nst (U : State) : Prop := ∀ w ∈ NL, va_Nw w U
theorem Nst.warm {s U : State} (hW : s.WarmedH U.vm) (h : Nst s) : Nst U := by
  intro w hw
  have h1 := List.all_eq_true.mp nl_nest w hw
  have h2 := h w hw
  cases w <;> first | exact va_Nw.warmF hW h2 | exact va_Nw.warmM hW h2 | (simp [isNest] at h1)
theorem Nst.vm {u U : State} (e : u.vm = U.vm) (h : Nst u) : Nst U := by
  intro w hw
  have h1 := List.all_eq_true.mp nl_nest w hw
  have h2 := h w hw
  cases w <;> first | exact va_Nw.same rfl e h2 | (simp [isNest] at h1)
theorem goodTB {w : Cond} (h : w ∈ TB) : (w.onTables && w.keeps) = true ∨ ∃ ty, w = .arrayClass ty := good_of_word (List.all_eq_true.mp tb_good w h)
def cwd (y : MethodName) (bytes : ByteArray) (n : Nat) (ret : Option FieldType) : List Cond := Cond.code y bytes n ret :: TB
theorem cwd_good {y : MethodName} {bytes : ByteArray} {n : Nat} {ret : Option FieldType} (h : Cond.code y bytes n ret ∈ TB) : GoodIn TB (cwd y bytes n ret) := by
  intro w hw
  rcases List.mem_cons.mp hw with rfl | hw
  · exact ⟨h, goodTB h⟩
  · exact ⟨hw, goodTB hw⟩
def rmk (k : Nat) : Room := { frames := k, cells := 0, slots := 0, locals := 40 * k }
/-- what is known of a callee: of an instance method, of a static one -/
def CallF (y : MethodName) (bytes : ByteArray) (n : Nat) (ret : Option FieldType) (N : Nat) : Prop := Cond.code y bytes n ret ∈ TB ∧ Cond.initialized y.cls ∈ TB ∧ Cond.instanceMethod y ∈ TB ∧ Cond.selects y.cls y y ∈ TB ∧ (y.cls ≠ "java/lang/invoke/MethodHandle" ∧ y.cls ≠ "java/lang/invoke/VarHandle" ∧ (parseMethodDescriptor y.desc).map (fun d => d.parameters.length) = some N) ∧ n ≤ 21
def CallG (y : MethodName) (bytes : ByteArray) (n : Nat) (ret : Option FieldType) (N : Nat) : Prop := Cond.code y bytes n ret ∈ TB ∧ Cond.initialized y.cls ∈ TB ∧ Cond.static y ∈ TB ∧ (y.cls ≠ "java/lang/invoke/MethodHandle" ∧ y.cls ≠ "java/lang/invoke/VarHandle" ∧ (parseMethodDescriptor y.desc).map (fun d => d.parameters.length) = some N) ∧ n ≤ 21
/-! worlds, contracts -/
def Bw (D : va_G) (tys : List (ClassId × FieldType)) (A : Nat → Prop) (ws : va_W) (U : State) : Prop := va_P D vwCl ws U.heap ∧ va_K D vwCl tys U ∧ va_D A ws ∧ Nst U
def Pw (D : va_G) (tys : List (ClassId × FieldType)) (A : Nat → Prop) (s : State) (ws : va_W) (H : Heap) (locs : List Loc) : Prop := va_P D vwCl ws H ∧ va_D A ws ∧ va_S A s.heap H locs ∧ va_K D vwCl tys s ∧ Nst s
def MetI (l : Launch) (y : MethodName) (bytes : ByteArray) (n : Nat) (ret : Option FieldType) (k : Nat) (av : List Value) (D : va_G) (tys : List (ClassId × FieldType)) (A : Nat → Prop) (ws : va_W) (r : Int32) (ws' : va_W) : Prop :=
  Met l y (cwd y bytes n ret) (rmk k) (va_Pc av (Bw D tys A ws)) (va_Qi (fun (r' : Int32) (_ : Unit) => r' = r) (fun _ t => Bw D tys A ws' t) A) 0 0 A
def MetV (l : Launch) (y : MethodName) (bytes : ByteArray) (n : Nat) (k : Nat) (av : List Value) (D : va_G) (tys : List (ClassId × FieldType)) (A : Nat → Prop) (ws : va_W) (ws' : va_W) : Prop :=
  Met l y (cwd y bytes n none) (rmk k) (va_Pc av (Bw D tys A ws)) (va_Qv (fun (_ : Unit) => True) (fun _ t => Bw D tys A ws' t) A) 0 0 A
def MetSI (l : Launch) (y : MethodName) (bytes : ByteArray) (n : Nat) (ret : Option FieldType) (k : Nat) (av : List Value) (r : Int32) : Prop :=
  Met l y (cwd y bytes n ret) (rmk k) (va_Pc av (fun _ => True)) (vp_Si (fun r' : Int32 => r' = r)) 0 0 (fun _ => False)
def MetSL (l : Launch) (y : MethodName) (bytes : ByteArray) (n : Nat) (k : Nat) (av : List Value) (r : Int64) : Prop :=
  Met l y (cwd y bytes n (some .long)) (rmk k) (va_Pc av (fun _ => True)) (vp_Sl (fun r' : Int64 => r' = r)) 0 0 (fun _ => False)
def Cw (p : Program) (m : MethodId) (c : Code) (cc : ByteArray) (nL : Nat) (s : State) (args : Array Value) (own : String) (R : Room) (k : Nat) : Prop :=
  p.tables.exec = Jvm.exec ∧ c.code = cc ∧ c.maxLocals = nL ∧ s.vm.findClass own = some m.cls ∧ (∀ w ∈ TB, w.before args s = true) ∧ (k ≤ R.frames ∧ 40 * k ≤ R.locals)
set_option maxHeartbeats 4000000 in
theorem mkI {l : Launch} {y : MethodName} {bytes : ByteArray} {nL k : Nat} {av : List Value} {D : va_G} {tys : List (ClassId × FieldType)} {A : Nat → Prop} {ws ws' : va_W} {r : Int32} (hy : plainName y.cls = true) (hlen : (lg_sl av).length ≤ nL)
    (body : ∀ (p : Program) (e : Env) (R : Room) (s : State) (m : MethodId) (args : Array Value) (below : List Frame) (meth : Method) (c : Code) (ls : Array Slot) (Q : State → Prop), Cw p m c bytes nL s args y.cls R k → lv_has ls nL (lv_args 0 av) → Pw D tys A s ws s.heap [] →
      (∀ (pc : Nat) (ls : Array Slot) (H : Heap) (locs : List Loc) (v : Int32), decode bytes pc = .ok (.ireturn, 1) → v = r → Pw D tys A s ws' H locs → W p l e R s m args below meth c H locs 0 0 Q (F0 m pc ls [.int v])) →
      W p l e R s m args below meth c s.heap [] 0 0 Q (F0 m 0 ls [])) : MetI l y bytes nL (some .int) k av D tys A ws r ws' := by
  refine Met.ofW (cc := bytes) (maxL := nL) (ret := some .int) hy rfl ?_
  intro p e s m args below meth c s₁ B hml hv
  obtain ⟨rfl, hP, hK, hD, hN⟩ := hv
  have hx := B.exec
  have hb := B.bytes
  have hr := B.returns
  have hts := atoms_spec (ws := cwd y bytes nL (some .int)) B.pre
  have hown : s.vm.findClass y.cls = some m.cls := findClass_of_methodNamed B.named
  have hlocks := B.notSynchronized
  have hl := lv_entry av (n := nL) hlen
  rw [lg_entry_eq]
  generalize (lg_sl av ++ List.replicate (nL - (lg_sl av).length) Slot.unset).toArray = ls at hl ⊢
  refine body p e _ s m _ below meth c ls _ ⟨hx, hb, hml, hown, fun w h => hts w (List.mem_cons_of_mem _ h), ⟨Nat.le_refl _, Nat.le_refl _⟩⟩ hl ⟨hP, hD, va_S.rf, hK, hN⟩ ?_
  intro pc ls H locs v hd hv hw
  obtain ⟨hP', hD', hS, hK', hN'⟩ := hw
  subst hv
  exact W.iret (v := v) hx hb hr (fun t ht hW => ⟨⟨v, (), rfl, rfl, by rw [ht]; exact hP', va_K.moved hW.alike hK', hD', Nst.warm hW hN'⟩, hS.F ht⟩) hS.2.2 hd
set_option maxHeartbeats 4000000 in
theorem mkZ {l : Launch} {y : MethodName} {bytes : ByteArray} {nL k : Nat} {av : List Value} {D : va_G} {tys : List (ClassId × FieldType)} {A : Nat → Prop} {ws ws' : va_W} {r : Int32} (hy : plainName y.cls = true) (hlen : (lg_sl av).length ≤ nL)
    (body : ∀ (p : Program) (e : Env) (R : Room) (s : State) (m : MethodId) (args : Array Value) (below : List Frame) (meth : Method) (c : Code) (ls : Array Slot) (Q : State → Prop), Cw p m c bytes nL s args y.cls R k → lv_has ls nL (lv_args 0 av) → Pw D tys A s ws s.heap [] →
      (∀ (pc : Nat) (ls : Array Slot) (H : Heap) (locs : List Loc) (v : Int32), decode bytes pc = .ok (.ireturn, 1) → zib v = true → v = r → Pw D tys A s ws' H locs → W p l e R s m args below meth c H locs 0 0 Q (F0 m pc ls [.int v])) →
      W p l e R s m args below meth c s.heap [] 0 0 Q (F0 m 0 ls [])) : MetI l y bytes nL (some .boolean) k av D tys A ws r ws' := by
  refine Met.ofW (cc := bytes) (maxL := nL) (ret := some .boolean) hy rfl ?_
  intro p e s m args below meth c s₁ B hml hv
  obtain ⟨rfl, hP, hK, hD, hN⟩ := hv
  have hx := B.exec
  have hb := B.bytes
  have hr := B.returns
  have hts := atoms_spec (ws := cwd y bytes nL (some .boolean)) B.pre
  have hown : s.vm.findClass y.cls = some m.cls := findClass_of_methodNamed B.named
  have hlocks := B.notSynchronized
  have hl := lv_entry av (n := nL) hlen
  rw [lg_entry_eq]
  generalize (lg_sl av ++ List.replicate (nL - (lg_sl av).length) Slot.unset).toArray = ls at hl ⊢
  refine body p e _ s m _ below meth c ls _ ⟨hx, hb, hml, hown, fun w h => hts w (List.mem_cons_of_mem _ h), ⟨Nat.le_refl _, Nat.le_refl _⟩⟩ hl ⟨hP, hD, va_S.rf, hK, hN⟩ ?_
  intro pc ls H locs v hd hz hv hw
  obtain ⟨hP', hD', hS, hK', hN'⟩ := hw
  subst hv
  exact W.zret (v := v) (ty := .boolean) hx hb hr (zib_n hz) (fun t ht hW => ⟨⟨v, (), rfl, rfl, by rw [ht]; exact hP', va_K.moved hW.alike hK', hD', Nst.warm hW hN'⟩, hS.F ht⟩) hS.2.2 hd
set_option maxHeartbeats 4000000 in
theorem mkV {l : Launch} {y : MethodName} {bytes : ByteArray} {nL k : Nat} {av : List Value} {D : va_G} {tys : List (ClassId × FieldType)} {A : Nat → Prop} {ws ws' : va_W} (hy : plainName y.cls = true) (hlen : (lg_sl av).length ≤ nL)
    (body : ∀ (p : Program) (e : Env) (R : Room) (s : State) (m : MethodId) (args : Array Value) (below : List Frame) (meth : Method) (c : Code) (ls : Array Slot) (Q : State → Prop), Cw p m c bytes nL s args y.cls R k → lv_has ls nL (lv_args 0 av) → Pw D tys A s ws s.heap [] →
      (∀ (pc : Nat) (ls : Array Slot) (H : Heap) (locs : List Loc), decode bytes pc = .ok (.return_, 1) → Pw D tys A s ws' H locs → W p l e R s m args below meth c H locs 0 0 Q (F0 m pc ls [])) →
      W p l e R s m args below meth c s.heap [] 0 0 Q (F0 m 0 ls [])) : MetV l y bytes nL k av D tys A ws ws' := by
  refine Met.ofW (cc := bytes) (maxL := nL) (ret := none) hy rfl ?_
  intro p e s m args below meth c s₁ B hml hv
  obtain ⟨rfl, hP, hK, hD, hN⟩ := hv
  have hx := B.exec
  have hb := B.bytes
  have hr := B.returns
  have hts := atoms_spec (ws := cwd y bytes nL none) B.pre
  have hown : s.vm.findClass y.cls = some m.cls := findClass_of_methodNamed B.named
  have hlocks := B.notSynchronized
  have hl := lv_entry av (n := nL) hlen
  rw [lg_entry_eq]
  generalize (lg_sl av ++ List.replicate (nL - (lg_sl av).length) Slot.unset).toArray = ls at hl ⊢
  refine body p e _ s m _ below meth c ls _ ⟨hx, hb, hml, hown, fun w h => hts w (List.mem_cons_of_mem _ h), ⟨Nat.le_refl _, Nat.le_refl _⟩⟩ hl ⟨hP, hD, va_S.rf, hK, hN⟩ ?_
  intro pc ls H locs hd hw
  obtain ⟨hP', hD', hS, hK', hN'⟩ := hw
  exact W.vret hx hb hr (fun t ht hW => ⟨⟨(), rfl, trivial, by rw [ht]; exact hP', va_K.moved hW.alike hK', hD', Nst.warm hW hN'⟩, hS.F ht⟩) hS.2.2 hd
set_option maxHeartbeats 4000000 in
theorem mkSI {l : Launch} {y : MethodName} {bytes : ByteArray} {nL k : Nat} {av : List Value} {r : Int32} (hy : plainName y.cls = true) (hlen : (lg_sl av).length ≤ nL)
    (body : ∀ (p : Program) (e : Env) (R : Room) (s : State) (m : MethodId) (args : Array Value) (below : List Frame) (meth : Method) (c : Code) (ls : Array Slot) (Q : State → Prop), Cw p m c bytes nL s args y.cls R k → lv_has ls nL (lv_args 0 av) →
      (∀ (pc : Nat) (ls : Array Slot) (v : Int32), decode bytes pc = .ok (.ireturn, 1) → v = r → W p l e R s m args below meth c s.heap [] 0 0 Q (F0 m pc ls [.int v])) →
      W p l e R s m args below meth c s.heap [] 0 0 Q (F0 m 0 ls [])) : MetSI l y bytes nL (some .int) k av r := by
  refine Met.ofW (cc := bytes) (maxL := nL) (ret := some .int) hy rfl ?_
  intro p e s m args below meth c s₁ B hml hv
  obtain ⟨rfl, -⟩ := hv
  have hx := B.exec
  have hb := B.bytes
  have hr := B.returns
  have hts := atoms_spec (ws := cwd y bytes nL (some .int)) B.pre
  have hown : s.vm.findClass y.cls = some m.cls := findClass_of_methodNamed B.named
  have hlocks := B.notSynchronized
  have hl := lv_entry av (n := nL) hlen
  rw [lg_entry_eq]
  generalize (lg_sl av ++ List.replicate (nL - (lg_sl av).length) Slot.unset).toArray = ls at hl ⊢
  refine body p e _ s m _ below meth c ls _ ⟨hx, hb, hml, hown, fun w h => hts w (List.mem_cons_of_mem _ h), ⟨Nat.le_refl _, Nat.le_refl _⟩⟩ hl ?_
  intro pc ls v hd hv
  subst hv
  exact W.iret (v := v) hx hb hr (fun t ht hW => ⟨v, rfl, rfl, ht⟩) (fun q h => by cases h) hd
set_option maxHeartbeats 4000000 in
theorem mkSZ {l : Launch} {y : MethodName} {bytes : ByteArray} {nL k : Nat} {av : List Value} {r : Int32} (hy : plainName y.cls = true) (hlen : (lg_sl av).length ≤ nL)
    (body : ∀ (p : Program) (e : Env) (R : Room) (s : State) (m : MethodId) (args : Array Value) (below : List Frame) (meth : Method) (c : Code) (ls : Array Slot) (Q : State → Prop), Cw p m c bytes nL s args y.cls R k → lv_has ls nL (lv_args 0 av) →
      (∀ (pc : Nat) (ls : Array Slot) (v : Int32), decode bytes pc = .ok (.ireturn, 1) → zib v = true → v = r → W p l e R s m args below meth c s.heap [] 0 0 Q (F0 m pc ls [.int v])) →
      W p l e R s m args below meth c s.heap [] 0 0 Q (F0 m 0 ls [])) : MetSI l y bytes nL (some .boolean) k av r := by
  refine Met.ofW (cc := bytes) (maxL := nL) (ret := some .boolean) hy rfl ?_
  intro p e s m args below meth c s₁ B hml hv
  obtain ⟨rfl, -⟩ := hv
  have hx := B.exec
  have hb := B.bytes
  have hr := B.returns
  have hts := atoms_spec (ws := cwd y bytes nL (some .boolean)) B.pre
  have hown : s.vm.findClass y.cls = some m.cls := findClass_of_methodNamed B.named
  have hlocks := B.notSynchronized
  have hl := lv_entry av (n := nL) hlen
  rw [lg_entry_eq]
  generalize (lg_sl av ++ List.replicate (nL - (lg_sl av).length) Slot.unset).toArray = ls at hl ⊢
  refine body p e _ s m _ below meth c ls _ ⟨hx, hb, hml, hown, fun w h => hts w (List.mem_cons_of_mem _ h), ⟨Nat.le_refl _, Nat.le_refl _⟩⟩ hl ?_
  intro pc ls v hd hz hv
  subst hv
  exact W.zret (v := v) (ty := .boolean) hx hb hr (zib_n hz) (fun t ht hW => ⟨v, rfl, rfl, ht⟩) (fun q h => by cases h) hd
set_option maxHeartbeats 4000000 in
theorem mkSL {l : Launch} {y : MethodName} {bytes : ByteArray} {nL k : Nat} {av : List Value} {r : Int64} (hy : plainName y.cls = true) (hlen : (lg_sl av).length ≤ nL)
    (body : ∀ (p : Program) (e : Env) (R : Room) (s : State) (m : MethodId) (args : Array Value) (below : List Frame) (meth : Method) (c : Code) (ls : Array Slot) (Q : State → Prop), Cw p m c bytes nL s args y.cls R k → lv_has ls nL (lv_args 0 av) →
      (∀ (pc : Nat) (ls : Array Slot) (v : Int64), decode bytes pc = .ok (.lreturn, 1) → v = r → W p l e R s m args below meth c s.heap [] 0 0 Q (F0 m pc ls [.long v])) →
      W p l e R s m args below meth c s.heap [] 0 0 Q (F0 m 0 ls [])) : MetSL l y bytes nL k av r := by
  refine Met.ofW (cc := bytes) (maxL := nL) (ret := some .long) hy rfl ?_
  intro p e s m args below meth c s₁ B hml hv
  obtain ⟨rfl, -⟩ := hv
  have hx := B.exec
  have hb := B.bytes
  have hr := B.returns
  have hts := atoms_spec (ws := cwd y bytes nL (some .long)) B.pre
  have hown : s.vm.findClass y.cls = some m.cls := findClass_of_methodNamed B.named
  have hlocks := B.notSynchronized
  have hl := lv_entry av (n := nL) hlen
  rw [lg_entry_eq]
  generalize (lg_sl av ++ List.replicate (nL - (lg_sl av).length) Slot.unset).toArray = ls at hl ⊢
  refine body p e _ s m _ below meth c ls _ ⟨hx, hb, hml, hown, fun w h => hts w (List.mem_cons_of_mem _ h), ⟨Nat.le_refl _, Nat.le_refl _⟩⟩ hl ?_
  intro pc ls v hd hv
  subst hv
  exact W.lret (v := v) hx hb hr (fun t ht hW => ⟨v, rfl, rfl, ht⟩) (fun q h => by cases h) hd
/-! rows over worlds: fields, arrays, calls -/
/-- a field of a cell of the world, and its value -/
def zFld (ws : va_W) (a : Nat) (ref nm ds : String) (v : Value) : Prop := ∃ (q0 ci : Nat) (fs : List Value) (T : u_T) (N k : Nat), ws[q0]? = some (a, .inr (ci, fs)) ∧ vwCl[ci]? = some (ref, T, N) ∧ k < N ∧ (∀ w ∈ u_ws ref T N, w ∈ TB) ∧ fs[k]? = some v ∧ (T k).1 = ref ∧ (T k).2.1 = nm ∧ (T k).2.2.1 = ds
/-- a field that may be written, with what the world is then -/
def zPut (ws : va_W) (a : Nat) (ref nm ds : String) (v : Value) (ws' : va_W) : Prop := ∃ (q0 ci : Nat) (fs : List Value) (T : u_T) (N k : Nat) (ty0 : Nat → FieldType) (ty : FieldType), ws[q0]? = some (a, .inr (ci, fs)) ∧ vwCl[ci]? = some (ref, T, N) ∧ k < N ∧ (∀ w ∈ u_ws ref T N, w ∈ TB) ∧ (∀ k, k < N → parseFieldDescriptor (T k).2.2.1 = some (ty0 k)) ∧ (∀ a, a < N → ∀ b, b < N → a ≠ b → (T a).2.1 ≠ (T b).2.1) ∧ (T k).1 = ref ∧ (T k).2.1 = nm ∧ (T k).2.2.1 = ds ∧ (T k).2.2.2 = false ∧ parseFieldDescriptor ds = some ty ∧ narrow ty v = v ∧ fits ty v = true ∧ k < fs.length ∧ ws.set q0 (a, .inr (ci, fs.set k v)) = ws'
def zArr (ws : va_W) (a : Nat) (cA : ClassId) (n : Nat) (f : Nat → Int32) : Prop := ∃ q0 : Nat, ws[q0]? = some (a, .inl (cA, n, .inl f))
def zSto (ws : va_W) (a : Nat) (cA : ClassId) (n : Nat) (f : Nat → Int32) (i : Nat) (v : Int32) (ws' : va_W) : Prop := ∃ q0 : Nat, ws[q0]? = some (a, .inl (cA, n, .inl f)) ∧ ws.set q0 (a, .inl (cA, n, .inl (upd f i v))) = ws'
def zObj (ws : va_W) (a : Nat) (cls : String) : Prop := ∃ (q0 ci : Nat) (fs : List Value) (T : u_T) (N : Nat), ws[q0]? = some (a, .inr (ci, fs)) ∧ vwCl[ci]? = some (cls, T, N)
section WR
variable {p : Program} {l : Launch} {e : Env} {R : Room} {s : State} {m : MethodId} {args : Array Value} {below : List Frame} {meth : Method} {c : Code} {H : Heap} {locs : List Loc} {cells slots : Nat} {Q : State → Prop}
variable {cc : ByteArray} {nL k pc : Nat} {own : String} {ls : Array Slot} {rest : List Value} {D : va_G} {tys : List (ClassId × FieldType)} {A : Nat → Prop} {ws ws' : va_W} {a : Nat}
theorem w_get {ref nm ds : String} {idx : Nat} {v : Value} (C : Cw p m c cc nL s args own R k) (hP : Pw D tys A s ws H locs) (F : zFld ws a ref nm ds v) (hl : Cond.fieldLink own idx ref nm ds ∈ TB) (hdg : decode cc pc = .ok (.getfield idx, 3))
    (kk : W p l e R s m args below meth c H locs cells slots Q (F0 m (pc + 3) ls (v :: rest))) : W p l e R s m args below meth c H locs cells slots Q (F0 m pc ls (.ref a :: rest)) := by
  obtain ⟨q0, ci, fs, T, N, j, h1, h2, h3, h4, h5, h6, h7, h8⟩ := F
  exact va_get C.1 C.2.1 C.2.2.2.2.1 h4 C.2.2.2.1 hP.2.2.2.1 hP.1 q0 h1 h2 j h3 (by rw [h7, h8]; exact C.2.2.2.2.1 _ hl) (fun x hx => by rw [h6] at hx; exact hx) h5 hdg kk
theorem w_getN {ref nm ds host : String} {idx : Nat} {v : Value} (C : Cw p m c cc nL s args own R k) (hP : Pw D tys A s ws H locs) (F : zFld ws a ref nm ds v) (hl : Cond.fieldLinkNest own idx ref nm ds host ∈ NL) (hdg : decode cc pc = .ok (.getfield idx, 3))
    (kk : W p l e R s m args below meth c H locs cells slots Q (F0 m (pc + 3) ls (v :: rest))) : W p l e R s m args below meth c H locs cells slots Q (F0 m pc ls (.ref a :: rest)) := by
  obtain ⟨q0, ci, fs, T, N, j, h1, h2, h3, h4, h5, h6, h7, h8⟩ := F
  exact va_getN C.1 C.2.1 C.2.2.2.2.1 h4 C.2.2.2.1 hP.2.2.2.1 hP.1 q0 h1 h2 j h3 (by rw [h7, h8]; exact va_Nw.use rfl (hP.2.2.2.2 _ hl)) (fun x hx => by rw [h6] at hx; exact hx) h5 hdg kk
theorem w_put {ref nm ds : String} {idx : Nat} {v : Value} (C : Cw p m c cc nL s args own R k) (hP : Pw D tys A s ws H locs) (F : zPut ws a ref nm ds v ws') (hl : Cond.fieldLink own idx ref nm ds ∈ TB) (hdg : decode cc pc = .ok (.putfield idx, 3))
    (kk : ∀ (H : Heap) (locs : List Loc), Pw D tys A s ws' H locs → W p l e R s m args below meth c H locs cells slots Q (F0 m (pc + 3) ls rest)) : W p l e R s m args below meth c H locs cells slots Q (F0 m pc ls (v :: .ref a :: rest)) := by
  obtain ⟨q0, ci, fs, T, N, j, ty0, ty, h1, h2, h3, h4, h5, h5', h6, h7, h8, h9, h10, h11, h12, h13, h14⟩ := F
  exact va_put C.1 C.2.1 C.2.2.2.2.1 h4 ty0 h5 h5' C.2.2.2.1 hP.2.2.2.1 hP.1 hP.2.1 hP.2.2.1 q0 h1 h2 j h3 (by rw [h7, h8]; exact C.2.2.2.2.1 _ hl) (fun x hx => by rw [h6] at hx; exact hx) h9 (by rw [h8]; exact h10) h11 h12 h13 hdg (fun H1 locs1 g1 g2 g3 => kk H1 locs1 ⟨by rw [← h14]; exact g1, by rw [← h14]; exact g2, g3, hP.2.2.2.1, hP.2.2.2.2⟩)
theorem w_iald {cA : ClassId} {n t0 : Nat} {f : Nat → Int32} {i : Int32} (C : Cw p m c cc nL s args own R k) (hP : Pw D tys A s ws H locs) (F : zArr ws a cA n f) (ht : tys[t0]? = some (cA, .int)) (hin : zin i n = true) (hdg : decode cc pc = .ok (.iaload, 1))
    (kk : W p l e R s m args below meth c H locs cells slots Q (F0 m (pc + 1) ls (.int (f i.toNatClampNeg) :: rest))) : W p l e R s m args below meth c H locs cells slots Q (F0 m pc ls (.int i :: .ref a :: rest)) := by
  obtain ⟨q0, h1⟩ := F
  exact va_iald C.1 C.2.1 hP.2.2.2.1 hP.1 q0 t0 h1 ht (zin_in hin) hdg kk
theorem w_zald {cA : ClassId} {n t0 : Nat} {f : Nat → Int32} {i : Int32} (C : Cw p m c cc nL s args own R k) (hP : Pw D tys A s ws H locs) (F : zArr ws a cA n f) (ht : tys[t0]? = some (cA, .boolean)) (hin : zin i n = true) (hdg : decode cc pc = .ok (.baload, 1))
    (kk : W p l e R s m args below meth c H locs cells slots Q (F0 m (pc + 1) ls (.int (f i.toNatClampNeg) :: rest))) : W p l e R s m args below meth c H locs cells slots Q (F0 m pc ls (.int i :: .ref a :: rest)) := by
  obtain ⟨q0, h1⟩ := F
  exact va_zald C.1 C.2.1 hP.2.2.2.1 hP.1 q0 t0 h1 ht (zin_in hin) hdg kk
theorem w_iast {cA : ClassId} {n t0 : Nat} {f : Nat → Int32} {i x : Int32} (C : Cw p m c cc nL s args own R k) (hP : Pw D tys A s ws H locs) (F : zSto ws a cA n f i.toNatClampNeg x ws') (ht : tys[t0]? = some (cA, .int)) (hin : zin i n = true) (hdg : decode cc pc = .ok (.iastore, 1))
    (kk : ∀ (H : Heap) (locs : List Loc), Pw D tys A s ws' H locs → W p l e R s m args below meth c H locs cells slots Q (F0 m (pc + 1) ls rest)) : W p l e R s m args below meth c H locs cells slots Q (F0 m pc ls (.int x :: .int i :: .ref a :: rest)) := by
  obtain ⟨q0, h1, h2⟩ := F
  exact va_iast C.1 C.2.1 hP.2.2.2.1 hP.1 hP.2.1 hP.2.2.1 q0 t0 h1 ht (zin_in hin) hdg (fun H1 locs1 g1 g2 g3 => kk H1 locs1 ⟨by rw [← h2]; exact g1, by rw [← h2]; exact g2, g3, hP.2.2.2.1, hP.2.2.2.2⟩)
theorem w_zast {cA : ClassId} {n t0 : Nat} {f : Nat → Int32} {i x : Int32} (C : Cw p m c cc nL s args own R k) (hP : Pw D tys A s ws H locs) (F : zSto ws a cA n f i.toNatClampNeg (vp_nar .boolean x) ws') (ht : tys[t0]? = some (cA, .boolean)) (hin : zin i n = true) (hdg : decode cc pc = .ok (.bastore, 1))
    (kk : ∀ (H : Heap) (locs : List Loc), Pw D tys A s ws' H locs → W p l e R s m args below meth c H locs cells slots Q (F0 m (pc + 1) ls rest)) : W p l e R s m args below meth c H locs cells slots Q (F0 m pc ls (.int x :: .int i :: .ref a :: rest)) := by
  obtain ⟨q0, h1, h2⟩ := F
  exact va_zast C.1 C.2.1 hP.2.2.2.1 hP.1 hP.2.1 hP.2.2.1 q0 t0 h1 ht (zin_in hin) hdg (fun H1 locs1 g1 g2 g3 => kk H1 locs1 ⟨by rw [← h2]; exact g1, by rw [← h2]; exact g2, g3, hP.2.2.2.1, hP.2.2.2.2⟩)
theorem w_alen {cA : ClassId} {n t0 : Nat} {f : Nat → Int32} {ty : FieldType} {v : Int32} (C : Cw p m c cc nL s args own R k) (hP : Pw D tys A s ws H locs) (F : zArr ws a cA n f) (ht : tys[t0]? = some (cA, ty)) (hv : Int32.ofNat n = v) (hdg : decode cc pc = .ok (.arraylength, 1))
    (kk : W p l e R s m args below meth c H locs cells slots Q (F0 m (pc + 1) ls (.int v :: rest))) : W p l e R s m args below meth c H locs cells slots Q (F0 m pc ls (.ref a :: rest)) := by
  obtain ⟨q0, h1⟩ := F
  exact va_alen C.1 C.2.1 hP.2.2.2.1 hP.1 q0 t0 h1 ht hv hdg kk
theorem Bw.blind {av : List Value} : FrameBlind (va_Pc av (Bw D tys A ws)) := by
  intro a U g mk q
  obtain ⟨q0, qP, qK, qD, qN⟩ := q
  exact ⟨q0, qP, va_K.moved (u := U) (U := U.calling g mk a) (Vm.Alike.refl U.vm) qK, qD, Nst.vm (u := U) (U := U.calling g mk a) rfl qN⟩
theorem Pw.at {U : State} (hP : Pw D tys A s ws H locs) (hU : U.heap = H) (hW : s.WarmedH U.vm) : Bw D tys A ws U := ⟨by rw [hU]; exact hP.1, va_K.moved hW.alike hP.2.2.2.1, hP.2.1, Nst.warm hW hP.2.2.2.2⟩
theorem Pw.back {t : State} {H1 : Heap} {locs1 : List Loc} (hP : Pw D tys A s ws H locs) (ht : t.heap = H1) (hB : Bw D tys A ws' t) (hS : va_S A s.heap H1 locs1) : Pw D tys A s ws' H1 locs1 := ⟨by rw [← ht]; exact hB.1, hB.2.2.1, hS, hP.2.2.2.1, hP.2.2.2.2⟩
variable {y : MethodName} {bytes : ByteArray} {n k' N idx b : Nat} {ret : Option FieldType} {As st : List Value} {r : Int32}
theorem Cw.room (C : Cw p m c cc nL s args own R k) (hk : k' + 1 ≤ k) (hn : n ≤ 21) : (rmk k').frames + 1 ≤ R.frames ∧ 8 + (n + 11) + (rmk k').locals ≤ R.locals := by
  obtain ⟨-, -, -, -, -, h1, h2⟩ := C
  constructor
  · show k' + 1 ≤ R.frames
    omega
  · show 8 + (n + 11) + 40 * k' ≤ R.locals
    omega
theorem Cw.fix (C : Cw p m c cc nL s args own R k) : CallFix p m c cc nL s args TB own := ⟨C.1, C.2.1, C.2.2.1, C.2.2.2.1, C.2.2.2.2.1⟩
theorem Cw.callV (C : Cw p m c cc nL s args own R k) (F : CallF y bytes n ret N) (hl : Cond.methodLink own idx y ∈ TB) (hk : k' + 1 ≤ k) : CallW R s args own y.cls idx y bytes n ret (cwd y bytes n ret) (rmk k') 0 0 N := by
  have ok := C.2.2.2.2.1
  exact ⟨callB_of N ok (cwd_good F.1) rfl rfl rfl (ok _ F.2.1) (ok _ hl) F.2.2.2.2.1 (C.room hk F.2.2.2.2.2), ok _ F.2.2.1, ok _ F.2.2.2.1⟩
theorem Cw.callS (C : Cw p m c cc nL s args own R k) (F : CallG y bytes n ret N) (hl : Cond.methodLink own idx y ∈ TB) (hk : k' + 1 ≤ k) : CallB R s args own idx y bytes n ret (cwd y bytes n ret) (rmk k') 0 0 N ∧ (Cond.static y).before args s = true := by
  have ok := C.2.2.2.2.1
  exact ⟨callB_of N ok (cwd_good F.1) rfl rfl rfl (ok _ F.2.1) (ok _ hl) F.2.2.2.1 (C.room hk F.2.2.2.2), ok _ F.2.2.1⟩
theorem w_callI (C : Cw p m c cc nL s args own R k) (hM : MetI l y bytes n ret k' (.ref b :: As) D tys A ws r ws') (F : CallF y bytes n ret N) (hl : Cond.methodLink own idx y ∈ TB) (hk : k' + 1 ≤ k) (hP : Pw D tys A s ws H locs) (hO : zObj ws b y.cls) (hN : As.length = N) (hsize : ls.size = nL) (hst : st = As.reverse ++ .ref b :: rest) (hW : (rest.map fun v => v.category).sum ≤ 8) (hdg : decode cc pc = .ok (.invokevirtual idx, 3))
    (kk : ∀ (H : Heap) (locs : List Loc), Pw D tys A s ws' H locs → W p l e R s m args below meth c H locs 0 0 Q (F0 m (pc + 3) ls (.int r :: rest))) : W p l e R s m args below meth c H locs 0 0 Q (F0 m pc ls st) := by
  obtain ⟨q0, ci, fs, T, Nf, h1, h2⟩ := hO
  subst hst
  refine va_calli (va_runV (As := As) (rest := rest) C.fix hM (C.callV F hl hk) ⟨Bw.blind, va_recv hP.2.2.2.1 hP.1 h2 h1, fun U hU hW => ⟨rfl, hP.at hU hW⟩⟩ rfl hN hsize rfl (lv_room hW) hdg ⟨Nat.zero_le _, Nat.zero_le _⟩) hP.2.2.1 (fun q _ h => h) (fun q h => h) (fun r' u t H1 locs1 ht hvm hp hB hz1 hk1 hS => ?_)
  have hp : r' = r := hp
  subst hp
  exact kk H1 locs1 (hP.back ht hB hS)
theorem w_callV (C : Cw p m c cc nL s args own R k) (hM : MetV l y bytes n k' (.ref b :: As) D tys A ws ws') (F : CallF y bytes n none N) (hl : Cond.methodLink own idx y ∈ TB) (hk : k' + 1 ≤ k) (hP : Pw D tys A s ws H locs) (hO : zObj ws b y.cls) (hN : As.length = N) (hsize : ls.size = nL) (hst : st = As.reverse ++ .ref b :: rest) (hW : (rest.map fun v => v.category).sum ≤ 8) (hdg : decode cc pc = .ok (.invokevirtual idx, 3))
    (kk : ∀ (H : Heap) (locs : List Loc), Pw D tys A s ws' H locs → W p l e R s m args below meth c H locs 0 0 Q (F0 m (pc + 3) ls rest)) : W p l e R s m args below meth c H locs 0 0 Q (F0 m pc ls st) := by
  obtain ⟨q0, ci, fs, T, Nf, h1, h2⟩ := hO
  subst hst
  refine va_callv (va_runV (As := As) (rest := rest) C.fix hM (C.callV F hl hk) ⟨Bw.blind, va_recv hP.2.2.2.1 hP.1 h2 h1, fun U hU hW => ⟨rfl, hP.at hU hW⟩⟩ rfl hN hsize rfl (lv_room hW) hdg ⟨Nat.zero_le _, Nat.zero_le _⟩) hP.2.2.1 (fun q _ h => h) (fun q h => h) (fun u t H1 locs1 ht hvm hp hB hz1 hk1 hS => ?_)
  exact kk H1 locs1 (hP.back ht hB hS)
theorem w_callS (C : Cw p m c cc nL s args own R k) (hM : MetSI l y bytes n ret k' As r) (F : CallG y bytes n ret N) (hl : Cond.methodLink own idx y ∈ TB) (hk : k' + 1 ≤ k) (hN : As.length = N) (hsize : ls.size = nL) (hst : st = As.reverse ++ rest) (hW : (rest.map fun v => v.category).sum ≤ 8) (hdg : decode cc pc = .ok (.invokestatic idx, 3))
    (kk : W p l e R s m args below meth c H locs 0 0 Q (F0 m (pc + 3) ls (.int r :: rest))) : W p l e R s m args below meth c H locs 0 0 Q (F0 m pc ls st) := by
  subst hst
  refine vp_callSi (W.runS (As := As) (rest := rest) C.fix hM (C.callS F hl hk) ⟨fun a U g mk q => q, fun U hU hW => ⟨rfl, trivial⟩⟩ rfl hN hsize rfl (lv_room hW) hdg ⟨Nat.zero_le _, Nat.zero_le _⟩) (fun r' hp => ?_)
  have hp : r' = r := hp
  subst hp
  exact kk
theorem w_callSL {r : Int64} (C : Cw p m c cc nL s args own R k) (hM : MetSL l y bytes n k' As r) (F : CallG y bytes n (some .long) N) (hl : Cond.methodLink own idx y ∈ TB) (hk : k' + 1 ≤ k) (hN : As.length = N) (hsize : ls.size = nL) (hst : st = As.reverse ++ rest) (hW : (rest.map fun v => v.category).sum ≤ 8) (hdg : decode cc pc = .ok (.invokestatic idx, 3))
    (kk : W p l e R s m args below meth c H locs 0 0 Q (F0 m (pc + 3) ls (.long r :: rest))) : W p l e R s m args below meth c H locs 0 0 Q (F0 m pc ls st) := by
  subst hst
  refine vp_callSl (W.runS (As := As) (rest := rest) C.fix hM (C.callS F hl hk) ⟨fun a U g mk q => q, fun U hU hW => ⟨rfl, trivial⟩⟩ rfl hN hsize rfl (lv_room hW) hdg ⟨Nat.zero_le _, Nat.zero_le _⟩) (fun r' hp => ?_)
  have hp : r' = r := hp
  subst hp
  exact kk
end WR
/-! constructors: worlds that grow -/
def rmC (k mc ms : Nat) : Room := { frames := k, cells := mc, slots := ms, locals := 40 * k }
def MetC (l : Launch) (y : MethodName) (bytes : ByteArray) (n k mc ms : Nat) (av : List Value) (D : va_G) (tys : List (ClassId × FieldType)) (sz : Nat) (ws : va_W) (post : (Nat → Nat) → va_W) : Prop :=
  Met l y (cwd y bytes n none) (rmC k mc ms) (va_Pc av (fun U => U.heap.size = sz ∧ Bw D tys (fun _ => True) ws U)) (va_Qv (fun _ : Nat → Nat => True) (fun ad t => Bw D tys (va_A ws sz) (post ad) t) (va_A ws sz)) mc ms (va_A ws sz)
def zPutF (ws : va_W) (a : Nat) (ref nm ds : String) (v : Value) (ws' : va_W) : Prop := ∃ (q0 ci : Nat) (fs : List Value) (T : u_T) (N k : Nat) (ty0 : Nat → FieldType) (ty : FieldType), ws[q0]? = some (a, .inr (ci, fs)) ∧ vwCl[ci]? = some (ref, T, N) ∧ k < N ∧ (∀ w ∈ u_ws ref T N, w ∈ TB) ∧ (∀ k, k < N → parseFieldDescriptor (T k).2.2.1 = some (ty0 k)) ∧ (∀ a, a < N → ∀ b, b < N → a ≠ b → (T a).2.1 ≠ (T b).2.1) ∧ (T k).1 = ref ∧ (T k).2.1 = nm ∧ (T k).2.2.1 = ds ∧ (T k).2.2.2 = true ∧ parseFieldDescriptor ds = some ty ∧ narrow ty v = v ∧ fits ty v = true ∧ k < fs.length ∧ ws.set q0 (a, .inr (ci, fs.set k v)) = ws'
set_option maxHeartbeats 4000000 in
theorem zmkC {l : Launch} {y : MethodName} {bytes : ByteArray} {nL k mc ms sz : Nat} {av : List Value} {D : va_G} {tys : List (ClassId × FieldType)} {ws : va_W} {post : (Nat → Nat) → va_W} (hy : plainName y.cls = true) (hyn : y.name = "<init>") (hlen : (lg_sl av).length ≤ nL)
    (body : ∀ (p : Program) (e : Env) (R : Room) (s : State) (m : MethodId) (args : Array Value) (below : List Frame) (meth : Method) (c : Code) (ls : Array Slot) (Q : State → Prop) (A : Nat → Prop), Cw p m c bytes nL s args y.cls R k → (mc ≤ R.cells ∧ ms ≤ R.slots) → meth.name = "<init>" → lv_has ls nL (lv_args 0 av) → Pw D tys A s ws s.heap [] → (∀ q : Nat, s.heap.size ≤ q → A q) →
      (∀ (pc : Nat) (ls : Array Slot) (H : Heap) (locs : List Loc) (ad : Nat → Nat), decode bytes pc = .ok (.return_, 1) → Pw D tys A s (post ad) H locs → W p l e R s m args below meth c H locs mc ms Q (F0 m pc ls [])) →
      W p l e R s m args below meth c s.heap [] 0 0 Q (F0 m 0 ls [])) : MetC l y bytes nL k mc ms av D tys sz ws post := by
  refine Met.ofW (cc := bytes) (maxL := nL) (ret := none) hy rfl ?_
  intro p e s m args below meth c s₁ B hml hv
  obtain ⟨rfl, hsz, hP, hK, hD, hN⟩ := hv
  have hx := B.exec
  have hb := B.bytes
  have hr := B.returns
  have hts := atoms_spec (ws := cwd y bytes nL none) B.pre
  have hown : s.vm.findClass y.cls = some m.cls := findClass_of_methodNamed B.named
  have hlocks := B.notSynchronized
  have hin : meth.name = y.name := (name_of_methodNamed B.named B.method).1
  rw [hyn] at hin
  subst hsz
  have hl := lv_entry av (n := nL) hlen
  rw [lg_entry_eq]
  generalize (lg_sl av ++ List.replicate (nL - (lg_sl av).length) Slot.unset).toArray = ls at hl ⊢
  refine body p e _ s m _ below meth c ls _ (va_A ws s.heap.size) ⟨hx, hb, hml, hown, fun w h => hts w (List.mem_cons_of_mem _ h), ⟨Nat.le_refl _, Nat.le_refl _⟩⟩ ⟨Nat.le_refl _, Nat.le_refl _⟩ hin hl ⟨hP, hD.self, va_S.rf, hK, hN⟩ (fun q h => Or.inr h) ?_
  intro pc ls H locs ad hd hw
  obtain ⟨hP', hD', hS, hK', hN'⟩ := hw
  exact W.vret hx hb hr (fun t ht hW => ⟨⟨ad, rfl, trivial, by rw [ht]; exact hP', va_K.moved hW.alike hK', hD', Nst.warm hW hN'⟩, hS.F ht⟩) hS.2.2 hd
section WC
variable {p : Program} {l : Launch} {e : Env} {R : Room} {s : State} {m : MethodId} {args : Array Value} {below : List Frame} {meth : Method} {c : Code} {H : Heap} {locs : List Loc} {cells slots : Nat} {Q : State → Prop}
variable {cc : ByteArray} {nL k pc : Nat} {own : String} {ls : Array Slot} {rest : List Value} {D : va_G} {tys : List (ClassId × FieldType)} {A : Nat → Prop} {ws ws' : va_W} {a : Nat}
theorem w_obj {idx : Nat} (C : Cw p m c cc nL s args own R k) (hk : 1 ≤ k) (h1 : Cond.methodLink own idx objectInit ∈ TB) (h2 : Cond.instanceMethod objectInit ∈ TB) (h3 : Cond.code objectInit ⟨#[0xb1]⟩ 1 none ∈ TB) (hsize : ls.size = nL) (hW : (rest.map fun v => v.category).sum ≤ 8) (hdg : decode cc pc = .ok (.invokespecial idx, 3))
    (kk : W p l e R s m args below meth c H locs cells slots Q (F0 m (pc + 3) ls rest)) : W p l e R s m args below meth c H locs cells slots Q (F0 m pc ls (.ref a :: rest)) := by
  obtain ⟨hx, hb, hml, hown, ok, hf, hlo⟩ := C
  refine W.objInit hx hb hown (ok _ h1) (ok _ h2) (ok _ h3) rfl (by rw [hml]; exact hsize) rfl hdg (Nat.le_trans hk hf) ?_ kk
  have := lv_room (m := m) (pc := pc) (ls := ls) (rest := Value.ref a :: rest) (st := rest) hW
  omega
theorem w_new {cls : String} {T : u_T} {N ci idx : Nat} {fs : List Value} (C : Cw p m c cc nL s args own R k) (hP : Pw D tys A s ws H locs) (hA : ∀ q : Nat, s.heap.size ≤ q → A q) (hc : vwCl[ci]? = some (cls, T, N)) (hin : ∀ w ∈ u_ws cls T N, w ∈ TB) (ty : Nat → FieldType) (hty : ∀ k, k < N → parseFieldDescriptor (T k).2.2.1 = some (ty k)) (hl : Cond.classLink own idx cls ∈ TB) (hi : Cond.instantiable cls N ∈ TB) (hini : Cond.initialized cls ∈ TB) (hfs : ∀ j, j < N → defaultValue (ty j) = vp_V fs j) (h1 : cells + 1 ≤ R.cells) (h2 : slots + N ≤ R.slots) (hdg : decode cc pc = .ok (.new idx, 3))
    (kk : ∀ (q : Nat) (H : Heap), Pw D tys A s (ws ++ [(q, .inr (ci, fs))]) H locs → W p l e R s m args below meth c H locs (cells + 1) (slots + N) Q (F0 m (pc + 3) ls (.ref q :: rest))) : W p l e R s m args below meth c H locs cells slots Q (F0 m pc ls rest) := by
  obtain ⟨hx, hb, hml, hown, ok, -⟩ := C
  exact va_new hx hb ok hin ty hty hown (ok _ hl) (ok _ hi) (ok _ hini) hP.2.2.2.1 hP.1 hP.2.1 hP.2.2.1 hA hc hfs h1 h2 hdg (fun q H1 g1 g2 g3 => kk q H1 ⟨g1, g2, g3, hP.2.2.2.1, hP.2.2.2.2⟩)
theorem w_newa {atype : ArrayType} {ty : FieldType} {cA : ClassId} {N t0 : Nat} {n : Int32} (C : Cw p m c cc nL s args own R k) (hP : Pw D tys A s ws H locs) (hA : ∀ q : Nat, s.heap.size ≤ q → A q) (hty : newarray.typeOf atype = ty) (harr : Cond.arrayClass ty ∈ TB) (ht : tys[t0]? = some (cA, ty)) (hRA : ∀ x, va_RA s x ty → s.vm.findClass ("[" ++ ty.toString) = some x) (ha : ∀ x : ClassId, vp_cell x (N, .inl (fun _ => (0 : Int32))) = arrV x N (fun _ => defaultValue ty)) (hn : ¬ n < 0) (hN : n.toNatClampNeg = N) (hbytes : N * componentBytes ty ≤ 536870912) (h1 : cells + 1 ≤ R.cells) (h2 : slots + N ≤ R.slots) (hdg : decode cc pc = .ok (.newarray atype, 2))
    (kk : ∀ (q : Nat) (H : Heap), Pw D tys A s (ws ++ [(q, .inl (cA, N, .inl (fun _ => (0 : Int32))))]) H locs → W p l e R s m args below meth c H locs (cells + 1) (slots + N) Q (F0 m (pc + 2) ls (.ref q :: rest))) : W p l e R s m args below meth c H locs cells slots Q (F0 m pc ls (.int n :: rest)) := by
  obtain ⟨hx, hb, hml, hown, ok, -⟩ := C
  refine va_newa hx hb (by rw [hty]; exact ok _ harr) hty hP.2.2.2.1 hP.1 hP.2.1 hP.2.2.1 hA ha hn hN hbytes h1 h2 hdg (fun q x H1 gK g1 g2 g3 => ?_)
  have e1 := hRA _ (hP.2.2.2.1.2 t0 _ ht).2
  have e2 := hRA _ (gK.2 tys.length (x, ty) (by simp)).2
  have e3 : x = cA := Option.some.inj (e2.symm.trans e1)
  subst e3
  exact kk q H1 ⟨g1, g2, g3, hP.2.2.2.1, hP.2.2.2.2⟩
theorem w_putF {ref nm ds : String} {idx : Nat} {v : Value} (C : Cw p m c cc nL s args own R k) (hin : meth.name = "<init>") (hP : Pw D tys A s ws H locs) (F : zPutF ws a ref nm ds v ws') (ho : ref = own) (hl : Cond.fieldLink own idx ref nm ds ∈ TB) (hdg : decode cc pc = .ok (.putfield idx, 3))
    (kk : ∀ (H : Heap) (locs : List Loc), Pw D tys A s ws' H locs → W p l e R s m args below meth c H locs cells slots Q (F0 m (pc + 3) ls rest)) : W p l e R s m args below meth c H locs cells slots Q (F0 m pc ls (v :: .ref a :: rest)) := by
  obtain ⟨q0, ci, fs, T, N, j, ty0, ty, h1, h2, h3, h4, h5, h5', h6, h7, h8, h9, h10, h11, h12, h13, h14⟩ := F
  exact va_putF C.1 C.2.1 C.2.2.2.2.1 h4 ty0 h5 h5' C.2.2.2.1 hP.2.2.2.1 hP.1 hP.2.1 hP.2.2.1 q0 h1 h2 j h3 (by rw [h7, h8]; exact C.2.2.2.2.1 _ hl) (fun x hx => by rw [h6] at hx; exact hx) h9 hin (by rw [h6]; exact ho) (by rw [h8]; exact h10) h11 h12 h13 hdg (fun H1 locs1 g1 g2 g3 => kk H1 locs1 ⟨by rw [← h14]; exact g1, by rw [← h14]; exact g2, g3, hP.2.2.2.1, hP.2.2.2.2⟩)
/-- what is known of a constructor -/
def CallC (y : MethodName) (bytes : ByteArray) (n N : Nat) : Prop := Cond.code y bytes n none ∈ TB ∧ Cond.initialized y.cls ∈ TB ∧ Cond.instanceMethod y ∈ TB ∧ y.name = "<init>" ∧ (y.cls ≠ "java/lang/invoke/MethodHandle" ∧ y.cls ≠ "java/lang/invoke/VarHandle" ∧ (parseMethodDescriptor y.desc).map (fun d => d.parameters.length) = some N) ∧ n ≤ 21
variable {y : MethodName} {bytes : ByteArray} {n k' mc ms N idx b : Nat} {As st : List Value} {wc wr : va_W} {post : (Nat → Nat) → va_W}
theorem Cw.roomC (C : Cw p m c cc nL s args own R k) (hk : k' + 1 ≤ k) (hn : n ≤ 21) : (rmC k' mc ms).frames + 1 ≤ R.frames ∧ 8 + (n + 11) + (rmC k' mc ms).locals ≤ R.locals := by
  obtain ⟨-, -, -, -, -, h1, h2⟩ := C
  constructor
  · show k' + 1 ≤ R.frames
    omega
  · show 8 + (n + 11) + 40 * k' ≤ R.locals
    omega
theorem bwc_blind {av : List Value} {sz : Nat} : FrameBlind (va_Pc av (fun U => U.heap.size = sz ∧ Bw D tys A ws U)) := by
  intro a U g mk q
  obtain ⟨q0, qz, qP, qK, qD, qN⟩ := q
  exact ⟨q0, qz, qP, va_K.moved (u := U) (U := U.calling g mk a) (Vm.Alike.refl U.vm) qK, qD, Nst.vm (u := U) (U := U.calling g mk a) rfl qN⟩
/-- behind a constructor's call: the rest, and the new world -/
theorem w_joinC {t : State} {H1 : Heap} {locs1 : List Loc} {ad : Nat → Nat} (hP : Pw D tys A s ws H locs) (hA : ∀ q : Nat, s.heap.size ≤ q → A q) (isC isR : List Nat) (hC : isC.map (fun i => ws[i]?) = wc.map some) (hR : isR.map (fun i => ws[i]?) = wr.map some) (hn : va_nd isR = true) (hdis : ∀ i ∈ isR, i ∉ isC) (ht : t.heap = H1) (hB : Bw D tys (va_A wc H.size) (post ad) t) (hk : ∀ q : Nat, q < H.size → ¬ va_A wc H.size q → H1[q]? = H[q]?) (hS : va_S A s.heap H1 locs1) : Pw D tys A s (wr ++ post ad) H1 locs1 := by
  have hF := va_free (wc := wc) hP.2.1 hP.2.2.1 hA isC hC
  obtain ⟨g1, g2⟩ := va_join (wr := wr) (w1 := post ad) hP.1 hP.2.1 isC isR hC hR hn hdis hk hF (by rw [← ht]; exact hB.1) hB.2.2.1
  exact ⟨g1, g2, hS, hP.2.2.2.1, hP.2.2.2.2⟩
theorem Pw.cutC {U : State} (hP : Pw D tys A s ws H locs) (isC : List Nat) (hnC : va_nd isC = true) (hC0 : isC.filterMap (fun i => ws[i]?) = wc) (hC : isC.map (fun i => ws[i]?) = wc.map some) (hU : U.heap = H) (hW : s.WarmedH U.vm) : Bw D tys (fun _ => True) wc U := ⟨by rw [hU]; exact hP.1.sub isC hC0, va_K.moved hW.alike hP.2.2.2.1, (hP.2.1.sub isC hnC hC).weaken (fun _ _ _ _ => trivial), Nst.warm hW hP.2.2.2.2⟩
theorem w_callC (C : Cw p m c cc nL s args own R k) (hM : MetC l y bytes n k' mc ms (.ref b :: As) D tys H.size wc post) (F : CallC y bytes n N) (hl : Cond.methodLink own idx y ∈ TB) (hk : k' + 1 ≤ k) (hP : Pw D tys A s ws H locs) (hA : ∀ q : Nat, s.heap.size ≤ q → A q) (isC isR : List Nat) (hnC : va_nd isC = true) (hC0 : isC.filterMap (fun i => ws[i]?) = wc) (hC : isC.map (fun i => ws[i]?) = wc.map some) (hR : isR.map (fun i => ws[i]?) = wr.map some) (hn : va_nd isR = true) (hdis : ∀ i ∈ isR, i ∉ isC) (hN : As.length = N) (hsize : ls.size = nL) (hst : st = As.reverse ++ .ref b :: rest) (hW : (rest.map fun v => v.category).sum ≤ 8) (hdg : decode cc pc = .ok (.invokespecial idx, 3)) (h1 : cells + mc ≤ R.cells) (h2 : slots + ms ≤ R.slots)
    (kk : ∀ (ad : Nat → Nat) (H : Heap) (locs : List Loc), Pw D tys A s (wr ++ post ad) H locs → W p l e R s m args below meth c H locs (cells + mc) (slots + ms) Q (F0 m (pc + 3) ls rest)) : W p l e R s m args below meth c H locs cells slots Q (F0 m pc ls st) := by
  subst hst
  have ok := C.2.2.2.2.1
  have hF := va_free (wc := wc) hP.2.1 hP.2.2.1 hA isC hC
  refine va_callv (va_runI (As := As) (rest := rest) C.fix hM ⟨callB_of N ok (cwd_good F.1) rfl rfl rfl (ok _ F.2.1) (ok _ hl) F.2.2.2.2.1 (C.roomC hk F.2.2.2.2.2), F.2.2.2.1, ok _ F.2.2.1⟩ ⟨bwc_blind, fun U hU hW => ⟨rfl, by rw [hU], hP.cutC isC hnC hC0 hC hU hW⟩⟩ rfl hN hsize rfl (lv_room hW) hdg ⟨h1, h2⟩) hP.2.2.1 (fun q _ h => hF q h) hF (fun ad t H1 locs1 ht hvm hp hB hz1 hk1 hS => ?_)
  exact kk ad H1 locs1 (w_joinC hP hA isC isR hC hR hn hdis ht hB hk1 hS)
theorem w_callCN {host : String} (C : Cw p m c cc nL s args own R k) (hM : MetC l y bytes n k' mc ms (.ref b :: As) D tys H.size wc post) (F : CallC y bytes n N) (hl : Cond.methodLinkNest own idx y host ∈ NL) (hk : k' + 1 ≤ k) (hP : Pw D tys A s ws H locs) (hA : ∀ q : Nat, s.heap.size ≤ q → A q) (isC isR : List Nat) (hnC : va_nd isC = true) (hC0 : isC.filterMap (fun i => ws[i]?) = wc) (hC : isC.map (fun i => ws[i]?) = wc.map some) (hR : isR.map (fun i => ws[i]?) = wr.map some) (hn : va_nd isR = true) (hdis : ∀ i ∈ isR, i ∉ isC) (hN : As.length = N) (hsize : ls.size = nL) (hst : st = As.reverse ++ .ref b :: rest) (hW : (rest.map fun v => v.category).sum ≤ 8) (hdg : decode cc pc = .ok (.invokespecial idx, 3)) (h1 : cells + mc ≤ R.cells) (h2 : slots + ms ≤ R.slots)
    (kk : ∀ (ad : Nat → Nat) (H : Heap) (locs : List Loc), Pw D tys A s (wr ++ post ad) H locs → W p l e R s m args below meth c H locs (cells + mc) (slots + ms) Q (F0 m (pc + 3) ls rest)) : W p l e R s m args below meth c H locs cells slots Q (F0 m pc ls st) := by
  subst hst
  have ok := C.2.2.2.2.1
  have hF := va_free (wc := wc) hP.2.1 hP.2.2.1 hA isC hC
  refine va_callv (va_runIN (As := As) (rest := rest) C.fix hM ⟨va_cnB N ok (cwd_good F.1) rfl rfl rfl (hP.2.2.2.2 _ hl) (ok _ F.2.1) F.2.2.2.2.1 (C.roomC hk F.2.2.2.2.2), F.2.2.2.1, ok _ F.2.2.1⟩ ⟨bwc_blind, fun U hU hW => ⟨rfl, by rw [hU], hP.cutC isC hnC hC0 hC hU hW⟩⟩ rfl hN hsize rfl (lv_room hW) hdg ⟨h1, h2⟩) hP.2.2.1 (fun q _ h => hF q h) hF (fun ad t H1 locs1 ht hvm hp hB hz1 hk1 hS => ?_)
  exact kk ad H1 locs1 (w_joinC hP hA isC isR hC hR hn hdis ht hB hk1 hS)
end WC
theorem cc_R_init : CallC y_R_init b_R_init 1 0 := ⟨tb_15, tb_1, tb_14, rfl, ⟨by decide, by decide, by decide +kernel⟩, by decide⟩
theorem cf_R_add : CallF y_R_add b_R_add 4 (some .int) 3 := ⟨tb_129, tb_1, tb_127, tb_128, ⟨by decide, by decide, by decide +kernel⟩, by decide⟩
theorem cf_R_drop : CallF y_R_drop b_R_drop 3 (some .int) 2 := ⟨tb_174, tb_1, tb_172, tb_173, ⟨by decide, by decide, by decide +kernel⟩, by decide⟩
theorem cf_R_window : CallF y_R_window b_R_window 3 (some .boolean) 2 := ⟨tb_182, tb_1, tb_180, tb_181, ⟨by decide, by decide, by decide +kernel⟩, by decide⟩
theorem cf_R_sign : CallF y_R_sign b_R_sign 7 (some .int) 5 := ⟨tb_190, tb_1, tb_188, tb_189, ⟨by decide, by decide, by decide +kernel⟩, by decide⟩
theorem cf_R_spoil : CallF y_R_spoil b_R_spoil 3 (some .boolean) 2 := ⟨tb_235, tb_1, tb_233, tb_234, ⟨by decide, by decide, by decide +kernel⟩, by decide⟩
theorem cf_R_seal : CallF y_R_seal b_R_seal 3 (some .int) 2 := ⟨tb_243, tb_1, tb_241, tb_242, ⟨by decide, by decide, by decide +kernel⟩, by decide⟩
theorem cf_R_anchor : CallF y_R_anchor b_R_anchor 3 (some .int) 2 := ⟨tb_252, tb_1, tb_250, tb_251, ⟨by decide, by decide, by decide +kernel⟩, by decide⟩
theorem cf_R_tick : CallF y_R_tick b_R_tick 2 (some .int) 1 := ⟨tb_260, tb_1, tb_258, tb_259, ⟨by decide, by decide, by decide +kernel⟩, by decide⟩
theorem cf_R_ask : CallF y_R_ask b_R_ask 3 (some .int) 2 := ⟨tb_269, tb_1, tb_267, tb_268, ⟨by decide, by decide, by decide +kernel⟩, by decide⟩
theorem cf_R_reason : CallF y_R_reason b_R_reason 1 (some .int) 0 := ⟨tb_384, tb_1, tb_382, tb_383, ⟨by decide, by decide, by decide +kernel⟩, by decide⟩
theorem cf_R_answer : CallF y_R_answer b_R_answer 2 (some .int) 1 := ⟨tb_388, tb_1, tb_386, tb_387, ⟨by decide, by decide, by decide +kernel⟩, by decide⟩
theorem cf_R_zone : CallF y_R_zone b_R_zone 2 (some .int) 1 := ⟨tb_396, tb_1, tb_394, tb_395, ⟨by decide, by decide, by decide +kernel⟩, by decide⟩
theorem cf_R_figure : CallF y_R_figure b_R_figure 2 (some .int) 1 := ⟨tb_404, tb_1, tb_402, tb_403, ⟨by decide, by decide, by decide +kernel⟩, by decide⟩
theorem cf_R_above : CallF y_R_above b_R_above 3 (some .int) 2 := ⟨tb_408, tb_1, tb_406, tb_407, ⟨by decide, by decide, by decide +kernel⟩, by decide⟩
theorem cf_R_isType : CallG y_R_isType b_R_isType 1 (some .boolean) 1 := ⟨tb_136, tb_1, tb_135, ⟨by decide, by decide, by decide +kernel⟩, by decide⟩
theorem cf_R_isKey : CallG y_R_isKey b_R_isKey 1 (some .boolean) 1 := ⟨tb_142, tb_1, tb_141, ⟨by decide, by decide, by decide +kernel⟩, by decide⟩
theorem cf_R_isData : CallG y_R_isData b_R_isData 2 (some .boolean) 2 := ⟨tb_139, tb_1, tb_138, ⟨by decide, by decide, by decide +kernel⟩, by decide⟩
theorem cf_R_verdictOf : CallG y_R_verdictOf b_R_verdictOf 1 (some .int) 1 := ⟨tb_380, tb_1, tb_379, ⟨by decide, by decide, by decide +kernel⟩, by decide⟩
theorem cc_M_init : CallC y_M_init b_M_init 1 0 := ⟨tb_414, tb_7, tb_413, rfl, ⟨by decide, by decide, by decide +kernel⟩, by decide⟩
theorem cf_M_label : CallG y_M_label b_M_label 2 (some .int) 2 := ⟨tb_482, tb_7, tb_481, ⟨by decide, by decide, by decide +kernel⟩, by decide⟩
theorem cf_M_depth : CallG y_M_depth b_M_depth 3 (some .int) 1 := ⟨tb_529, tb_7, tb_528, ⟨by decide, by decide, by decide +kernel⟩, by decide⟩
theorem cf_M_isName : CallG y_M_isName b_M_isName 3 (some .boolean) 1 := ⟨tb_478, tb_7, tb_477, ⟨by decide, by decide, by decide +kernel⟩, by decide⟩
theorem cf_M_cut : CallG y_M_cut b_M_cut 2 (some .int) 2 := ⟨tb_535, tb_7, tb_534, ⟨by decide, by decide, by decide +kernel⟩, by decide⟩
theorem cf_M_isAbove : CallG y_M_isAbove b_M_isAbove 2 (some .boolean) 2 := ⟨tb_564, tb_7, tb_563, ⟨by decide, by decide, by decide +kernel⟩, by decide⟩
theorem cf_M_star : CallG y_M_star b_M_star 1 (some .int) 1 := ⟨tb_538, tb_7, tb_537, ⟨by decide, by decide, by decide +kernel⟩, by decide⟩
theorem cf_M_isType : CallG y_M_isType b_M_isType 1 (some .boolean) 1 := ⟨tb_485, tb_7, tb_484, ⟨by decide, by decide, by decide +kernel⟩, by decide⟩
theorem cf_M_isKey : CallG y_M_isKey b_M_isKey 1 (some .boolean) 1 := ⟨tb_491, tb_7, tb_490, ⟨by decide, by decide, by decide +kernel⟩, by decide⟩
theorem cf_M_size : CallF y_M_size b_M_size 5 (some .int) 2 := ⟨tb_500, tb_7, tb_499, tb_638, ⟨by decide, by decide, by decide +kernel⟩, by decide⟩
theorem cf_M_dataAt : CallF y_M_dataAt b_M_dataAt 8 (some .int) 3 := ⟨tb_541, tb_7, tb_540, tb_643, ⟨by decide, by decide, by decide +kernel⟩, by decide⟩
theorem cf_M_has : CallF y_M_has b_M_has 6 (some .boolean) 3 := ⟨tb_497, tb_7, tb_496, tb_637, ⟨by decide, by decide, by decide +kernel⟩, by decide⟩
theorem cf_M_isData : CallG y_M_isData b_M_isData 2 (some .boolean) 2 := ⟨tb_488, tb_7, tb_487, ⟨by decide, by decide, by decide +kernel⟩, by decide⟩
theorem cf_M_add : CallF y_M_add b_M_add 4 (some .int) 3 := ⟨tb_475, tb_7, tb_473, tb_474, ⟨by decide, by decide, by decide +kernel⟩, by decide⟩
theorem cf_M_drop : CallF y_M_drop b_M_drop 5 (some .int) 2 := ⟨tb_504, tb_7, tb_502, tb_503, ⟨by decide, by decide, by decide +kernel⟩, by decide⟩
theorem cf_M_mix : CallF y_M_mix b_M_mix 4 none 1 := ⟨tb_514, tb_7, tb_513, tb_640, ⟨by decide, by decide, by decide +kernel⟩, by decide⟩
theorem cf_M_digest : CallF y_M_digest b_M_digest 1 (some .int) 0 := ⟨tb_518, tb_7, tb_517, tb_641, ⟨by decide, by decide, by decide +kernel⟩, by decide⟩
theorem cf_M_sealOf : CallF y_M_sealOf b_M_sealOf 3 (some .int) 2 := ⟨tb_511, tb_7, tb_510, tb_639, ⟨by decide, by decide, by decide +kernel⟩, by decide⟩
theorem cf_M_seal : CallF y_M_seal b_M_seal 3 (some .int) 2 := ⟨tb_508, tb_7, tb_506, tb_507, ⟨by decide, by decide, by decide +kernel⟩, by decide⟩
theorem cf_M_markOf : CallF y_M_markOf b_M_markOf 5 (some .int) 1 := ⟨tb_532, tb_7, tb_531, tb_642, ⟨by decide, by decide, by decide +kernel⟩, by decide⟩
theorem cf_M_window : CallF y_M_window b_M_window 3 (some .boolean) 2 := ⟨tb_522, tb_7, tb_520, tb_521, ⟨by decide, by decide, by decide +kernel⟩, by decide⟩
theorem cf_M_sign : CallF y_M_sign b_M_sign 7 (some .int) 5 := ⟨tb_526, tb_7, tb_524, tb_525, ⟨by decide, by decide, by decide +kernel⟩, by decide⟩
theorem cf_M_spoil : CallF y_M_spoil b_M_spoil 3 (some .boolean) 2 := ⟨tb_545, tb_7, tb_543, tb_544, ⟨by decide, by decide, by decide +kernel⟩, by decide⟩
theorem cf_M_anchor : CallF y_M_anchor b_M_anchor 4 (some .int) 2 := ⟨tb_549, tb_7, tb_547, tb_548, ⟨by decide, by decide, by decide +kernel⟩, by decide⟩
theorem cf_M_tick : CallF y_M_tick b_M_tick 2 (some .int) 1 := ⟨tb_553, tb_7, tb_551, tb_552, ⟨by decide, by decide, by decide +kernel⟩, by decide⟩
theorem cf_M_here : CallF y_M_here b_M_here 1 (some .int) 0 := ⟨tb_570, tb_7, tb_569, tb_646, ⟨by decide, by decide, by decide +kernel⟩, by decide⟩
theorem cf_M_isTrusted : CallF y_M_isTrusted b_M_isTrusted 3 (some .boolean) 1 := ⟨tb_573, tb_7, tb_572, tb_647, ⟨by decide, by decide, by decide +kernel⟩, by decide⟩
theorem cf_M_counts : CallF y_M_counts b_M_counts 2 (some .boolean) 1 := ⟨tb_582, tb_7, tb_581, tb_650, ⟨by decide, by decide, by decide +kernel⟩, by decide⟩
theorem cf_M_isGood : CallF y_M_isGood b_M_isGood 5 (some .boolean) 1 := ⟨tb_579, tb_7, tb_578, tb_649, ⟨by decide, by decide, by decide +kernel⟩, by decide⟩
theorem cf_M_isPlain : CallF y_M_isPlain b_M_isPlain 5 (some .boolean) 2 := ⟨tb_576, tb_7, tb_575, tb_648, ⟨by decide, by decide, by decide +kernel⟩, by decide⟩
theorem cf_M_tells : CallF y_M_tells b_M_tells 3 (some .boolean) 2 := ⟨tb_594, tb_7, tb_593, tb_654, ⟨by decide, by decide, by decide +kernel⟩, by decide⟩
theorem cf_M_isCovered : CallF y_M_isCovered b_M_isCovered 5 (some .boolean) 1 := ⟨tb_591, tb_7, tb_590, tb_653, ⟨by decide, by decide, by decide +kernel⟩, by decide⟩
theorem cf_M_isKnown : CallF y_M_isKnown b_M_isKnown 5 (some .boolean) 1 := ⟨tb_597, tb_7, tb_596, tb_655, ⟨by decide, by decide, by decide +kernel⟩, by decide⟩
theorem cf_M_tryKeys : CallF y_M_tryKeys b_M_tryKeys 5 (some .int) 0 := ⟨tb_567, tb_7, tb_566, tb_645, ⟨by decide, by decide, by decide +kernel⟩, by decide⟩
theorem cf_M_nextCut : CallF y_M_nextCut b_M_nextCut 5 (some .int) 2 := ⟨tb_585, tb_7, tb_584, tb_651, ⟨by decide, by decide, by decide +kernel⟩, by decide⟩
theorem cf_M_tryCut : CallF y_M_tryCut b_M_tryCut 3 (some .int) 1 := ⟨tb_600, tb_7, tb_599, tb_656, ⟨by decide, by decide, by decide +kernel⟩, by decide⟩
theorem cf_M_tryAnswers : CallF y_M_tryAnswers b_M_tryAnswers 6 (some .int) 2 := ⟨tb_588, tb_7, tb_587, tb_652, ⟨by decide, by decide, by decide +kernel⟩, by decide⟩
theorem cf_M_resolve : CallF y_M_resolve b_M_resolve 6 (some .int) 2 := ⟨tb_561, tb_7, tb_560, tb_644, ⟨by decide, by decide, by decide +kernel⟩, by decide⟩
theorem cf_M_ask : CallF y_M_ask b_M_ask 4 (some .int) 2 := ⟨tb_558, tb_7, tb_556, tb_557, ⟨by decide, by decide, by decide +kernel⟩, by decide⟩
theorem cf_M_reason : CallF y_M_reason b_M_reason 1 (some .int) 0 := ⟨tb_604, tb_7, tb_602, tb_603, ⟨by decide, by decide, by decide +kernel⟩, by decide⟩
theorem cf_M_answer : CallF y_M_answer b_M_answer 3 (some .int) 1 := ⟨tb_608, tb_7, tb_606, tb_607, ⟨by decide, by decide, by decide +kernel⟩, by decide⟩
theorem cf_M_zone : CallF y_M_zone b_M_zone 2 (some .int) 1 := ⟨tb_612, tb_7, tb_610, tb_611, ⟨by decide, by decide, by decide +kernel⟩, by decide⟩
theorem cf_M_figure : CallF y_M_figure b_M_figure 2 (some .int) 1 := ⟨tb_616, tb_7, tb_614, tb_615, ⟨by decide, by decide, by decide +kernel⟩, by decide⟩
theorem cf_M_above : CallF y_M_above b_M_above 3 (some .int) 2 := ⟨tb_620, tb_7, tb_618, tb_619, ⟨by decide, by decide, by decide +kernel⟩, by decide⟩
theorem cc_An_init : CallC y_An_init b_An_init 1 0 := ⟨tb_71, tb_4, tb_70, rfl, ⟨by decide, by decide, by decide +kernel⟩, by decide⟩
theorem cf_An_put : CallF y_An_put b_An_put 4 (some .int) 2 := ⟨tb_256, tb_4, tb_254, tb_255, ⟨by decide, by decide, by decide +kernel⟩, by decide⟩
theorem cf_An_deepestFor : CallF y_An_deepestFor b_An_deepestFor 4 (some .int) 1 := ⟨tb_277, tb_4, tb_275, tb_276, ⟨by decide, by decide, by decide +kernel⟩, by decide⟩
theorem cf_An_digestOf : CallF y_An_digestOf b_An_digestOf 3 (some .int) 1 := ⟨tb_289, tb_4, tb_287, tb_288, ⟨by decide, by decide, by decide +kernel⟩, by decide⟩
theorem cf_Di_mix : CallG y_Di_mix b_Di_mix 5 (some .long) 2 := ⟨tb_218, tb_10, tb_217, ⟨by decide, by decide, by decide +kernel⟩, by decide⟩
theorem cf_Di_end : CallG y_Di_end b_Di_end 2 (some .int) 1 := ⟨tb_231, tb_10, tb_230, ⟨by decide, by decide, by decide +kernel⟩, by decide⟩
theorem cf_Di_sealOf : CallG y_Di_sealOf b_Di_sealOf 2 (some .int) 2 := ⟨tb_246, tb_10, tb_245, ⟨by decide, by decide, by decide +kernel⟩, by decide⟩
theorem cf_Na_isName : CallG y_Na_isName b_Na_isName 4 (some .boolean) 1 := ⟨tb_132, tb_8, tb_131, ⟨by decide, by decide, by decide +kernel⟩, by decide⟩
theorem cf_Na_depth : CallG y_Na_depth b_Na_depth 3 (some .int) 1 := ⟨tb_193, tb_8, tb_192, ⟨by decide, by decide, by decide +kernel⟩, by decide⟩
theorem cf_Na_firstLabels : CallG y_Na_firstLabels b_Na_firstLabels 3 (some .int) 2 := ⟨tb_208, tb_8, tb_207, ⟨by decide, by decide, by decide +kernel⟩, by decide⟩
theorem cf_Na_isOrAbove : CallG y_Na_isOrAbove b_Na_isOrAbove 2 (some .boolean) 2 := ⟨tb_280, tb_8, tb_279, ⟨by decide, by decide, by decide +kernel⟩, by decide⟩
theorem cf_Na_starOf : CallG y_Na_starOf b_Na_starOf 1 (some .int) 1 := ⟨tb_211, tb_8, tb_210, ⟨by decide, by decide, by decide +kernel⟩, by decide⟩
theorem cf_Na_setOf : CallG y_Na_setOf b_Na_setOf 2 (some .int) 2 := ⟨tb_155, tb_8, tb_154, ⟨by decide, by decide, by decide +kernel⟩, by decide⟩
theorem cf_Na_ownerOf : CallG y_Na_ownerOf b_Na_ownerOf 1 (some .int) 1 := ⟨tb_201, tb_8, tb_200, ⟨by decide, by decide, by decide +kernel⟩, by decide⟩
theorem cf_Na_typeOf : CallG y_Na_typeOf b_Na_typeOf 1 (some .int) 1 := ⟨tb_222, tb_8, tb_221, ⟨by decide, by decide, by decide +kernel⟩, by decide⟩
theorem cc_Nu_init : CallC y_Nu_init b_Nu_init 1 0 := ⟨tb_88, tb_6, tb_87, rfl, ⟨by decide, by decide, by decide +kernel⟩, by decide⟩
theorem cf_Nu_clear : CallF y_Nu_clear b_Nu_clear 1 none 0 := ⟨tb_285, tb_6, tb_283, tb_284, ⟨by decide, by decide, by decide +kernel⟩, by decide⟩
theorem cf_Nu_put : CallF y_Nu_put b_Nu_put 2 none 1 := ⟨tb_293, tb_6, tb_291, tb_292, ⟨by decide, by decide, by decide +kernel⟩, by decide⟩
theorem cf_Nu_has : CallF y_Nu_has b_Nu_has 3 (some .boolean) 1 := ⟨tb_311, tb_6, tb_309, tb_310, ⟨by decide, by decide, by decide +kernel⟩, by decide⟩
theorem cc_Qu_init : CallC y_Qu_init b_Qu_init 4 3 := ⟨tb_83, tb_5, tb_82, rfl, ⟨by decide, by decide, by decide +kernel⟩, by decide⟩
theorem cf_Qu_pose : CallF y_Qu_pose b_Qu_pose 7 none 2 := ⟨tb_273, tb_5, tb_271, tb_272, ⟨by decide, by decide, by decide +kernel⟩, by decide⟩
theorem cf_Qu_zoneAt : CallF y_Qu_zoneAt b_Qu_zoneAt 2 (some .int) 1 := ⟨tb_400, tb_5, tb_398, tb_399, ⟨by decide, by decide, by decide +kernel⟩, by decide⟩
theorem cf_Qu_dataNow : CallF y_Qu_dataNow b_Qu_dataNow 3 (some .int) 1 := ⟨tb_392, tb_5, tb_390, tb_391, ⟨by decide, by decide, by decide +kernel⟩, by decide⟩
theorem cf_Qu_enter : CallF y_Qu_enter b_Qu_enter 2 none 1 := ⟨tb_296, tb_5, tb_295, tb_623, ⟨by decide, by decide, by decide +kernel⟩, by decide⟩
theorem cf_Qu_whyNoKeys : CallF y_Qu_whyNoKeys b_Qu_whyNoKeys 2 (some .int) 0 := ⟨tb_300, tb_5, tb_299, tb_624, ⟨by decide, by decide, by decide +kernel⟩, by decide⟩
theorem cf_Qu_takeSealedKeys : CallF y_Qu_takeSealedKeys b_Qu_takeSealedKeys 6 none 1 := ⟨tb_304, tb_5, tb_303, tb_625, ⟨by decide, by decide, by decide +kernel⟩, by decide⟩
theorem cf_Qu_takeSet : CallF y_Qu_takeSet b_Qu_takeSet 6 none 2 := ⟨tb_327, tb_5, tb_326, tb_627, ⟨by decide, by decide, by decide +kernel⟩, by decide⟩
theorem cf_Qu_nextCut : CallF y_Qu_nextCut b_Qu_nextCut 4 (some .int) 0 := ⟨tb_330, tb_5, tb_329, tb_628, ⟨by decide, by decide, by decide +kernel⟩, by decide⟩
theorem cf_Qu_whyNotOver : CallF y_Qu_whyNotOver b_Qu_whyNotOver 5 (some .int) 1 := ⟨tb_335, tb_5, tb_334, tb_629, ⟨by decide, by decide, by decide +kernel⟩, by decide⟩
theorem cf_Qu_whyThere : CallF y_Qu_whyThere b_Qu_whyThere 3 (some .int) 1 := ⟨tb_349, tb_5, tb_348, tb_631, ⟨by decide, by decide, by decide +kernel⟩, by decide⟩
theorem cf_Qu_whyAbsent : CallF y_Qu_whyAbsent b_Qu_whyAbsent 6 (some .int) 0 := ⟨tb_369, tb_5, tb_368, tb_634, ⟨by decide, by decide, by decide +kernel⟩, by decide⟩
theorem cf_Qu_closestKnown : CallF y_Qu_closestKnown b_Qu_closestKnown 3 (some .int) 0 := ⟨tb_372, tb_5, tb_371, tb_635, ⟨by decide, by decide, by decide +kernel⟩, by decide⟩
theorem cf_Qu_isKnown : CallF y_Qu_isKnown b_Qu_isKnown 4 (some .boolean) 1 := ⟨tb_375, tb_5, tb_374, tb_636, ⟨by decide, by decide, by decide +kernel⟩, by decide⟩
theorem cf_Qu_isCovered : CallF y_Qu_isCovered b_Qu_isCovered 5 (some .boolean) 1 := ⟨tb_356, tb_5, tb_355, tb_632, ⟨by decide, by decide, by decide +kernel⟩, by decide⟩
theorem cf_Qu_isPlainNext : CallF y_Qu_isPlainNext b_Qu_isPlainNext 2 (some .boolean) 1 := ⟨tb_364, tb_5, tb_363, tb_633, ⟨by decide, by decide, by decide +kernel⟩, by decide⟩
theorem cf_Qu_tells : CallF y_Qu_tells b_Qu_tells 3 (some .boolean) 2 := ⟨tb_338, tb_5, tb_337, tb_630, ⟨by decide, by decide, by decide +kernel⟩, by decide⟩
theorem cc_Re_init : CallC y_Re_init b_Re_init 1 0 := ⟨tb_22, tb_2, tb_21, rfl, ⟨by decide, by decide, by decide +kernel⟩, by decide⟩
theorem cf_Re_put : CallF y_Re_put b_Re_put 5 (some .int) 2 := ⟨tb_159, tb_2, tb_157, tb_158, ⟨by decide, by decide, by decide +kernel⟩, by decide⟩
theorem cf_Re_empty : CallF y_Re_empty b_Re_empty 4 (some .int) 1 := ⟨tb_178, tb_2, tb_176, tb_177, ⟨by decide, by decide, by decide +kernel⟩, by decide⟩
theorem cf_Re_sizeOf : CallF y_Re_sizeOf b_Re_sizeOf 4 (some .int) 1 := ⟨tb_170, tb_2, tb_168, tb_169, ⟨by decide, by decide, by decide +kernel⟩, by decide⟩
theorem cf_Re_startOf : CallF y_Re_startOf b_Re_startOf 3 (some .int) 1 := ⟨tb_166, tb_2, tb_164, tb_165, ⟨by decide, by decide, by decide +kernel⟩, by decide⟩
theorem cf_Re_setAt : CallF y_Re_setAt b_Re_setAt 2 (some .int) 1 := ⟨tb_360, tb_2, tb_358, tb_359, ⟨by decide, by decide, by decide +kernel⟩, by decide⟩
theorem cf_Re_dataAt : CallF y_Re_dataAt b_Re_dataAt 2 (some .int) 1 := ⟨tb_228, tb_2, tb_226, tb_227, ⟨by decide, by decide, by decide +kernel⟩, by decide⟩
theorem cf_Re_leastOf : CallF y_Re_leastOf b_Re_leastOf 2 (some .int) 1 := ⟨tb_342, tb_2, tb_340, tb_341, ⟨by decide, by decide, by decide +kernel⟩, by decide⟩
theorem cf_Re_rowFor : CallF y_Re_rowFor b_Re_rowFor 4 (some .int) 2 := ⟨tb_162, tb_2, tb_161, tb_621, ⟨by decide, by decide, by decide +kernel⟩, by decide⟩
theorem cc_Si_init : CallC y_Si_init b_Si_init 2 1 := ⟨tb_35, tb_3, tb_34, rfl, ⟨by decide, by decide, by decide +kernel⟩, by decide⟩
theorem cf_Si_useTimes : CallF y_Si_useTimes b_Si_useTimes 3 none 2 := ⟨tb_186, tb_3, tb_184, tb_185, ⟨by decide, by decide, by decide +kernel⟩, by decide⟩
theorem cf_Si_passTime : CallF y_Si_passTime b_Si_passTime 2 (some .int) 1 := ⟨tb_265, tb_3, tb_263, tb_264, ⟨by decide, by decide, by decide +kernel⟩, by decide⟩
theorem cf_Si_make : CallF y_Si_make b_Si_make 6 (some .int) 4 := ⟨tb_198, tb_3, tb_196, tb_197, ⟨by decide, by decide, by decide +kernel⟩, by decide⟩
theorem cf_Si_shiftMark : CallF y_Si_shiftMark b_Si_shiftMark 3 (some .boolean) 2 := ⟨tb_239, tb_3, tb_237, tb_238, ⟨by decide, by decide, by decide +kernel⟩, by decide⟩
theorem cf_Si_judge : CallF y_Si_judge b_Si_judge 4 none 2 := ⟨tb_315, tb_3, tb_313, tb_314, ⟨by decide, by decide, by decide +kernel⟩, by decide⟩
theorem cf_Si_isPlain : CallF y_Si_isPlain b_Si_isPlain 3 (some .boolean) 1 := ⟨tb_324, tb_3, tb_322, tb_323, ⟨by decide, by decide, by decide +kernel⟩, by decide⟩
theorem cf_Si_labelsOfFirstGood : CallF y_Si_labelsOfFirstGood b_Si_labelsOfFirstGood 3 (some .int) 1 := ⟨tb_353, tb_3, tb_351, tb_352, ⟨by decide, by decide, by decide +kernel⟩, by decide⟩
theorem cf_Si_isGood : CallF y_Si_isGood b_Si_isGood 4 (some .boolean) 3 := ⟨tb_318, tb_3, tb_317, tb_626, ⟨by decide, by decide, by decide +kernel⟩, by decide⟩
theorem cf_Si_markNow : CallF y_Si_markNow b_Si_markNow 7 (some .int) 1 := ⟨tb_215, tb_3, tb_214, tb_622, ⟨by decide, by decide, by decide +kernel⟩, by decide⟩
theorem cf_Si_signedName : CallG y_Si_signedName b_Si_signedName 2 (some .int) 2 := ⟨tb_204, tb_3, tb_203, ⟨by decide, by decide, by decide +kernel⟩, by decide⟩
theorem cf_To_isTold : CallG y_To_isTold b_To_isTold 1 (some .boolean) 1 := ⟨tb_146, tb_9, tb_145, ⟨by decide, by decide, by decide +kernel⟩, by decide⟩
theorem cf_To_nameIn : CallG y_To_nameIn b_To_nameIn 1 (some .int) 1 := ⟨tb_150, tb_9, tb_149, ⟨by decide, by decide, by decide +kernel⟩, by decide⟩
theorem cf_To_hasType : CallG y_To_hasType b_To_hasType 2 (some .boolean) 2 := ⟨tb_346, tb_9, tb_345, ⟨by decide, by decide, by decide +kernel⟩, by decide⟩
