/-! The abstract world: a list of cells; a reference is the place of its cell in the list. Arrays: (0 int, 1 byte, 2 boolean; length; contents). Objects: (number in vwCl, fields). -/
abbrev Ce : Type := (Nat × Nat × (Nat → Int32)) ⊕ (Nat × List Value)
/-- the String constant's own place -/
def SK : Nat := 1000000
def SV : Nat := 1000001
def ev_v (ad : Nat → Nat) (v : Value) : Value := match v with
  | .ref k => .ref (ad k)
  | v => v
def ev_c (cy : Nat → ClassId) (ad : Nat → Nat) (e : Ce) : va_E := match e with
  | .inl a => .inl (cy a.1, a.2.1, .inl a.2.2)
  | .inr o => .inr (o.1, o.2.map (ev_v ad))
def ev_w (cy : Nat → ClassId) (ad : Nat → Nat) (w : List Ce) : va_W := w.mapIdx (fun k e => (ad k, ev_c cy ad e))
theorem ev_w_get {cy : Nat → ClassId} {ad : Nat → Nat} {w : List Ce} {k : Nat} {e : Ce} (h : w[k]? = some e) : (ev_w cy ad w)[k]? = some (ad k, ev_c cy ad e) := by
  simp [ev_w, List.getElem?_mapIdx, h]
theorem ev_w_at {cy : Nat → ClassId} {ad : Nat → Nat} {w : List Ce} {k : Nat} {q : Nat × va_E} (h : (ev_w cy ad w)[k]? = some q) : ∃ e, w[k]? = some e ∧ q = (ad k, ev_c cy ad e) := by
  rw [ev_w, List.getElem?_mapIdx] at h
  cases hk : w[k]? with
  | none => rw [hk] at h; cases h
  | some e => rw [hk] at h; exact ⟨e, rfl, (Option.some.inj h).symm⟩
theorem ev_w_set {cy : Nat → ClassId} {ad : Nat → Nat} {w : List Ce} {k : Nat} {e : Ce} : (ev_w cy ad w).set k (ad k, ev_c cy ad e) = ev_w cy ad (w.set k e) := by
  apply List.ext_getElem?
  intro j
  by_cases hj : j = k
  · subst hj
    by_cases hl : j < w.length
    · rw [List.getElem?_set_self (by simpa [ev_w] using hl), ev_w_get (e := e) (by rw [List.getElem?_set_self hl])]
    · rw [List.getElem?_eq_none (by simp [ev_w]; omega), List.getElem?_eq_none (by simp [ev_w]; omega)]
  · rw [List.getElem?_set_ne (Ne.symm hj)]
    simp [ev_w, List.getElem?_mapIdx, List.getElem?_set_ne (Ne.symm hj)]
/-- the locals -/
def ev_l (ad : Nat → Nat) (ls' : Array Slot) (ls : List (Option Value)) : Prop := ls'.size = ls.length ∧ lv_wf ls' ∧ ∀ (i : Nat) (v : Value), ls[i]? = some (some v) → ls'[i]? = some (.val (ev_v ad v))
def RM (d : Nat) : Room := { frames := d, cells := 0, slots := 0, locals := 40 * d }
/-- what stays true of the tables -/
def ev_F (D : va_G) (cy : Nat → ClassId) (U : State) : Prop := va_K D vwCl [(cy 0, .int), (cy 1, .byte), (cy 2, .boolean)] U ∧ va_Nw (.methodLinkNest RX0 55 yX4_bearing RX4) U ∧ va_Nw (.methodLinkNest RX0 59 yX4_leverage RX4) U ∧ va_Nw (.methodLinkNest RX0 65 yX4_standBy RX4) U ∧ va_Nw (.methodLinkNest RX0 97 yX4_liftsAt RX4) U ∧ va_Nw (.methodLinkNest RX1 50 yX4_bearing RX4) U ∧ va_Nw (.methodLinkNest RX1 54 yX4_leverage RX4) U ∧ va_Nw (.methodLinkNest RX1 68 yX4_liftsAt RX4) U ∧ va_Nw (.methodLinkNest RX3 41 yX4_liftsAt RX4) U
theorem ev_F.warm {D : va_G} {cy : Nat → ClassId} {s U : State} (hW : s.WarmedH U.vm) (h : ev_F D cy s) : ev_F D cy U :=
  ⟨va_K.moved hW.alike h.1, va_Nw.warmM hW h.2.1, va_Nw.warmM hW h.2.2.1, va_Nw.warmM hW h.2.2.2.1, va_Nw.warmM hW h.2.2.2.2.1, va_Nw.warmM hW h.2.2.2.2.2.1, va_Nw.warmM hW h.2.2.2.2.2.2.1, va_Nw.warmM hW h.2.2.2.2.2.2.2.1, va_Nw.warmM hW h.2.2.2.2.2.2.2.2⟩
theorem ev_F.same {D : va_G} {cy : Nat → ClassId} {s U : State} (hv : s.vm = U.vm) (h : ev_F D cy s) : ev_F D cy U :=
  ⟨va_K.moved (by rw [hv]; exact Vm.Alike.refl U.vm) h.1, va_Nw.same rfl hv h.2.1, va_Nw.same rfl hv h.2.2.1, va_Nw.same rfl hv h.2.2.2.1, va_Nw.same rfl hv h.2.2.2.2.1, va_Nw.same rfl hv h.2.2.2.2.2.1, va_Nw.same rfl hv h.2.2.2.2.2.2.1, va_Nw.same rfl hv h.2.2.2.2.2.2.2.1, va_Nw.same rfl hv h.2.2.2.2.2.2.2.2⟩
/-- the String constant: its cell, its bytes' cell -/
def ev_S (sa sv : Nat) (A : Nat → Prop) (U : State) (H : Heap) : Prop := vk_R RX2 42 "wbcsp" sa U ∧ vk_S 1 [5] [[119, 98, 99, 115, 112]] (fun _ => sa) (fun _ => sv) A U H ∧ va_Z "java/lang/String" "COMPACT_STRINGS" "Z" (.int 1) A U H
theorem ev_S.narrow {sa sv : Nat} {A B : Nat → Prop} {U : State} {H : Heap} (h : ev_S sa sv A U H) (hAB : ∀ q, B q → A q) : ev_S sa sv B U H := ⟨h.1, h.2.1.narrow hAB, h.2.2.narrow hAB⟩
theorem ev_S.kept {sa sv : Nat} {A : Nat → Prop} {U : State} {H H1 : Heap} (h : ev_S sa sv A U H) (hq : ∀ a : Nat, a < H.size → ¬ A a → H1[a]? = H[a]?) : ev_S sa sv A U H1 := ⟨h.1, h.2.1.kept hq, h.2.2.kept hq⟩
theorem ev_S.warm {sa sv : Nat} {A : Nat → Prop} {s U : State} {H : Heap} (hW : s.WarmedH U.vm) (h : ev_S sa sv A s H) : ev_S sa sv A U H := ⟨h.1.warm hW, h.2.1.moved hW.alike, h.2.2.moved hW.alike⟩
theorem ev_S.same {sa sv : Nat} {A : Nat → Prop} {s U : State} {H : Heap} (hv : s.vm = U.vm) (h : ev_S sa sv A s H) : ev_S sa sv A U H := ⟨h.1.same hv.symm, h.2.1.moved (by rw [hv]; exact Vm.Alike.refl U.vm), h.2.2.moved (by rw [hv]; exact Vm.Alike.refl U.vm)⟩
/-- the frame's own facts -/
def ev_C (y : MethodName) (cc : ByteArray) (ret : Option FieldType) (n : Nat) (D : va_G) (cy : Nat → ClassId) (ad : Nat → Nat) (sv : Nat) (p : Program) (s : State) (m : MethodId) (args : Array Value) (meth : Method) (c : Code) (A : Nat → Prop) : Prop :=
  p.tables.exec = Jvm.exec ∧ c.code = cc ∧ meth.sig.returnType = ret ∧ meth.locks = false ∧ c.maxLocals = n ∧ s.vm.findClass y.cls = some m.cls ∧ (∀ w ∈ wsG, w.before args s = true) ∧ ev_F D cy s ∧ (∀ q, s.heap.size ≤ q → A q) ∧ ev_S (ad SK) sv A s s.heap ∧ sv = ad SV
/-- a method's end -/
def ev_Q (D : va_G) (cy : Nat → ClassId) (ad : Nat → Nat) (A : Nat → Prop) (Q : Option Value → List Ce → Prop) : Array Value → State → Outcome → State → Prop := fun _ st oc t =>
  (∃ (r : Option Value) (w : List Ce), Q r w ∧ oc = .returned (r.map (ev_v ad)) ∧ va_P D vwCl (ev_w cy ad w) t.heap ∧ va_D A (ev_w cy ad w)) ∧ va_F A st t
/-- from this place of the method on, with these locals, this stack, this world: it ends, and Q of its answer and of the world then -/
def Ev (d : Nat) (y : MethodName) (cc : ByteArray) (ret : Option FieldType) (pc : Nat) (ls : List (Option Value)) (st : List Value) (w : List Ce) (Q : Option Value → List Ce → Prop) : Prop :=
  ∀ (D : va_G) (cy : Nat → ClassId) (ad : Nat → Nat) (sv : Nat) (p : Program) (l : Launch) (e : Env) (s : State) (m : MethodId) (args : Array Value) (below : List Frame) (meth : Method) (c : Code) (A : Nat → Prop) (ls' : Array Slot) (H : Heap) (locs : List Loc),
    ev_C y cc ret ls.length D cy ad sv p s m args meth c A → ev_l ad ls' ls → va_P D vwCl (ev_w cy ad w) H → va_D A (ev_w cy ad w) → va_S A s.heap H locs →
    W p l e (RM d) s m args below meth c H locs 0 0 (MQ below (ev_Q D cy ad A Q) args s 0 0 A) (F0 m pc ls' (st.map (ev_v ad)))
section EVR
variable {d : Nat} {y : MethodName} {cc : ByteArray} {ret : Option FieldType} {pc : Nat} {ls : List (Option Value)} {st : List Value} {w : List Ce} {Q : Option Value → List Ce → Prop}
theorem Ev.mono {Q' : Option Value → List Ce → Prop} (h : Ev d y cc ret pc ls st w Q) (hq : ∀ r w, Q r w → Q' r w) : Ev d y cc ret pc ls st w Q' := by
  intro D cy ad sv p l e s m args below meth c A ls' H locs C L P X S T hT Y
  obtain ⟨t, h1, o, h2, h3, ⟨⟨r, w', h4, h5⟩, h6⟩, h7⟩ := h D cy ad sv p l e s m args below meth c A ls' H locs C L P X S T hT Y
  exact ⟨t, h1, o, h2, h3, ⟨⟨r, w', hq r w' h4, h5⟩, h6⟩, h7⟩
theorem ev_cat {ad : Nat → Nat} (v : Value) : (ev_v ad v).category = v.category := by cases v <;> rfl
theorem Ev.iadd {a b : Int32} (hd : decode cc pc = .ok (.iadd, 1)) (k : Ev d y cc ret (pc + 1) ls (.int (a + b) :: st) w Q) : Ev d y cc ret pc ls (.int b :: .int a :: st) w Q :=
  fun D cy ad sv p l e s m args below meth c A ls' H locs C L P X S => lv_iadd C.1 C.2.1 hd (k D cy ad sv p l e s m args below meth c A ls' H locs C L P X S)
theorem Ev.isub {a b : Int32} (hd : decode cc pc = .ok (.isub, 1)) (k : Ev d y cc ret (pc + 1) ls (.int (a - b) :: st) w Q) : Ev d y cc ret pc ls (.int b :: .int a :: st) w Q :=
  fun D cy ad sv p l e s m args below meth c A ls' H locs C L P X S => lv_isub C.1 C.2.1 hd (k D cy ad sv p l e s m args below meth c A ls' H locs C L P X S)
theorem Ev.imul {a b : Int32} (hd : decode cc pc = .ok (.imul, 1)) (k : Ev d y cc ret (pc + 1) ls (.int (a * b) :: st) w Q) : Ev d y cc ret pc ls (.int b :: .int a :: st) w Q :=
  fun D cy ad sv p l e s m args below meth c A ls' H locs C L P X S => lv_imul C.1 C.2.1 hd (k D cy ad sv p l e s m args below meth c A ls' H locs C L P X S)
theorem Ev.iand {a b : Int32} (hd : decode cc pc = .ok (.iand, 1)) (k : Ev d y cc ret (pc + 1) ls (.int (a &&& b) :: st) w Q) : Ev d y cc ret pc ls (.int b :: .int a :: st) w Q :=
  fun D cy ad sv p l e s m args below meth c A ls' H locs C L P X S => lv_iand C.1 C.2.1 hd (k D cy ad sv p l e s m args below meth c A ls' H locs C L P X S)
theorem Ev.ior {a b : Int32} (hd : decode cc pc = .ok (.ior, 1)) (k : Ev d y cc ret (pc + 1) ls (.int (a ||| b) :: st) w Q) : Ev d y cc ret pc ls (.int b :: .int a :: st) w Q :=
  fun D cy ad sv p l e s m args below meth c A ls' H locs C L P X S => lv_ior C.1 C.2.1 hd (k D cy ad sv p l e s m args below meth c A ls' H locs C L P X S)
theorem Ev.ixor {a b : Int32} (hd : decode cc pc = .ok (.ixor, 1)) (k : Ev d y cc ret (pc + 1) ls (.int (a ^^^ b) :: st) w Q) : Ev d y cc ret pc ls (.int b :: .int a :: st) w Q :=
  fun D cy ad sv p l e s m args below meth c A ls' H locs C L P X S => lv_ixor C.1 C.2.1 hd (k D cy ad sv p l e s m args below meth c A ls' H locs C L P X S)
theorem Ev.ishl {a b : Int32} (hd : decode cc pc = .ok (.ishl, 1)) (k : Ev d y cc ret (pc + 1) ls (.int (a <<< (b &&& 31)) :: st) w Q) : Ev d y cc ret pc ls (.int b :: .int a :: st) w Q :=
  fun D cy ad sv p l e s m args below meth c A ls' H locs C L P X S => lv_ishl C.1 C.2.1 hd (k D cy ad sv p l e s m args below meth c A ls' H locs C L P X S)
theorem Ev.ishr {a b : Int32} (hd : decode cc pc = .ok (.ishr, 1)) (k : Ev d y cc ret (pc + 1) ls (.int (a >>> (b &&& 31)) :: st) w Q) : Ev d y cc ret pc ls (.int b :: .int a :: st) w Q :=
  fun D cy ad sv p l e s m args below meth c A ls' H locs C L P X S => lv_ishr C.1 C.2.1 hd (k D cy ad sv p l e s m args below meth c A ls' H locs C L P X S)
theorem Ev.idiv {a b : Int32} (hd : decode cc pc = .ok (.idiv, 1)) (hne : ¬ b = 0) (k : Ev d y cc ret (pc + 1) ls (.int (a / b) :: st) w Q) : Ev d y cc ret pc ls (.int b :: .int a :: st) w Q :=
  fun D cy ad sv p l e s m args below meth c A ls' H locs C L P X S => lv_idiv C.1 C.2.1 hd hne (k D cy ad sv p l e s m args below meth c A ls' H locs C L P X S)
theorem Ev.irem {a b : Int32} (hd : decode cc pc = .ok (.irem, 1)) (hne : ¬ b = 0) (k : Ev d y cc ret (pc + 1) ls (.int (a - a / b * b) :: st) w Q) : Ev d y cc ret pc ls (.int b :: .int a :: st) w Q :=
  fun D cy ad sv p l e s m args below meth c A ls' H locs C L P X S => lv_irem C.1 C.2.1 hd hne (k D cy ad sv p l e s m args below meth c A ls' H locs C L P X S)
theorem Ev.ladd {a b : Int64} (hd : decode cc pc = .ok (.ladd, 1)) (k : Ev d y cc ret (pc + 1) ls (.long (a + b) :: st) w Q) : Ev d y cc ret pc ls (.long b :: .long a :: st) w Q :=
  fun D cy ad sv p l e s m args below meth c A ls' H locs C L P X S => lv_ladd C.1 C.2.1 hd (k D cy ad sv p l e s m args below meth c A ls' H locs C L P X S)
theorem Ev.lmul {a b : Int64} (hd : decode cc pc = .ok (.lmul, 1)) (k : Ev d y cc ret (pc + 1) ls (.long (a * b) :: st) w Q) : Ev d y cc ret pc ls (.long b :: .long a :: st) w Q :=
  fun D cy ad sv p l e s m args below meth c A ls' H locs C L P X S => lv_lmul C.1 C.2.1 hd (k D cy ad sv p l e s m args below meth c A ls' H locs C L P X S)
theorem Ev.land {a b : Int64} (hd : decode cc pc = .ok (.land, 1)) (k : Ev d y cc ret (pc + 1) ls (.long (a &&& b) :: st) w Q) : Ev d y cc ret pc ls (.long b :: .long a :: st) w Q :=
  fun D cy ad sv p l e s m args below meth c A ls' H locs C L P X S => lv_land C.1 C.2.1 hd (k D cy ad sv p l e s m args below meth c A ls' H locs C L P X S)
theorem Ev.ldiv {a b : Int64} (hd : decode cc pc = .ok (.ldiv, 1)) (hne : ¬ b = 0) (k : Ev d y cc ret (pc + 1) ls (.long (a / b) :: st) w Q) : Ev d y cc ret pc ls (.long b :: .long a :: st) w Q :=
  fun D cy ad sv p l e s m args below meth c A ls' H locs C L P X S => lv_ldiv C.1 C.2.1 hd hne (k D cy ad sv p l e s m args below meth c A ls' H locs C L P X S)
theorem Ev.lrem {a b : Int64} (hd : decode cc pc = .ok (.lrem, 1)) (hne : ¬ b = 0) (k : Ev d y cc ret (pc + 1) ls (.long (a - a / b * b) :: st) w Q) : Ev d y cc ret pc ls (.long b :: .long a :: st) w Q :=
  fun D cy ad sv p l e s m args below meth c A ls' H locs C L P X S => lv_lrem C.1 C.2.1 hd hne (k D cy ad sv p l e s m args below meth c A ls' H locs C L P X S)
theorem Ev.iconst {n : Int} {v : Int32} (hd : decode cc pc = .ok (.iconst n, 1)) (hv : Int32.ofInt n = v) (k : Ev d y cc ret (pc + 1) ls (.int v :: st) w Q) : Ev d y cc ret pc ls (st) w Q :=
  fun D cy ad sv p l e s m args below meth c A ls' H locs C L P X S => lv_iconst C.1 C.2.1 hd hv (k D cy ad sv p l e s m args below meth c A ls' H locs C L P X S)
theorem Ev.bipush {n : Int} {v : Int32} (hd : decode cc pc = .ok (.bipush n, 2)) (hv : (Int8.ofInt n).toInt32 = v) (k : Ev d y cc ret (pc + 2) ls (.int v :: st) w Q) : Ev d y cc ret pc ls (st) w Q :=
  fun D cy ad sv p l e s m args below meth c A ls' H locs C L P X S => lv_bipush C.1 C.2.1 hd hv (k D cy ad sv p l e s m args below meth c A ls' H locs C L P X S)
theorem Ev.sipush {n : Int} {v : Int32} (hd : decode cc pc = .ok (.sipush n, 3)) (hv : (Int16.ofInt n).toInt32 = v) (k : Ev d y cc ret (pc + 3) ls (.int v :: st) w Q) : Ev d y cc ret pc ls (st) w Q :=
  fun D cy ad sv p l e s m args below meth c A ls' H locs C L P X S => lv_sipush C.1 C.2.1 hd hv (k D cy ad sv p l e s m args below meth c A ls' H locs C L P X S)
theorem Ev.i2l {a : Int32} (hd : decode cc pc = .ok (.i2l, 1)) (k : Ev d y cc ret (pc + 1) ls (.long a.toInt64 :: st) w Q) : Ev d y cc ret pc ls (.int a :: st) w Q :=
  fun D cy ad sv p l e s m args below meth c A ls' H locs C L P X S => lv_i2l C.1 C.2.1 hd rfl (k D cy ad sv p l e s m args below meth c A ls' H locs C L P X S)
theorem Ev.l2i {a : Int64} (hd : decode cc pc = .ok (.l2i, 1)) (k : Ev d y cc ret (pc + 1) ls (.int a.toInt32 :: st) w Q) : Ev d y cc ret pc ls (.long a :: st) w Q :=
  fun D cy ad sv p l e s m args below meth c A ls' H locs C L P X S => lv_l2i C.1 C.2.1 hd rfl (k D cy ad sv p l e s m args below meth c A ls' H locs C L P X S)
theorem Ev.pop {v : Value} (hd : decode cc pc = .ok (.pop, 1)) (hc : v.category = 1) (k : Ev d y cc ret (pc + 1) ls (st) w Q) : Ev d y cc ret pc ls (v :: st) w Q :=
  fun D cy ad sv p l e s m args below meth c A ls' H locs C L P X S => lv_pop C.1 C.2.1 hd (by rw [ev_cat]; exact hc) (k D cy ad sv p l e s m args below meth c A ls' H locs C L P X S)
theorem Ev.dup {v : Value} (hd : decode cc pc = .ok (.dup, 1)) (hc : v.category = 1) (k : Ev d y cc ret (pc + 1) ls (v :: v :: st) w Q) : Ev d y cc ret pc ls (v :: st) w Q :=
  fun D cy ad sv p l e s m args below meth c A ls' H locs C L P X S => lv_dup C.1 C.2.1 hd (by rw [ev_cat]; exact hc) (k D cy ad sv p l e s m args below meth c A ls' H locs C L P X S)
theorem Ev.dup2 {v u : Value} (hd : decode cc pc = .ok (.dup2, 1)) (hc : v.category = 1) (hc2 : u.category = 1) (k : Ev d y cc ret (pc + 1) ls (v :: u :: v :: u :: st) w Q) : Ev d y cc ret pc ls (v :: u :: st) w Q :=
  fun D cy ad sv p l e s m args below meth c A ls' H locs C L P X S => lv_dup2_11 C.1 C.2.1 hd (by rw [ev_cat]; exact hc) (by rw [ev_cat]; exact hc2) (k D cy ad sv p l e s m args below meth c A ls' H locs C L P X S)
theorem Ev.i2b {a v : Int32} (hd : decode cc pc = .ok (.i2b, 1)) (hv : a.toInt8.toInt32 = v) (k : Ev d y cc ret (pc + 1) ls (.int v :: st) w Q) : Ev d y cc ret pc ls (.int a :: st) w Q :=
  fun D cy ad sv p l e s m args below meth c A ls' H locs C L P X S => lv_i2b C.1 C.2.1 hd hv (k D cy ad sv p l e s m args below meth c A ls' H locs C L P X S)
theorem Ev.i2c {a v : Int32} (hd : decode cc pc = .ok (.i2c, 1)) (hv : (a.toUInt32 % 65536).toInt32 = v) (k : Ev d y cc ret (pc + 1) ls (.int v :: st) w Q) : Ev d y cc ret pc ls (.int a :: st) w Q :=
  fun D cy ad sv p l e s m args below meth c A ls' H locs C L P X S => lv_i2c C.1 C.2.1 hd hv (k D cy ad sv p l e s m args below meth c A ls' H locs C L P X S)
theorem Ev.iushr {a b v : Int32} (hd : decode cc pc = .ok (.iushr, 1)) (hv : (a.toUInt32 >>> (b.toUInt32 &&& Int32.toUInt32 31)).toInt32 = v) (k : Ev d y cc ret (pc + 1) ls (.int v :: st) w Q) : Ev d y cc ret pc ls (.int b :: .int a :: st) w Q :=
  fun D cy ad sv p l e s m args below meth c A ls' H locs C L P X S => lv_iushr C.1 C.2.1 hd hv (k D cy ad sv p l e s m args below meth c A ls' H locs C L P X S)
theorem Ev.iload_0 {x : Int32} (hd : decode cc pc = .ok (.iload_n 0, 1)) (hl : ls[0]? = some (some (.int x))) (k : Ev d y cc ret (pc + 1) ls (.int x :: st) w Q) : Ev d y cc ret pc ls st w Q :=
  fun D cy ad sv p l e s m args below meth c A ls' H locs C L P X S => lv_iload_n C.1 C.2.1 hd rfl (L.2.2 0 _ hl) (k D cy ad sv p l e s m args below meth c A ls' H locs C L P X S)
theorem Ev.iload_1 {x : Int32} (hd : decode cc pc = .ok (.iload_n 1, 1)) (hl : ls[1]? = some (some (.int x))) (k : Ev d y cc ret (pc + 1) ls (.int x :: st) w Q) : Ev d y cc ret pc ls st w Q :=
  fun D cy ad sv p l e s m args below meth c A ls' H locs C L P X S => lv_iload_n C.1 C.2.1 hd rfl (L.2.2 1 _ hl) (k D cy ad sv p l e s m args below meth c A ls' H locs C L P X S)
theorem Ev.iload_2 {x : Int32} (hd : decode cc pc = .ok (.iload_n 2, 1)) (hl : ls[2]? = some (some (.int x))) (k : Ev d y cc ret (pc + 1) ls (.int x :: st) w Q) : Ev d y cc ret pc ls st w Q :=
  fun D cy ad sv p l e s m args below meth c A ls' H locs C L P X S => lv_iload_n C.1 C.2.1 hd rfl (L.2.2 2 _ hl) (k D cy ad sv p l e s m args below meth c A ls' H locs C L P X S)
theorem Ev.iload_3 {x : Int32} (hd : decode cc pc = .ok (.iload_n 3, 1)) (hl : ls[3]? = some (some (.int x))) (k : Ev d y cc ret (pc + 1) ls (.int x :: st) w Q) : Ev d y cc ret pc ls st w Q :=
  fun D cy ad sv p l e s m args below meth c A ls' H locs C L P X S => lv_iload_n C.1 C.2.1 hd rfl (L.2.2 3 _ hl) (k D cy ad sv p l e s m args below meth c A ls' H locs C L P X S)
theorem Ev.iload {i : Nat} {x : Int32} (hd : decode cc pc = .ok (.iload i, 2)) (hl : ls[i]? = some (some (.int x))) (k : Ev d y cc ret (pc + 2) ls (.int x :: st) w Q) : Ev d y cc ret pc ls st w Q :=
  fun D cy ad sv p l e s m args below meth c A ls' H locs C L P X S => lv_iload C.1 C.2.1 hd (L.2.2 i _ hl) (k D cy ad sv p l e s m args below meth c A ls' H locs C L P X S)
theorem Ev.lload_0 {x : Int64} (hd : decode cc pc = .ok (.lload_n 0, 1)) (hl : ls[0]? = some (some (.long x))) (k : Ev d y cc ret (pc + 1) ls (.long x :: st) w Q) : Ev d y cc ret pc ls st w Q :=
  fun D cy ad sv p l e s m args below meth c A ls' H locs C L P X S => lv_lload_n C.1 C.2.1 hd rfl (L.2.2 0 _ hl) (k D cy ad sv p l e s m args below meth c A ls' H locs C L P X S)
theorem Ev.lload_1 {x : Int64} (hd : decode cc pc = .ok (.lload_n 1, 1)) (hl : ls[1]? = some (some (.long x))) (k : Ev d y cc ret (pc + 1) ls (.long x :: st) w Q) : Ev d y cc ret pc ls st w Q :=
  fun D cy ad sv p l e s m args below meth c A ls' H locs C L P X S => lv_lload_n C.1 C.2.1 hd rfl (L.2.2 1 _ hl) (k D cy ad sv p l e s m args below meth c A ls' H locs C L P X S)
theorem Ev.lload_2 {x : Int64} (hd : decode cc pc = .ok (.lload_n 2, 1)) (hl : ls[2]? = some (some (.long x))) (k : Ev d y cc ret (pc + 1) ls (.long x :: st) w Q) : Ev d y cc ret pc ls st w Q :=
  fun D cy ad sv p l e s m args below meth c A ls' H locs C L P X S => lv_lload_n C.1 C.2.1 hd rfl (L.2.2 2 _ hl) (k D cy ad sv p l e s m args below meth c A ls' H locs C L P X S)
theorem Ev.lload_3 {x : Int64} (hd : decode cc pc = .ok (.lload_n 3, 1)) (hl : ls[3]? = some (some (.long x))) (k : Ev d y cc ret (pc + 1) ls (.long x :: st) w Q) : Ev d y cc ret pc ls st w Q :=
  fun D cy ad sv p l e s m args below meth c A ls' H locs C L P X S => lv_lload_n C.1 C.2.1 hd rfl (L.2.2 3 _ hl) (k D cy ad sv p l e s m args below meth c A ls' H locs C L P X S)
theorem Ev.lload {i : Nat} {x : Int64} (hd : decode cc pc = .ok (.lload i, 2)) (hl : ls[i]? = some (some (.long x))) (k : Ev d y cc ret (pc + 2) ls (.long x :: st) w Q) : Ev d y cc ret pc ls st w Q :=
  fun D cy ad sv p l e s m args below meth c A ls' H locs C L P X S => lv_lload C.1 C.2.1 hd (L.2.2 i _ hl) (k D cy ad sv p l e s m args below meth c A ls' H locs C L P X S)
theorem Ev.aload_0 {x : Nat} (hd : decode cc pc = .ok (.aload_n 0, 1)) (hl : ls[0]? = some (some (.ref x))) (k : Ev d y cc ret (pc + 1) ls (.ref x :: st) w Q) : Ev d y cc ret pc ls st w Q :=
  fun D cy ad sv p l e s m args below meth c A ls' H locs C L P X S => lv_aload_n C.1 C.2.1 hd rfl (L.2.2 0 _ hl) (k D cy ad sv p l e s m args below meth c A ls' H locs C L P X S)
theorem Ev.aload_1 {x : Nat} (hd : decode cc pc = .ok (.aload_n 1, 1)) (hl : ls[1]? = some (some (.ref x))) (k : Ev d y cc ret (pc + 1) ls (.ref x :: st) w Q) : Ev d y cc ret pc ls st w Q :=
  fun D cy ad sv p l e s m args below meth c A ls' H locs C L P X S => lv_aload_n C.1 C.2.1 hd rfl (L.2.2 1 _ hl) (k D cy ad sv p l e s m args below meth c A ls' H locs C L P X S)
theorem Ev.aload_2 {x : Nat} (hd : decode cc pc = .ok (.aload_n 2, 1)) (hl : ls[2]? = some (some (.ref x))) (k : Ev d y cc ret (pc + 1) ls (.ref x :: st) w Q) : Ev d y cc ret pc ls st w Q :=
  fun D cy ad sv p l e s m args below meth c A ls' H locs C L P X S => lv_aload_n C.1 C.2.1 hd rfl (L.2.2 2 _ hl) (k D cy ad sv p l e s m args below meth c A ls' H locs C L P X S)
theorem Ev.aload_3 {x : Nat} (hd : decode cc pc = .ok (.aload_n 3, 1)) (hl : ls[3]? = some (some (.ref x))) (k : Ev d y cc ret (pc + 1) ls (.ref x :: st) w Q) : Ev d y cc ret pc ls st w Q :=
  fun D cy ad sv p l e s m args below meth c A ls' H locs C L P X S => lv_aload_n C.1 C.2.1 hd rfl (L.2.2 3 _ hl) (k D cy ad sv p l e s m args below meth c A ls' H locs C L P X S)
theorem Ev.icmp_eq {a b : Int32} {off : Int} (tgt : Nat) (hd : decode cc pc = .ok (.if_icmp .eq off, 3)) (ht : (pc : Int) + off = (tgt : Int)) (kt : a = b → Ev d y cc ret tgt ls st w Q) (kf : ¬ a = b → Ev d y cc ret (pc + 3) ls st w Q) : Ev d y cc ret pc ls (.int b :: .int a :: st) w Q :=
  fun D cy ad sv p l e s m args below meth c A ls' H locs C L P X S => lv_icmp_eq C.1 C.2.1 hd ht (fun h => kt h D cy ad sv p l e s m args below meth c A ls' H locs C L P X S) (fun h => kf h D cy ad sv p l e s m args below meth c A ls' H locs C L P X S)
theorem Ev.icmp_ne {a b : Int32} {off : Int} (tgt : Nat) (hd : decode cc pc = .ok (.if_icmp .ne off, 3)) (ht : (pc : Int) + off = (tgt : Int)) (kt : ¬ a = b → Ev d y cc ret tgt ls st w Q) (kf : a = b → Ev d y cc ret (pc + 3) ls st w Q) : Ev d y cc ret pc ls (.int b :: .int a :: st) w Q :=
  fun D cy ad sv p l e s m args below meth c A ls' H locs C L P X S => lv_icmp_ne C.1 C.2.1 hd ht (fun h => kt h D cy ad sv p l e s m args below meth c A ls' H locs C L P X S) (fun h => kf h D cy ad sv p l e s m args below meth c A ls' H locs C L P X S)
theorem Ev.icmp_lt {a b : Int32} {off : Int} (tgt : Nat) (hd : decode cc pc = .ok (.if_icmp .lt off, 3)) (ht : (pc : Int) + off = (tgt : Int)) (kt : a < b → Ev d y cc ret tgt ls st w Q) (kf : ¬ a < b → Ev d y cc ret (pc + 3) ls st w Q) : Ev d y cc ret pc ls (.int b :: .int a :: st) w Q :=
  fun D cy ad sv p l e s m args below meth c A ls' H locs C L P X S => lv_icmp_lt C.1 C.2.1 hd ht (fun h => kt h D cy ad sv p l e s m args below meth c A ls' H locs C L P X S) (fun h => kf h D cy ad sv p l e s m args below meth c A ls' H locs C L P X S)
theorem Ev.icmp_ge {a b : Int32} {off : Int} (tgt : Nat) (hd : decode cc pc = .ok (.if_icmp .ge off, 3)) (ht : (pc : Int) + off = (tgt : Int)) (kt : b ≤ a → Ev d y cc ret tgt ls st w Q) (kf : ¬ b ≤ a → Ev d y cc ret (pc + 3) ls st w Q) : Ev d y cc ret pc ls (.int b :: .int a :: st) w Q :=
  fun D cy ad sv p l e s m args below meth c A ls' H locs C L P X S => lv_icmp_ge C.1 C.2.1 hd ht (fun h => kt h D cy ad sv p l e s m args below meth c A ls' H locs C L P X S) (fun h => kf h D cy ad sv p l e s m args below meth c A ls' H locs C L P X S)
theorem Ev.icmp_gt {a b : Int32} {off : Int} (tgt : Nat) (hd : decode cc pc = .ok (.if_icmp .gt off, 3)) (ht : (pc : Int) + off = (tgt : Int)) (kt : b < a → Ev d y cc ret tgt ls st w Q) (kf : ¬ b < a → Ev d y cc ret (pc + 3) ls st w Q) : Ev d y cc ret pc ls (.int b :: .int a :: st) w Q :=
  fun D cy ad sv p l e s m args below meth c A ls' H locs C L P X S => lv_icmp_gt C.1 C.2.1 hd ht (fun h => kt h D cy ad sv p l e s m args below meth c A ls' H locs C L P X S) (fun h => kf h D cy ad sv p l e s m args below meth c A ls' H locs C L P X S)
theorem Ev.icmp_le {a b : Int32} {off : Int} (tgt : Nat) (hd : decode cc pc = .ok (.if_icmp .le off, 3)) (ht : (pc : Int) + off = (tgt : Int)) (kt : a ≤ b → Ev d y cc ret tgt ls st w Q) (kf : ¬ a ≤ b → Ev d y cc ret (pc + 3) ls st w Q) : Ev d y cc ret pc ls (.int b :: .int a :: st) w Q :=
  fun D cy ad sv p l e s m args below meth c A ls' H locs C L P X S => lv_icmp_le C.1 C.2.1 hd ht (fun h => kt h D cy ad sv p l e s m args below meth c A ls' H locs C L P X S) (fun h => kf h D cy ad sv p l e s m args below meth c A ls' H locs C L P X S)
theorem Ev.if_eq {a : Int32} {off : Int} (tgt : Nat) (hd : decode cc pc = .ok (.ifCond .eq off, 3)) (ht : (pc : Int) + off = (tgt : Int)) (kt : a = 0 → Ev d y cc ret tgt ls st w Q) (kf : ¬ a = 0 → Ev d y cc ret (pc + 3) ls st w Q) : Ev d y cc ret pc ls (.int a :: st) w Q :=
  fun D cy ad sv p l e s m args below meth c A ls' H locs C L P X S => lv_if_eq C.1 C.2.1 hd ht (fun h => kt h D cy ad sv p l e s m args below meth c A ls' H locs C L P X S) (fun h => kf h D cy ad sv p l e s m args below meth c A ls' H locs C L P X S)
theorem Ev.if_ne {a : Int32} {off : Int} (tgt : Nat) (hd : decode cc pc = .ok (.ifCond .ne off, 3)) (ht : (pc : Int) + off = (tgt : Int)) (kt : ¬ a = 0 → Ev d y cc ret tgt ls st w Q) (kf : a = 0 → Ev d y cc ret (pc + 3) ls st w Q) : Ev d y cc ret pc ls (.int a :: st) w Q :=
  fun D cy ad sv p l e s m args below meth c A ls' H locs C L P X S => lv_if_ne C.1 C.2.1 hd ht (fun h => kt h D cy ad sv p l e s m args below meth c A ls' H locs C L P X S) (fun h => kf h D cy ad sv p l e s m args below meth c A ls' H locs C L P X S)
theorem Ev.if_lt {a : Int32} {off : Int} (tgt : Nat) (hd : decode cc pc = .ok (.ifCond .lt off, 3)) (ht : (pc : Int) + off = (tgt : Int)) (kt : a < 0 → Ev d y cc ret tgt ls st w Q) (kf : ¬ a < 0 → Ev d y cc ret (pc + 3) ls st w Q) : Ev d y cc ret pc ls (.int a :: st) w Q :=
  fun D cy ad sv p l e s m args below meth c A ls' H locs C L P X S => lv_if_lt C.1 C.2.1 hd ht (fun h => kt h D cy ad sv p l e s m args below meth c A ls' H locs C L P X S) (fun h => kf h D cy ad sv p l e s m args below meth c A ls' H locs C L P X S)
theorem Ev.if_ge {a : Int32} {off : Int} (tgt : Nat) (hd : decode cc pc = .ok (.ifCond .ge off, 3)) (ht : (pc : Int) + off = (tgt : Int)) (kt : 0 ≤ a → Ev d y cc ret tgt ls st w Q) (kf : ¬ 0 ≤ a → Ev d y cc ret (pc + 3) ls st w Q) : Ev d y cc ret pc ls (.int a :: st) w Q :=
  fun D cy ad sv p l e s m args below meth c A ls' H locs C L P X S => lv_if_ge C.1 C.2.1 hd ht (fun h => kt h D cy ad sv p l e s m args below meth c A ls' H locs C L P X S) (fun h => kf h D cy ad sv p l e s m args below meth c A ls' H locs C L P X S)
theorem Ev.if_gt {a : Int32} {off : Int} (tgt : Nat) (hd : decode cc pc = .ok (.ifCond .gt off, 3)) (ht : (pc : Int) + off = (tgt : Int)) (kt : 0 < a → Ev d y cc ret tgt ls st w Q) (kf : ¬ 0 < a → Ev d y cc ret (pc + 3) ls st w Q) : Ev d y cc ret pc ls (.int a :: st) w Q :=
  fun D cy ad sv p l e s m args below meth c A ls' H locs C L P X S => lv_if_gt C.1 C.2.1 hd ht (fun h => kt h D cy ad sv p l e s m args below meth c A ls' H locs C L P X S) (fun h => kf h D cy ad sv p l e s m args below meth c A ls' H locs C L P X S)
theorem Ev.if_le {a : Int32} {off : Int} (tgt : Nat) (hd : decode cc pc = .ok (.ifCond .le off, 3)) (ht : (pc : Int) + off = (tgt : Int)) (kt : a ≤ 0 → Ev d y cc ret tgt ls st w Q) (kf : ¬ a ≤ 0 → Ev d y cc ret (pc + 3) ls st w Q) : Ev d y cc ret pc ls (.int a :: st) w Q :=
  fun D cy ad sv p l e s m args below meth c A ls' H locs C L P X S => lv_if_le C.1 C.2.1 hd ht (fun h => kt h D cy ad sv p l e s m args below meth c A ls' H locs C L P X S) (fun h => kf h D cy ad sv p l e s m args below meth c A ls' H locs C L P X S)
theorem Ev.goto {off : Int} (tgt : Nat) (hd : decode cc pc = .ok (.goto off, 3)) (ht : (pc : Int) + off = (tgt : Int)) (k : Ev d y cc ret tgt ls st w Q) : Ev d y cc ret pc ls st w Q :=
  fun D cy ad sv p l e s m args below meth c A ls' H locs C L P X S => lv_goto C.1 C.2.1 hd ht (k D cy ad sv p l e s m args below meth c A ls' H locs C L P X S)
theorem Ev.tableIn {dflt lo hi off : Int} {offs : Array Int} {len : Nat} {x : Int32} (tgt : Nat) (hd : decode cc pc = .ok (.tableswitch dflt lo hi offs, len)) (h1 : ¬ x.toInt < lo) (h2 : ¬ hi < x.toInt) (ho : offs[(x.toInt - lo).toNat]? = some off) (ht : (pc : Int) + off = (tgt : Int)) (k : Ev d y cc ret tgt ls st w Q) : Ev d y cc ret pc ls (.int x :: st) w Q :=
  fun D cy ad sv p l e s m args below meth c A ls' H locs C L P X S => lv_tableIn C.1 C.2.1 hd h1 h2 ho ht (k D cy ad sv p l e s m args below meth c A ls' H locs C L P X S)
theorem Ev.tableOut {dflt lo hi : Int} {offs : Array Int} {len : Nat} {x : Int32} (tgt : Nat) (hd : decode cc pc = .ok (.tableswitch dflt lo hi offs, len)) (h : x.toInt < lo ∨ hi < x.toInt) (ht : (pc : Int) + dflt = (tgt : Int)) (k : Ev d y cc ret tgt ls st w Q) : Ev d y cc ret pc ls (.int x :: st) w Q :=
  fun D cy ad sv p l e s m args below meth c A ls' H locs C L P X S => lv_tableOut C.1 C.2.1 hd h ht (k D cy ad sv p l e s m args below meth c A ls' H locs C L P X S)
theorem Ev.lookup {dflt off : Int} {ps : Array (Int × Int)} {len : Nat} {x : Int32} (tgt : Nat) (hd : decode cc pc = .ok (.lookupswitch dflt ps, len)) (hp : (ps.toList.zip (ps.toList.drop 1)).all (fun (a, next) => a.1 < next.1) = true) (ho : Op.lookupswitch.offset ps.toList dflt x.toInt = off) (ht : (pc : Int) + off = (tgt : Int)) (k : Ev d y cc ret tgt ls st w Q) : Ev d y cc ret pc ls (.int x :: st) w Q :=
  fun D cy ad sv p l e s m args below meth c A ls' H locs C L P X S => lv_lookup C.1 C.2.1 hd hp ho ht (k D cy ad sv p l e s m args below meth c A ls' H locs C L P X S)
theorem Ev.ldc {i : Nat} {v : Int32} (hk : Cond.constant y.cls i v ∈ wsG) (hd : decode cc pc = .ok (.ldc i, 2)) (k : Ev d y cc ret (pc + 2) ls (.int v :: st) w Q) : Ev d y cc ret pc ls st w Q :=
  fun D cy ad sv p l e s m args below meth c A ls' H locs C L P X S => lv_ldc C.1 C.2.1 C.2.2.2.2.2.1 (C.2.2.2.2.2.2.1 _ hk) hd (k D cy ad sv p l e s m args below meth c A ls' H locs C L P X S)
theorem Ev.ldcw {i : Nat} {v : Int32} (hk : Cond.constant y.cls i v ∈ wsG) (hd : decode cc pc = .ok (.ldc_w i, 3)) (k : Ev d y cc ret (pc + 3) ls (.int v :: st) w Q) : Ev d y cc ret pc ls st w Q :=
  fun D cy ad sv p l e s m args below meth c A ls' H locs C L P X S => lv_ldcw C.1 C.2.1 C.2.2.2.2.2.1 (C.2.2.2.2.2.2.1 _ hk) hd (k D cy ad sv p l e s m args below meth c A ls' H locs C L P X S)
theorem Ev.ldc2 {i : Nat} {v : Int64} (hk : Cond.constantLong y.cls i v ∈ wsG) (hd : decode cc pc = .ok (.ldc2_w i, 3)) (k : Ev d y cc ret (pc + 3) ls (.long v :: st) w Q) : Ev d y cc ret pc ls st w Q :=
  fun D cy ad sv p l e s m args below meth c A ls' H locs C L P X S => lv_ldc2 C.1 C.2.1 C.2.2.2.2.2.1 (C.2.2.2.2.2.2.1 _ hk) hd (k D cy ad sv p l e s m args below meth c A ls' H locs C L P X S)
theorem ev_end {D : va_G} {cy : Nat → ClassId} {ad : Nat → Nat} {s t : State} {A : Nat → Prop} {H : Heap} {locs : List Loc} {r : Option Value} {args : Array Value} (hQ : Q r w) (P : va_P D vwCl (ev_w cy ad w) H) (X : va_D A (ev_w cy ad w)) (S : va_S A s.heap H locs) (ht : t.heap = H) : ev_Q D cy ad A Q args s (.returned (r.map (ev_v ad))) t :=
  ⟨⟨r, w, hQ, rfl, by rw [ht]; exact P, X⟩, S.F ht⟩
theorem Ev.iret {v : Int32} (hd : decode cc pc = .ok (.ireturn, 1)) (hQ : Q (some (.int v)) w) : Ev d y cc (some .int) pc ls [.int v] w Q :=
  fun D cy ad sv p l e s m args below meth c A ls' H locs C L P X S => W.iret C.1 C.2.1 C.2.2.1 (fun t ht _ => ev_end (r := some (.int v)) hQ P X S ht) S.2.2 hd (hlocks := C.2.2.2.1)
theorem Ev.zret {v : Int32} (hd : decode cc pc = .ok (.ireturn, 1)) (hn : narrow .boolean (.int v) = .int v) (hQ : Q (some (.int v)) w) : Ev d y cc (some .boolean) pc ls [.int v] w Q :=
  fun D cy ad sv p l e s m args below meth c A ls' H locs C L P X S => W.zret C.1 C.2.1 C.2.2.1 hn (fun t ht _ => ev_end (r := some (.int v)) hQ P X S ht) S.2.2 hd (hlocks := C.2.2.2.1)
theorem Ev.lret {v : Int64} (hd : decode cc pc = .ok (.lreturn, 1)) (hQ : Q (some (.long v)) w) : Ev d y cc (some .long) pc ls [.long v] w Q :=
  fun D cy ad sv p l e s m args below meth c A ls' H locs C L P X S => W.lret C.1 C.2.1 C.2.2.1 (fun t ht _ => ev_end (r := some (.long v)) hQ P X S ht) S.2.2 hd (hlocks := C.2.2.2.1)
theorem Ev.vret (hd : decode cc pc = .ok (.return_, 1)) (hQ : Q none w) : Ev d y cc none pc ls [] w Q :=
  fun D cy ad sv p l e s m args below meth c A ls' H locs C L P X S => W.vret C.1 C.2.1 C.2.2.1 (fun t ht _ => ev_end (r := none) hQ P X S ht) S.2.2 hd (hlocks := C.2.2.2.1)
theorem Ev.iald {q n : Nat} {f : Nat → Int32} {i : Int32} (hd : decode cc pc = .ok (.iaload, 1)) (he : w[q]? = some (.inl (0, n, f))) (hi : vp_in i n) (k : Ev d y cc ret (pc + 1) ls (.int (f i.toNatClampNeg) :: st) w Q) : Ev d y cc ret pc ls (.int i :: .ref q :: st) w Q :=
  fun D cy ad sv p l e s m args below meth c A ls' H locs C L P X S => va_iald C.1 C.2.1 C.2.2.2.2.2.2.2.1.1 P q 0 (ev_w_get he) rfl hi hd (k D cy ad sv p l e s m args below meth c A ls' H locs C L P X S)
theorem Ev.bald {q n : Nat} {f : Nat → Int32} {i : Int32} (hd : decode cc pc = .ok (.baload, 1)) (he : w[q]? = some (.inl (1, n, f))) (hi : vp_in i n) (k : Ev d y cc ret (pc + 1) ls (.int (f i.toNatClampNeg) :: st) w Q) : Ev d y cc ret pc ls (.int i :: .ref q :: st) w Q :=
  fun D cy ad sv p l e s m args below meth c A ls' H locs C L P X S => va_bald C.1 C.2.1 C.2.2.2.2.2.2.2.1.1 P q 1 (ev_w_get he) rfl hi hd (k D cy ad sv p l e s m args below meth c A ls' H locs C L P X S)
theorem Ev.zald {q n : Nat} {f : Nat → Int32} {i : Int32} (hd : decode cc pc = .ok (.baload, 1)) (he : w[q]? = some (.inl (2, n, f))) (hi : vp_in i n) (k : Ev d y cc ret (pc + 1) ls (.int (f i.toNatClampNeg) :: st) w Q) : Ev d y cc ret pc ls (.int i :: .ref q :: st) w Q :=
  fun D cy ad sv p l e s m args below meth c A ls' H locs C L P X S => va_zald C.1 C.2.1 C.2.2.2.2.2.2.2.1.1 P q 2 (ev_w_get he) rfl hi hd (k D cy ad sv p l e s m args below meth c A ls' H locs C L P X S)
theorem Ev.iast {q n : Nat} {f : Nat → Int32} {i x : Int32} {w2 : List Ce} (hd : decode cc pc = .ok (.iastore, 1)) (he : w[q]? = some (.inl (0, n, f))) (hi : vp_in i n) (hw : w.set q (.inl (0, n, upd f i.toNatClampNeg x)) = w2) (k : Ev d y cc ret (pc + 1) ls st w2 Q) : Ev d y cc ret pc ls (.int x :: .int i :: .ref q :: st) w Q :=
  fun D cy ad sv p l e s m args below meth c A ls' H locs C L P X S => va_iast C.1 C.2.1 C.2.2.2.2.2.2.2.1.1 P X S q 0 (ev_w_get he) rfl hi hd (fun H1 locs1 P1 X1 S1 => k D cy ad sv p l e s m args below meth c A ls' H1 locs1 C L (by rw [← hw, ← ev_w_set]; exact P1) (by rw [← hw, ← ev_w_set]; exact X1) S1)
theorem Ev.bast {q n : Nat} {f : Nat → Int32} {i x : Int32} {w2 : List Ce} (hd : decode cc pc = .ok (.bastore, 1)) (he : w[q]? = some (.inl (1, n, f))) (hi : vp_in i n) (hw : w.set q (.inl (1, n, upd f i.toNatClampNeg (vp_nar .byte x))) = w2) (k : Ev d y cc ret (pc + 1) ls st w2 Q) : Ev d y cc ret pc ls (.int x :: .int i :: .ref q :: st) w Q :=
  fun D cy ad sv p l e s m args below meth c A ls' H locs C L P X S => va_bast C.1 C.2.1 C.2.2.2.2.2.2.2.1.1 P X S q 1 (ev_w_get he) rfl hi hd (fun H1 locs1 P1 X1 S1 => k D cy ad sv p l e s m args below meth c A ls' H1 locs1 C L (by rw [← hw, ← ev_w_set]; exact P1) (by rw [← hw, ← ev_w_set]; exact X1) S1)
theorem Ev.zast {q n : Nat} {f : Nat → Int32} {i x : Int32} {w2 : List Ce} (hd : decode cc pc = .ok (.bastore, 1)) (he : w[q]? = some (.inl (2, n, f))) (hi : vp_in i n) (hw : w.set q (.inl (2, n, upd f i.toNatClampNeg (vp_nar .boolean x))) = w2) (k : Ev d y cc ret (pc + 1) ls st w2 Q) : Ev d y cc ret pc ls (.int x :: .int i :: .ref q :: st) w Q :=
  fun D cy ad sv p l e s m args below meth c A ls' H locs C L P X S => va_zast C.1 C.2.1 C.2.2.2.2.2.2.2.1.1 P X S q 2 (ev_w_get he) rfl hi hd (fun H1 locs1 P1 X1 S1 => k D cy ad sv p l e s m args below meth c A ls' H1 locs1 C L (by rw [← hw, ← ev_w_set]; exact P1) (by rw [← hw, ← ev_w_set]; exact X1) S1)
/-- a class of vwCl -/
def CF (ci : Nat) (C : String) (T : u_T) (N : Nat) (ty : Nat → FieldType) : Prop := vwCl[ci]? = some (C, T, N) ∧ (∀ w ∈ u_ws C T N, w ∈ wsG) ∧ (∀ k, k < N → parseFieldDescriptor (T k).2.2.1 = some (ty k)) ∧ (∀ a, a < N → ∀ b, b < N → a ≠ b → (T a).2.1 ≠ (T b).2.1)
theorem cf0 : CF 0 RX0 TX0 11 tyX0 := ⟨rfl, inGX0, tyX0_ok, nmX0⟩
theorem cf1 : CF 1 RX1 TX1 6 tyX1 := ⟨rfl, inGX1, tyX1_ok, nmX1⟩
theorem cf2 : CF 2 RX2 TX2 5 tyX2 := ⟨rfl, inGX2, tyX2_ok, nmX2⟩
theorem cf3 : CF 3 RX3 TX3 6 tyX3 := ⟨rfl, inGX3, tyX3_ok, nmX3⟩
theorem cf4 : CF 4 RX4 TX4 10 tyX4 := ⟨rfl, inGX4, tyX4_ok, nmX4⟩
theorem cf5 : CF 5 RX5 TX5 50 tyX5 := ⟨rfl, inGX5, tyX5_ok, nmX5⟩
theorem Ev.getf {ci N i q : Nat} {C : String} {T : u_T} {ty : Nat → FieldType} {fs : List Value} {v : Value} (hc : CF ci C T N ty) (j : Nat) (hj : j < N) (hk : Cond.fieldLink y.cls i (T j).1 (T j).2.1 (T j).2.2.1 ∈ wsG) (hd : decode cc pc = .ok (.getfield i, 3)) (he : w[q]? = some (.inr (ci, fs))) (hv : fs[j]? = some v) (k : Ev d y cc ret (pc + 3) ls (v :: st) w Q) : Ev d y cc ret pc ls (.ref q :: st) w Q :=
  fun D cy ad sv p l e s m args below meth c A ls' H locs C L P X S => va_get C.1 C.2.1 C.2.2.2.2.2.2.1 hc.2.1 C.2.2.2.2.2.1 C.2.2.2.2.2.2.2.1.1 P q (ev_w_get he) hc.1 j hj (C.2.2.2.2.2.2.1 _ hk) (fun _ h => h) (by rw [List.getElem?_map, hv]; rfl) hd (k D cy ad sv p l e s m args below meth c A ls' H locs C L P X S)
theorem Ev.putf {ci N i q : Nat} {C : String} {T : u_T} {ty : Nat → FieldType} {fs : List Value} {v : Value} {w2 : List Ce} (hc : CF ci C T N ty) (j : Nat) (hj : j < N) (hk : Cond.fieldLink y.cls i (T j).1 (T j).2.1 (T j).2.2.1 ∈ wsG) (hd : decode cc pc = .ok (.putfield i, 3)) (hf : (T j).2.2.2 = false) (hv : ∀ ad, ev_v ad v = v) (hn : narrow (ty j) v = v) (hfit : fits (ty j) v = true) (he : w[q]? = some (.inr (ci, fs))) (hl : j < fs.length) (hw : w.set q (.inr (ci, fs.set j v)) = w2) (k : Ev d y cc ret (pc + 3) ls st w2 Q) : Ev d y cc ret pc ls (v :: .ref q :: st) w Q := by
  intro D cy ad sv p l e s m args below meth c A ls' H locs C L P X S
  show W p l e (RM d) s m args below meth c H locs 0 0 _ (F0 m pc ls' (ev_v ad v :: .ref (ad q) :: st.map (ev_v ad)))
  rw [hv ad]
  refine va_put C.1 C.2.1 C.2.2.2.2.2.2.1 hc.2.1 ty hc.2.2.1 hc.2.2.2 C.2.2.2.2.2.1 C.2.2.2.2.2.2.2.1.1 P X S q (ev_w_get he) hc.1 j hj (C.2.2.2.2.2.2.1 _ hk) (fun _ h => h) hf (hc.2.2.1 j hj) hn hfit (by rw [List.length_map]; exact hl) hd (fun H1 locs1 P1 X1 S1 => ?_)
  have e1 : (ev_w cy ad w).set q (ad q, .inr (ci, (fs.map (ev_v ad)).set j v)) = ev_w cy ad w2 := by
    rw [← hw, ← ev_w_set]
    show _ = (ev_w cy ad w).set q (ad q, .inr (ci, (fs.set j v).map (ev_v ad)))
    rw [List.map_set, hv ad]
  exact k D cy ad sv p l e s m args below meth c A ls' H1 locs1 C L (by rw [← e1]; exact P1) (by rw [← e1]; exact X1) S1
/-- the slot ahead is no long's -/
def lok (ls : List (Option Value)) (i : Nat) : Bool := match i with
  | 0 => true
  | j + 1 => match ls[j]? with
    | some (some u) => u.category == 1
    | _ => true
theorem lok_of {ls : List (Option Value)} {i j : Nat} {u : Value} (h : lok ls i = true) (hj : j + 1 = i) (hu : ls[j]? = some (some u)) : ¬ u.category = 2 := by
  subst hj
  simp only [lok, hu] at h
  intro hc
  rw [hc] at h
  cases h
def ev_al (ad : Nat → Nat) (ls : List (Option Value)) : List (Nat × Value) := (List.range ls.length).filterMap (fun i => match ls[i]? with
  | some (some v) => some (i, ev_v ad v)
  | _ => none)
theorem ev_al_in {ad : Nat → Nat} {ls : List (Option Value)} {i : Nat} {v : Value} (h : ls[i]? = some (some v)) : (i, ev_v ad v) ∈ ev_al ad ls :=
  List.mem_filterMap.mpr ⟨i, List.mem_range.mpr (List.getElem?_eq_some_iff.mp h).1, by rw [h]⟩
theorem ev_l.has {ad : Nat → Nat} {ls' : Array Slot} {ls : List (Option Value)} (h : ev_l ad ls' ls) : lv_has ls' ls.length (ev_al ad ls) := by
  refine ⟨h.1, h.2.1, fun q hq => ?_⟩
  obtain ⟨i, -, hi⟩ := List.mem_filterMap.mp hq
  cases hc : ls[i]? with
  | none => rw [hc] at hi; cases hi
  | some o =>
    cases o with
    | none => rw [hc] at hi; cases hi
    | some v =>
      rw [hc] at hi
      cases hi
      exact h.2.2 i v hc
theorem ev_l.set1 {ad : Nat → Nat} {ls'' : Array Slot} {ls : List (Option Value)} {i : Nat} {v : Value} (hi : i < ls.length) (hok : lok ls i = true) (h : lv_has ls'' ls.length ((i, ev_v ad v) :: (ev_al ad ls).filter (fun q => !(q.1 == i) && !(q.1 + 1 == i && q.2.category == 2)))) : ev_l ad ls'' (ls.set i (some v)) := by
  refine ⟨by rw [List.length_set]; exact h.1, h.2.1, fun j u hj => ?_⟩
  by_cases e : j = i
  · subst e
    rw [List.getElem?_set_self hi] at hj
    cases hj
    exact h.2.2 (j, ev_v ad v) List.mem_cons_self
  · rw [List.getElem?_set_ne (Ne.symm e)] at hj
    refine h.2.2 (j, ev_v ad u) (List.mem_cons_of_mem _ (List.mem_filter.mpr ⟨ev_al_in hj, ?_⟩))
    simp only [Bool.and_eq_true, Bool.not_eq_true', beq_eq_false_iff_ne, ne_eq, Bool.and_eq_false_iff]
    refine ⟨e, ?_⟩
    by_cases e2 : j + 1 = i
    · exact Or.inr (by rw [ev_cat]; exact lok_of hok e2 hj)
    · exact Or.inl e2
theorem ev_l.set2 {ad : Nat → Nat} {ls'' : Array Slot} {ls : List (Option Value)} {i : Nat} {v : Value} (hi : i + 1 < ls.length) (hok : lok ls i = true) (h : lv_has ls'' ls.length ((i, ev_v ad v) :: (ev_al ad ls).filter (fun q => !(q.1 == i) && (!(q.1 == i + 1) && !(q.1 + 1 == i && q.2.category == 2))))) : ev_l ad ls'' ((ls.set i (some v)).set (i + 1) none) := by
  refine ⟨by rw [List.length_set, List.length_set]; exact h.1, h.2.1, fun j u hj => ?_⟩
  by_cases e1 : j = i + 1
  · subst e1
    rw [List.getElem?_set_self (by rw [List.length_set]; exact hi)] at hj
    cases hj
  rw [List.getElem?_set_ne (Ne.symm e1)] at hj
  by_cases e : j = i
  · subst e
    rw [List.getElem?_set_self (by omega)] at hj
    cases hj
    exact h.2.2 (j, ev_v ad v) List.mem_cons_self
  · rw [List.getElem?_set_ne (Ne.symm e)] at hj
    refine h.2.2 (j, ev_v ad u) (List.mem_cons_of_mem _ (List.mem_filter.mpr ⟨ev_al_in hj, ?_⟩))
    simp only [Bool.and_eq_true, Bool.not_eq_true', beq_eq_false_iff_ne, ne_eq, Bool.and_eq_false_iff]
    refine ⟨e, e1, ?_⟩
    by_cases e2 : j + 1 = i
    · exact Or.inr (by rw [ev_cat]; exact lok_of hok e2 hj)
    · exact Or.inl e2
theorem Ev.istN {i : Nat} {j : Fin 4} {x : Int32} {ls2 : List (Option Value)} (hd : decode cc pc = .ok (.istore_n j, 1)) (hj : (j : Nat) = i) (hi : i < ls.length) (hok : lok ls i = true) (hl : ls.set i (some (.int x)) = ls2) (k : Ev d y cc ret (pc + 1) ls2 st w Q) : Ev d y cc ret pc ls (.int x :: st) w Q := by
  intro D cy ad sv p l e s m args below meth c A ls' H locs C L P X S
  refine lv_istore_n C.1 C.2.1 hd hj L.has hi rfl (fun ls'' h => ?_)
  have hn : ls2.length = ls.length := by rw [← hl, List.length_set]
  exact k D cy ad sv p l e s m args below meth c A ls'' H locs (by rw [hn]; exact C) (by rw [← hl]; exact ev_l.set1 (v := .int x) hi hok h) P X S
theorem Ev.istI {i : Nat} {x : Int32} {ls2 : List (Option Value)} (hd : decode cc pc = .ok (.istore i, 2)) (hi : i < ls.length) (hok : lok ls i = true) (hl : ls.set i (some (.int x)) = ls2) (k : Ev d y cc ret (pc + 2) ls2 st w Q) : Ev d y cc ret pc ls (.int x :: st) w Q := by
  intro D cy ad sv p l e s m args below meth c A ls' H locs C L P X S
  refine lv_istore C.1 C.2.1 hd L.has hi rfl (fun ls'' h => ?_)
  have hn : ls2.length = ls.length := by rw [← hl, List.length_set]
  exact k D cy ad sv p l e s m args below meth c A ls'' H locs (by rw [hn]; exact C) (by rw [← hl]; exact ev_l.set1 (v := .int x) hi hok h) P X S
theorem Ev.lstN {i : Nat} {j : Fin 4} {x : Int64} {ls2 : List (Option Value)} (hd : decode cc pc = .ok (.lstore_n j, 1)) (hj : (j : Nat) = i) (hi : i + 1 < ls.length) (hok : lok ls i = true) (hl : (ls.set i (some (.long x))).set (i + 1) none = ls2) (k : Ev d y cc ret (pc + 1) ls2 st w Q) : Ev d y cc ret pc ls (.long x :: st) w Q := by
  intro D cy ad sv p l e s m args below meth c A ls' H locs C L P X S
  refine lv_lstore_n C.1 C.2.1 hd hj L.has hi rfl (fun ls'' h => ?_)
  have hn : ls2.length = ls.length := by rw [← hl, List.length_set, List.length_set]
  exact k D cy ad sv p l e s m args below meth c A ls'' H locs (by rw [hn]; exact C) (by rw [← hl]; exact ev_l.set2 (v := .long x) hi hok h) P X S
theorem Ev.iincI {i : Nat} {n : Int} {x v : Int32} {ls2 : List (Option Value)} (hd : decode cc pc = .ok (.iinc i n, 3)) (hx : ls[i]? = some (some (.int x))) (hv : x + Int32.ofInt n = v) (hok : lok ls i = true) (hl : ls.set i (some (.int v)) = ls2) (k : Ev d y cc ret (pc + 3) ls2 st w Q) : Ev d y cc ret pc ls st w Q := by
  intro D cy ad sv p l e s m args below meth c A ls' H locs C L P X S
  have hi := (List.getElem?_eq_some_iff.mp hx).1
  obtain ⟨kk, hkk⟩ := List.getElem?_of_mem (ev_al_in (ad := ad) hx)
  refine lv_iinc C.1 C.2.1 hd L.has hkk hv hi rfl (fun ls'' h => ?_)
  have hn : ls2.length = ls.length := by rw [← hl, List.length_set]
  exact k D cy ad sv p l e s m args below meth c A ls'' H locs (by rw [hn]; exact C) (by rw [← hl]; exact ev_l.set1 (v := .int v) hi hok h) P X S
end EVR
