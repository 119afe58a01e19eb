/-! calls: the callee's world is the caller's own, or a part of it, by its places -/
def ev_e (As : List Value) : List (Option Value) := As.flatMap (fun v => if v.category = 2 then [some v, none] else [some v])
theorem ev_e_sl (ad : Nat → Nat) : ∀ (As : List Value), (ev_e As).length = (lg_sl (As.map (ev_v ad))).length ∧ ∀ (i : Nat) (v : Value), (ev_e As)[i]? = some (some v) → (lg_sl (As.map (ev_v ad)))[i]? = some (.val (ev_v ad v))
  | [] => ⟨rfl, fun i v h => by simp [ev_e] at h⟩
  | a :: As => by
    obtain ⟨h1, h2⟩ := ev_e_sl ad As
    by_cases hc : a.category = 2
    · have e1 : ev_e (a :: As) = some a :: none :: ev_e As := by simp [ev_e, hc]
      have e2 : lg_sl ((a :: As).map (ev_v ad)) = .val (ev_v ad a) :: .second :: lg_sl (As.map (ev_v ad)) := by simp [lg_sl, ev_cat, hc]
      rw [e1, e2]
      refine ⟨by simp [h1], fun i v h => ?_⟩
      match i, h with
      | 0, h => simp at h; subst h; rfl
      | 1, h => simp at h
      | i + 2, h => exact h2 i v h
    · have e1 : ev_e (a :: As) = some a :: ev_e As := by simp [ev_e, hc]
      have e2 : lg_sl ((a :: As).map (ev_v ad)) = .val (ev_v ad a) :: lg_sl (As.map (ev_v ad)) := by simp [lg_sl, ev_cat, hc]
      rw [e1, e2]
      refine ⟨by simp [h1], fun i v h => ?_⟩
      match i, h with
      | 0, h => simp at h; subst h; rfl
      | i + 1, h => exact h2 i v h
theorem ev_entry (ad : Nat → Nat) {As : List Value} {n : Nat} (hle : (ev_e As).length ≤ n) : ev_l ad ((lg_sl (As.map (ev_v ad)) ++ List.replicate (n - (lg_sl (As.map (ev_v ad))).length) Slot.unset).toArray) (ev_e As ++ List.replicate (n - (ev_e As).length) none) := by
  obtain ⟨h1, h2⟩ := ev_e_sl ad As
  have hh := lv_entry (As.map (ev_v ad)) (n := n) (by rw [← h1]; exact hle)
  refine ⟨?_, hh.2.1, fun i v h => ?_⟩
  · rw [hh.1]; simp; omega
  · by_cases hi : i < (ev_e As).length
    · rw [List.getElem?_append_left hi] at h
      rw [List.getElem?_toArray, List.getElem?_append_left (by rw [← h1]; exact hi)]
      exact h2 i v h
    · rw [List.getElem?_append_right (by omega)] at h
      rw [List.getElem?_replicate] at h
      split at h <;> cases h
theorem wsG_good {y : MethodName} {cc : ByteArray} {n : Nat} {ret : Option FieldType} (h : Cond.code y cc n ret ∈ wsG) : GoodIn wsG (Cond.code y cc n ret :: wsG) := by
  intro w hw
  have hm : w ∈ wsG := by
    rcases List.mem_cons.mp hw with rfl | h2
    · exact h
    · exact h2
  exact ⟨hm, good_of_word (List.mem_filter.mp hm).2⟩
/-- what holds where a method begins -/
def ev_P (D : va_G) (cy : Nat → ClassId) (ad : Nat → Nat) (sv sz : Nat) (w : List Ce) (As : List Value) : Array Value → State → Prop := va_Pc (As.map (ev_v ad)) (fun U => U.heap.size = sz ∧ va_P D vwCl (ev_w cy ad w) U.heap ∧ va_D (fun _ => True) (ev_w cy ad w) ∧ ev_F D cy U ∧ ev_S (ad SK) sv (va_A (ev_w cy ad w) sz) U U.heap ∧ sv = ad SV)
theorem ev_met {d : Nat} {y : MethodName} {cc : ByteArray} {ret : Option FieldType} {ls : List (Option Value)} {w : List Ce} {Q : Option Value → List Ce → Prop} {As : List Value} {n : Nat} (hE : Ev d y cc ret 0 ls [] w Q) (h0 : ev_e As ++ List.replicate (n - (ev_e As).length) none = ls) (hle : (ev_e As).length ≤ n) (hy : plainName y.cls = true) (l : Launch) (D : va_G) (cy : Nat → ClassId) (ad : Nat → Nat) (sv sz : Nat) :
    Met l y (Cond.code y cc n ret :: wsG) (RM d) (ev_P D cy ad sv sz w As) (ev_Q D cy ad (va_A (ev_w cy ad w) sz) Q) 0 0 (va_A (ev_w cy ad w) sz) := by
  refine Met.ofW (cc := cc) (maxL := n) (ret := ret) hy rfl ?_
  intro p e s m args below meth c s₁ B hml hv
  obtain ⟨rfl, hsz, hP, hD, hF, hS, hsv⟩ := hv
  subst hsz
  have hl := ev_entry ad hle
  have hn : ls.length = n := by rw [← h0]; simp; omega
  rw [lg_entry_eq]
  rw [h0] at hl
  have hts := atoms_spec (ws := Cond.code y cc n ret :: wsG) B.pre
  exact hE D cy ad sv p l e s m _ below meth c (va_A (ev_w cy ad w) s.heap.size) _ s.heap [] ⟨B.exec, B.bytes, B.returns, B.notSynchronized, by rw [hn]; exact hml, findClass_of_methodNamed B.named, fun w hw => hts w (List.mem_cons_of_mem _ hw), hF, fun q h => Or.inr h, hS, hsv⟩ hl hP hD.self va_S.rf
theorem ev_blind {D : va_G} {cy : Nat → ClassId} {ad : Nat → Nat} {sv sz : Nat} {w : List Ce} {As : List Value} : FrameBlind (ev_P D cy ad sv sz w As) := by
  intro a U g mk q
  obtain ⟨h0, h1, h2, h3, h4, h5, h6⟩ := q
  exact ⟨h0, h1, h2, h3, ev_F.same (s := U) rfl h4, ev_S.same (s := U) rfl h5, h6⟩
/-- a callee that can be called by its name: static, or of an object -/
def OkM (y : MethodName) (cc : ByteArray) (n : Nat) (ret : Option FieldType) (np : Nat) : Prop := Cond.code y cc n ret ∈ wsG ∧ Cond.initialized y.cls ∈ wsG ∧ (y.cls ≠ "java/lang/invoke/MethodHandle" ∧ y.cls ≠ "java/lang/invoke/VarHandle" ∧ (parseMethodDescriptor y.desc).map (fun d => d.parameters.length) = some np) ∧ plainName y.cls = true ∧ n ≤ 20
section EVC
variable {d : Nat} {y y2 : MethodName} {cc cc2 : ByteArray} {ret ret2 : Option FieldType} {pc n2 np : Nat} {ls ls2 : List (Option Value)} {st rest : List Value} {w wc : List Ce} {Q Q2 : Option Value → List Ce → Prop} {As : List Value}
variable {D : va_G} {cy : Nat → ClassId} {ad ad' : Nat → Nat} {sv : Nat} {p : Program} {l : Launch} {e : Env} {s : State} {m : MethodId} {args : Array Value} {below : List Frame} {meth : Method} {c : Code} {A : Nat → Prop} {ls' : Array Slot} {H : Heap} {locs : List Loc} {i : Nat} {g : JFrame}
theorem ev_pre (C : ev_C y cc ret ls.length D cy ad sv p s m args meth c A) (S : va_S A s.heap H locs) (hP : va_P D vwCl (ev_w cy ad' wc) H) (hD : va_D (fun _ => True) (ev_w cy ad' wc)) (hs : ad' SK = ad SK ∧ ad' SV = ad SV) (hA : ∀ q, va_A (ev_w cy ad' wc) H.size q → A q) {U : State} (hU : U.heap = H) (hW : s.WarmedH U.vm) {v : Array Value} (hv : v = (As.map (ev_v ad')).toArray) : ev_P D cy ad' sv H.size wc As v U := by
  refine ⟨hv, by rw [hU], by rw [hU]; exact hP, hD, ev_F.warm hW C.2.2.2.2.2.2.2.1, ?_, by rw [hs.2]; exact C.2.2.2.2.2.2.2.2.2.2⟩
  rw [hs.1, hU]
  exact ev_S.warm hW ((C.2.2.2.2.2.2.2.2.2.1.kept S.2.1).narrow hA)
theorem ev_runS (hE : Ev d y2 cc2 ret2 0 ls2 [] wc Q2) (h0 : ev_e As ++ List.replicate (n2 - (ev_e As).length) none = ls2) (hle : (ev_e As).length ≤ n2) (hm : OkM y2 cc2 n2 ret2 np) (hst : Cond.static y2 ∈ wsG) (hlk : Cond.methodLink y.cls i y2 ∈ wsG) (hnp : As.length = np)
    (C : ev_C y cc ret ls.length D cy ad sv p s m args meth c A) (L : ls'.size = ls.length) (S : va_S A s.heap H locs) (hP : va_P D vwCl (ev_w cy ad' wc) H) (hD : va_D (fun _ => True) (ev_w cy ad' wc)) (hs : ad' SK = ad SK ∧ ad' SV = ad SV) (hA : ∀ q, va_A (ev_w cy ad' wc) H.size q → A q)
    {st0 rest0 : List Value} (hstk : st0 = (As.map (ev_v ad')).reverse ++ rest0) (hr : (rest0.map fun v => v.category).sum ≤ 8) (hd : decode cc pc = .ok (.invokestatic i, 3)) :
    va_Run p l e (RM (d + 1)) s m args below meth c H locs 0 0 0 0 (F0 m pc ls' st0) rest0 (ev_Q D cy ad' (va_A (ev_w cy ad' wc) H.size) Q2 (As.map (ev_v ad')).toArray) (va_A (ev_w cy ad' wc) H.size) := by
  have ht := C.2.2.2.2.2.2.1
  exact va_runS (Ts := wsG) (own := y.cls) (n := np) (bytes := cc2) (maxL := n2) (ret := ret2) ⟨C.1, C.2.1, C.2.2.2.2.1, C.2.2.2.2.2.1, ht⟩ (ev_met hE h0 hle hm.2.2.2.1 l D cy ad' sv H.size)
    ⟨callB_of np ht (wsG_good hm.1) rfl rfl rfl (ht _ hm.2.1) (ht _ hlk) hm.2.2.1 ⟨Nat.le_refl _, by have := hm.2.2.2.2; show 8 + (n2 + 11) + 40 * d ≤ 40 * (d + 1); omega⟩, ht _ hst⟩
    ⟨ev_blind, fun U hU hW => ev_pre C S hP hD hs hA hU hW rfl⟩ rfl (by rw [List.length_map]; exact hnp) L hstk (lv_room hr) hd ⟨Nat.le_refl _, Nat.le_refl _⟩
theorem ev_runN (host : String) (hE : Ev d y2 cc2 ret2 0 ls2 [] wc Q2) (h0 : ev_e As ++ List.replicate (n2 - (ev_e As).length) none = ls2) (hle : (ev_e As).length ≤ n2) (hm : OkM y2 cc2 n2 ret2 np) (hst : Cond.static y2 ∈ wsG) (hlk : va_Nw (.methodLinkNest y.cls i y2 host) s) (hnp : As.length = np)
    (C : ev_C y cc ret ls.length D cy ad sv p s m args meth c A) (L : ls'.size = ls.length) (S : va_S A s.heap H locs) (hP : va_P D vwCl (ev_w cy ad' wc) H) (hD : va_D (fun _ => True) (ev_w cy ad' wc)) (hs : ad' SK = ad SK ∧ ad' SV = ad SV) (hA : ∀ q, va_A (ev_w cy ad' wc) H.size q → A q)
    {st0 rest0 : List Value} (hstk : st0 = (As.map (ev_v ad')).reverse ++ rest0) (hr : (rest0.map fun v => v.category).sum ≤ 8) (hd : decode cc pc = .ok (.invokestatic i, 3)) :
    va_Run p l e (RM (d + 1)) s m args below meth c H locs 0 0 0 0 (F0 m pc ls' st0) rest0 (ev_Q D cy ad' (va_A (ev_w cy ad' wc) H.size) Q2 (As.map (ev_v ad')).toArray) (va_A (ev_w cy ad' wc) H.size) := by
  have ht := C.2.2.2.2.2.2.1
  exact va_runSN (Ts := wsG) (own := y.cls) (host := host) (n := np) (bytes := cc2) (maxL := n2) (ret := ret2) ⟨C.1, C.2.1, C.2.2.2.2.1, C.2.2.2.2.2.1, ht⟩ (ev_met hE h0 hle hm.2.2.2.1 l D cy ad' sv H.size)
    ⟨va_cnB np ht (wsG_good hm.1) rfl rfl rfl hlk (ht _ hm.2.1) hm.2.2.1 ⟨Nat.le_refl _, by have := hm.2.2.2.2; show 8 + (n2 + 11) + 40 * d ≤ 40 * (d + 1); omega⟩, ht _ hst, trivial⟩
    ⟨ev_blind, fun U hU hW => ev_pre C S hP hD hs hA hU hW rfl⟩ rfl (by rw [List.length_map]; exact hnp) L hstk (lv_room hr) hd ⟨Nat.le_refl _, Nat.le_refl _⟩
theorem ev_runV {o ci N : Nat} {T : u_T} {ty : Nat → FieldType} {fs : List Value} (hE : Ev d y2 cc2 ret2 0 ls2 [] wc Q2) (h0 : ev_e (.ref o :: As) ++ List.replicate (n2 - (ev_e (.ref o :: As)).length) none = ls2) (hle : (ev_e (.ref o :: As)).length ≤ n2) (hm : OkM y2 cc2 n2 ret2 np) (hin : Cond.instanceMethod y2 ∈ wsG) (hse : Cond.selects y2.cls y2 y2 ∈ wsG) (hlk : Cond.methodLink y.cls i y2 ∈ wsG) (hnp : As.length = np) (hcf : CF ci y2.cls T N ty) (ho : wc[o]? = some (.inr (ci, fs)))
    (C : ev_C y cc ret ls.length D cy ad sv p s m args meth c A) (L : ls'.size = ls.length) (S : va_S A s.heap H locs) (hP : va_P D vwCl (ev_w cy ad' wc) H) (hD : va_D (fun _ => True) (ev_w cy ad' wc)) (hs : ad' SK = ad SK ∧ ad' SV = ad SV) (hA : ∀ q, va_A (ev_w cy ad' wc) H.size q → A q)
    {st0 rest0 : List Value} (hstk : st0 = (As.map (ev_v ad')).reverse ++ .ref (ad' o) :: rest0) (hr : (rest0.map fun v => v.category).sum ≤ 8) (hd : decode cc pc = .ok (.invokevirtual i, 3)) :
    va_Run p l e (RM (d + 1)) s m args below meth c H locs 0 0 0 0 (F0 m pc ls' st0) rest0 (ev_Q D cy ad' (va_A (ev_w cy ad' wc) H.size) Q2 (Value.ref (ad' o) :: As.map (ev_v ad')).toArray) (va_A (ev_w cy ad' wc) H.size) := by
  have ht := C.2.2.2.2.2.2.1
  exact va_runV (Ts := wsG) (own := y.cls) (C := y2.cls) (n := np) (bytes := cc2) (maxL := n2) (ret := ret2) (b := ad' o) ⟨C.1, C.2.1, C.2.2.2.2.1, C.2.2.2.2.2.1, ht⟩ (ev_met (As := .ref o :: As) hE h0 hle hm.2.2.2.1 l D cy ad' sv H.size)
    ⟨callB_of np ht (wsG_good hm.1) rfl rfl rfl (ht _ hm.2.1) (ht _ hlk) hm.2.2.1 ⟨Nat.le_refl _, by have := hm.2.2.2.2; show 8 + (n2 + 11) + 40 * d ≤ 40 * (d + 1); omega⟩, ht _ hin, ht _ hse⟩
    ⟨ev_blind, va_recv C.2.2.2.2.2.2.2.1.1 hP hcf.1 (ev_w_get ho), fun U hU hW => ev_pre (As := .ref o :: As) C S hP hD hs hA hU hW rfl⟩ rfl (by rw [List.length_map]; exact hnp) L hstk (lv_room hr) hd ⟨Nat.le_refl _, Nat.le_refl _⟩
theorem ev_back {st0 rest0 : List Value} {a : Array Value} {A1 : Nat → Prop} {Z : State → Prop} (hr : va_Run p l e (RM (d + 1)) s m args below meth c H locs 0 0 0 0 (F0 m pc ls' st0) rest0 (ev_Q D cy ad' A1 Q2 a) A1) (hS : va_S A s.heap H locs) (hA : ∀ q, A1 q → A q)
    (kk : ∀ (r : Option Value) (w' : List Ce) (H1 : Heap) (locs1 : List Loc), Q2 r w' → va_P D vwCl (ev_w cy ad' w') H1 → va_D A1 (ev_w cy ad' w') → (∀ q : Nat, q < H.size → ¬ A1 q → H1[q]? = H[q]?) → va_S A s.heap H1 locs1 → W p l e (RM (d + 1)) s m args below meth c H1 locs1 0 0 Z (F0 m (pc + 3) ls' ((r.map (ev_v ad')).toList ++ rest0))) :
    W p l e (RM (d + 1)) s m args below meth c H locs 0 0 Z (F0 m pc ls' st0) := by
  intro T hT X
  obtain ⟨v, st₀, t, T', L, h0, X', hL, e1, e2, ⟨⟨r, w', hq, hv, hP, hD⟩, hz, hk⟩, st⟩ := hr T hT X
  cases hv
  rw [h0] at hz hk
  obtain ⟨t2, a1, b1⟩ := kk r w' T'.heap (locs ++ L) hq (by rw [e1]; exact hP) hD (fun q h1 h2 => by rw [e1]; exact hk q h1 h2)
    ⟨Nat.le_trans hS.1 (by rw [e1]; exact hz), fun q h1 h2 => by rw [e1, hk q (Nat.lt_of_lt_of_le h1 hS.1) (fun z => h2 (hA q z))]; exact hS.2.1 q h1 h2, fun q hq => by
      rcases List.mem_append.mp hq with h | h
      · exact hS.2.2 q h
      · exact hA _ (hL q h)⟩ T' rfl X'
  exact ⟨t2, st t2 a1, b1⟩
theorem ev_self (C : ev_C y cc ret ls.length D cy ad sv p s m args meth c A) (S : va_S A s.heap H locs) (X : va_D A (ev_w cy ad' w)) : ∀ q, va_A (ev_w cy ad' w) H.size q → A q := by
  intro q h
  rcases h with ⟨k, e, h⟩ | h
  · exact X.2 k _ h
  · exact C.2.2.2.2.2.2.2.2.1 q (Nat.le_trans S.1 h)
end EVC
section EVC2
variable {d : Nat} {y y2 : MethodName} {cc cc2 : ByteArray} {ret ret2 : Option FieldType} {pc n2 np : Nat} {ls ls2 : List (Option Value)} {st rest : List Value} {w wc : List Ce} {Q Q2 : Option Value → List Ce → Prop} {i : Nat}
theorem ev_rest {ad : Nat → Nat} (h : (rest.map fun v => v.category).sum ≤ 8) : ((rest.map (ev_v ad)).map fun v => v.category).sum ≤ 8 := by
  rw [List.map_map]
  have e : (fun v : Value => v.category) ∘ ev_v ad = fun v => v.category := funext fun v => ev_cat v
  rw [e]
  exact h
theorem ev_tl {ad : Nat → Nat} {r : Option Value} : (r.map (ev_v ad)).toList ++ rest.map (ev_v ad) = (r.toList ++ rest).map (ev_v ad) := by cases r <;> simp
/-- a static method of one's own tables, in the same world -/
theorem Ev.callS (As : List Value) (hE : Ev d y2 cc2 ret2 0 ls2 [] w Q2) (hd : decode cc pc = .ok (.invokestatic i, 3)) (hlk : Cond.methodLink y.cls i y2 ∈ wsG) (hst : Cond.static y2 ∈ wsG) (hm : OkM y2 cc2 n2 ret2 np) (h0 : ev_e As ++ List.replicate (n2 - (ev_e As).length) none = ls2) (hle : (ev_e As).length ≤ n2) (hnp : As.length = np) (hr : (rest.map fun v => v.category).sum ≤ 8) (hs : As.reverse ++ rest = st)
    (k : ∀ r w', Q2 r w' → Ev (d + 1) y cc ret (pc + 3) ls (r.toList ++ rest) w' Q) : Ev (d + 1) y cc ret pc ls st w Q := by
  intro D cy ad sv p l e s m args below meth c A ls' H locs C L P X S
  have hA := ev_self C S X
  refine ev_back (ev_runS (As := As) hE h0 hle hm hst hlk hnp C L.1 S P (X.weaken (fun _ _ _ _ => trivial)) ⟨rfl, rfl⟩ hA (rest0 := rest.map (ev_v ad)) (by rw [← hs]; simp) (ev_rest hr) hd) S hA (fun r w' H1 locs1 hq P1 X1 _ S1 => ?_)
  rw [ev_tl]
  exact k r w' hq D cy ad sv p l e s m args below meth c A ls' H1 locs1 C L P1 (X1.weaken (fun _ q _ h => hA _ h)) S1
theorem Ev.callN (As : List Value) (host : String) (hE : Ev d y2 cc2 ret2 0 ls2 [] w Q2) (hd : decode cc pc = .ok (.invokestatic i, 3)) (hlk : ∀ (D : va_G) (cy : Nat → ClassId) (s : State), ev_F D cy s → va_Nw (.methodLinkNest y.cls i y2 host) s) (hst : Cond.static y2 ∈ wsG) (hm : OkM y2 cc2 n2 ret2 np) (h0 : ev_e As ++ List.replicate (n2 - (ev_e As).length) none = ls2) (hle : (ev_e As).length ≤ n2) (hnp : As.length = np) (hr : (rest.map fun v => v.category).sum ≤ 8) (hs : As.reverse ++ rest = st)
    (k : ∀ r w', Q2 r w' → Ev (d + 1) y cc ret (pc + 3) ls (r.toList ++ rest) w' Q) : Ev (d + 1) y cc ret pc ls st w Q := by
  intro D cy ad sv p l e s m args below meth c A ls' H locs C L P X S
  have hA := ev_self C S X
  refine ev_back (ev_runN (As := As) host hE h0 hle hm hst (hlk D cy s C.2.2.2.2.2.2.2.1) hnp C L.1 S P (X.weaken (fun _ _ _ _ => trivial)) ⟨rfl, rfl⟩ hA (rest0 := rest.map (ev_v ad)) (by rw [← hs]; simp) (ev_rest hr) hd) S hA (fun r w' H1 locs1 hq P1 X1 _ S1 => ?_)
  rw [ev_tl]
  exact k r w' hq D cy ad sv p l e s m args below meth c A ls' H1 locs1 C L P1 (X1.weaken (fun _ q _ h => hA _ h)) S1
theorem Ev.callV (o : Nat) (As : List Value) {ci N : Nat} {T : u_T} {ty : Nat → FieldType} {fs : List Value} (hE : Ev d y2 cc2 ret2 0 ls2 [] w Q2) (hd : decode cc pc = .ok (.invokevirtual i, 3)) (hlk : Cond.methodLink y.cls i y2 ∈ wsG) (hin : Cond.instanceMethod y2 ∈ wsG) (hse : Cond.selects y2.cls y2 y2 ∈ wsG) (hm : OkM y2 cc2 n2 ret2 np) (hcf : CF ci y2.cls T N ty) (ho : w[o]? = some (.inr (ci, fs))) (h0 : ev_e (.ref o :: As) ++ List.replicate (n2 - (ev_e (.ref o :: As)).length) none = ls2) (hle : (ev_e (.ref o :: As)).length ≤ n2) (hnp : As.length = np) (hr : (rest.map fun v => v.category).sum ≤ 8) (hs : As.reverse ++ .ref o :: rest = st)
    (k : ∀ r w', Q2 r w' → Ev (d + 1) y cc ret (pc + 3) ls (r.toList ++ rest) w' Q) : Ev (d + 1) y cc ret pc ls st w Q := by
  intro D cy ad sv p l e s m args below meth c A ls' H locs C L P X S
  have hA := ev_self C S X
  refine ev_back (ev_runV (As := As) (o := o) hE h0 hle hm hin hse hlk hnp hcf ho C L.1 S P (X.weaken (fun _ _ _ _ => trivial)) ⟨rfl, rfl⟩ hA (rest0 := rest.map (ev_v ad)) (by rw [← hs]; simp [ev_v]) (ev_rest hr) hd) S hA (fun r w' H1 locs1 hq P1 X1 _ S1 => ?_)
  rw [ev_tl]
  exact k r w' hq D cy ad sv p l e s m args below meth c A ls' H1 locs1 C L P1 (X1.weaken (fun _ q _ h => hA _ h)) S1
/-! a part of the world: the callee's place k is the caller's place is[k] -/
def ev_i (is : List Nat) (k : Nat) : Nat := is.getD k k
def ev_ec (is : List Nat) (e : Ce) : Ce := match e with
  | .inl a => .inl a
  | .inr o => .inr (o.1, o.2.map (ev_v (ev_i is)))
def ev_put (w : List Ce) : List Nat → List Ce → List Ce
  | i :: is, c :: cs => ev_put (w.set i c) is cs
  | _, _ => w
theorem ev_put_len : ∀ (is : List Nat) (w cs : List Ce), (ev_put w is cs).length = w.length
  | [], w, cs => by simp [ev_put]
  | i :: is, w, [] => by simp [ev_put]
  | i :: is, w, c :: cs => by rw [ev_put, ev_put_len is, List.length_set]
theorem ev_put_out : ∀ (is : List Nat) (w cs : List Ce) (j : Nat), j ∉ is → (ev_put w is cs)[j]? = w[j]?
  | [], w, cs, j, _ => by simp [ev_put]
  | i :: is, w, [], j, _ => by simp [ev_put]
  | i :: is, w, c :: cs, j, h => by
    rw [ev_put, ev_put_out is (w.set i c) cs j (fun q => h (List.mem_cons_of_mem _ q)), List.getElem?_set_ne (fun q => h (by rw [← q]; exact List.mem_cons_self))]
theorem ev_put_in : ∀ (is : List Nat) (w cs : List Ce) (k j : Nat), va_nd is = true → is[k]? = some j → j < w.length → k < cs.length → (ev_put w is cs)[j]? = cs[k]?
  | [], w, cs, k, j, _, h, _, _ => by simp at h
  | i :: is, w, [], k, j, _, _, _, h => by simp at h
  | i :: is, w, c :: cs, k, j, hn, h, hj, hk => by
    simp only [va_nd, Bool.and_eq_true, decide_eq_true_eq] at hn
    rw [ev_put]
    match k, h, hk with
    | 0, h, hk =>
      simp at h
      subst h
      rw [ev_put_out is _ cs i hn.1, List.getElem?_set_self hj]
      rfl
    | k + 1, h, hk =>
      exact ev_put_in is (w.set i c) cs k j hn.2 h (by rw [List.length_set]; exact hj) (by simpa using hk)
theorem ev_cc {cy : Nat → ClassId} {ad : Nat → Nat} {is : List Nat} (e : Ce) : ev_c cy ad (ev_ec is e) = ev_c cy (fun k => ad (ev_i is k)) e := by
  cases e with
  | inl a => rfl
  | inr o =>
    show Sum.inr _ = Sum.inr _
    rw [List.map_map]
    congr 2
    apply List.map_congr_left
    intro v _
    cases v <;> rfl
theorem ev_D_len {cy : Nat → ClassId} {ad : Nat → Nat} {A : Nat → Prop} {w2 : List Ce} (X : va_D A (ev_w cy ad w)) (h : w2.length = w.length) : va_D A (ev_w cy ad w2) := by
  have key : ∀ (k : Nat) (q : Nat × va_E), (ev_w cy ad w2)[k]? = some q → ∃ q0, (ev_w cy ad w)[k]? = some q0 ∧ q0.1 = q.1 := by
    intro k q hq
    obtain ⟨e, he, rfl⟩ := ev_w_at hq
    have hk : k < w.length := by rw [← h]; exact (List.getElem?_eq_some_iff.mp he).1
    exact ⟨_, ev_w_get (List.getElem?_eq_getElem hk), rfl⟩
  refine ⟨fun i j x z hi hj hxz => ?_, fun k q hk => ?_⟩
  · obtain ⟨x0, h1, h2⟩ := key i x hi
    obtain ⟨z0, h3, h4⟩ := key j z hj
    exact X.1 i j x0 z0 h1 h3 (h2.trans (hxz.trans h4.symm))
  · obtain ⟨q0, h1, h2⟩ := key k q hk
    rw [← h2]
    exact X.2 k q0 h1
/-- the part, cut out -/
theorem ev_cut {cy : Nat → ClassId} {ad : Nat → Nat} {is : List Nat} (hin : is.map (fun j => w[j]?) = wc.map (fun e => some (ev_ec is e))) {k : Nat} {e : Ce} (he : wc[k]? = some e) : ∃ j, is[k]? = some j ∧ ev_i is k = j ∧ w[j]? = some (ev_ec is e) := by
  have h1 : (is.map (fun j => w[j]?))[k]? = some (some (ev_ec is e)) := by rw [hin, List.getElem?_map, he]; rfl
  rw [List.getElem?_map] at h1
  cases hi : is[k]? with
  | none => rw [hi] at h1; cases h1
  | some j =>
    rw [hi] at h1
    exact ⟨j, rfl, by simp [ev_i, List.getD, hi], Option.some.inj h1⟩
theorem ev_cutP {D : va_G} {cy : Nat → ClassId} {ad : Nat → Nat} {is : List Nat} {H : Heap} (hin : is.map (fun j => w[j]?) = wc.map (fun e => some (ev_ec is e))) (P : va_P D vwCl (ev_w cy ad w) H) : va_P D vwCl (ev_w cy (fun k => ad (ev_i is k)) wc) H := by
  intro k q hq
  obtain ⟨e, he, rfl⟩ := ev_w_at hq
  obtain ⟨j, h1, h2, h3⟩ := ev_cut (cy := cy) (ad := ad) hin he
  have := P j _ (ev_w_get (cy := cy) (ad := ad) h3)
  rw [ev_cc] at this
  rw [← h2] at this
  exact this
theorem ev_cutD {cy : Nat → ClassId} {ad : Nat → Nat} {A : Nat → Prop} {is : List Nat} (hnd : va_nd is = true) (hin : is.map (fun j => w[j]?) = wc.map (fun e => some (ev_ec is e))) (X : va_D A (ev_w cy ad w)) : va_D A (ev_w cy (fun k => ad (ev_i is k)) wc) := by
  refine ⟨fun i j x z hi hj hxz => ?_, fun k q hk => ?_⟩
  · obtain ⟨e1, he1, rfl⟩ := ev_w_at hi
    obtain ⟨e2, he2, rfl⟩ := ev_w_at hj
    obtain ⟨j1, a1, a2, a3⟩ := ev_cut (cy := cy) (ad := ad) hin he1
    obtain ⟨j2, b1, b2, b3⟩ := ev_cut (cy := cy) (ad := ad) hin he2
    have hxz : ad (ev_i is i) = ad (ev_i is j) := hxz
    rw [a2, b2] at hxz
    have h12 := X.1 j1 j2 _ _ (ev_w_get (cy := cy) (ad := ad) a3) (ev_w_get (cy := cy) (ad := ad) b3) hxz
    subst h12
    exact va_nd_inj is hnd i j j1 a1 b1
  · obtain ⟨e, he, rfl⟩ := ev_w_at hk
    obtain ⟨j, a1, a2, a3⟩ := ev_cut (cy := cy) (ad := ad) hin he
    have := X.2 j _ (ev_w_get (cy := cy) (ad := ad) a3)
    show A (ad (ev_i is k))
    rw [a2]
    exact this
theorem ev_joinP {D : va_G} {cy : Nat → ClassId} {ad : Nat → Nat} {A : Nat → Prop} {is : List Nat} {wc' : List Ce} {H H1 : Heap} (hnd : va_nd is = true) (hin : is.map (fun j => w[j]?) = wc.map (fun e => some (ev_ec is e))) (hl : wc'.length = wc.length) (P : va_P D vwCl (ev_w cy ad w) H) (X : va_D A (ev_w cy ad w)) (P1 : va_P D vwCl (ev_w cy (fun k => ad (ev_i is k)) wc') H1) (hk : ∀ q : Nat, q < H.size → ¬ va_A (ev_w cy (fun k => ad (ev_i is k)) wc) H.size q → H1[q]? = H[q]?) : va_P D vwCl (ev_w cy ad (ev_put w is (wc'.map (ev_ec is)))) H1 := by
  have hlen : is.length = wc.length := by simpa using congrArg List.length hin
  intro j q hq
  obtain ⟨e, he, rfl⟩ := ev_w_at hq
  have hj : j < w.length := by
    have := (List.getElem?_eq_some_iff.mp he).1
    rwa [ev_put_len] at this
  by_cases hm : j ∈ is
  · obtain ⟨k, hk1⟩ := List.getElem?_of_mem hm
    have hk2 : k < is.length := (List.getElem?_eq_some_iff.mp hk1).1
    rw [ev_put_in is w _ k j hnd hk1 hj (by rw [List.length_map]; omega), List.getElem?_map] at he
    cases hc : wc'[k]? with
    | none => rw [hc] at he; cases he
    | some e' =>
      rw [hc] at he
      cases he
      have := P1 k _ (ev_w_get hc)
      rw [ev_cc]
      have e2 : ev_i is k = j := by simp [ev_i, List.getD, hk1]
      have this : va_at D vwCl (ad (ev_i is k), _) H1 := this
      rw [e2] at this
      exact this
  · rw [ev_put_out is w _ j hm] at he
    have h0 := P j _ (ev_w_get (cy := cy) (ad := ad) he)
    refine h0.kept (hk _ h0.lt (fun h => ?_))
    rcases h with ⟨k, e2, h⟩ | h
    · obtain ⟨e3, h3, h4⟩ := ev_w_at h
      obtain ⟨j1, a1, a2, a3⟩ := ev_cut (cy := cy) (ad := ad) hin h3
      have h5 : ad j = ad (ev_i is k) := congrArg Prod.fst h4
      rw [a2] at h5
      have := X.1 j j1 _ _ (ev_w_get (cy := cy) (ad := ad) he) (ev_w_get (cy := cy) (ad := ad) a3) h5
      subst this
      exact hm (List.mem_of_getElem? a1)
    · exact absurd h0.lt (Nat.not_lt.mpr h)
theorem ev_tlE {ad : Nat → Nat} {is : List Nat} {r : Option Value} : (r.map (ev_v (fun k => ad (ev_i is k)))).toList ++ rest.map (ev_v ad) = ((r.map (ev_v (ev_i is))).toList ++ rest).map (ev_v ad) := by
  cases r with
  | none => simp
  | some v => cases v <;> simp [ev_v]
theorem ev_mapE {ad : Nat → Nat} {is : List Nat} (As : List Value) : As.map (ev_v (fun k => ad (ev_i is k))) = (As.map (ev_v (ev_i is))).map (ev_v ad) := by
  rw [List.map_map]
  apply List.map_congr_left
  intro v _
  cases v <;> rfl
/-- a method of an object, in a part of the world -/
theorem Ev.callVE (is : List Nat) (o : Nat) (As : List Value) {ci N : Nat} {T : u_T} {ty : Nat → FieldType} {fs : List Value} (hE : Ev d y2 cc2 ret2 0 ls2 [] wc Q2) (hd : decode cc pc = .ok (.invokevirtual i, 3)) (hlk : Cond.methodLink y.cls i y2 ∈ wsG) (hin : Cond.instanceMethod y2 ∈ wsG) (hse : Cond.selects y2.cls y2 y2 ∈ wsG) (hm : OkM y2 cc2 n2 ret2 np) (hcf : CF ci y2.cls T N ty) (ho : wc[o]? = some (.inr (ci, fs))) (h0 : ev_e (.ref o :: As) ++ List.replicate (n2 - (ev_e (.ref o :: As)).length) none = ls2) (hle : (ev_e (.ref o :: As)).length ≤ n2) (hnp : As.length = np) (hr : (rest.map fun v => v.category).sum ≤ 8) (hs : (As.map (ev_v (ev_i is))).reverse ++ .ref (ev_i is o) :: rest = st)
    (hnd : va_nd is = true) (hsk : ev_i is SK = SK ∧ ev_i is SV = SV) (hpart : is.map (fun j => w[j]?) = wc.map (fun e => some (ev_ec is e)))
    (k : ∀ r wc', Q2 r wc' → wc'.length = wc.length ∧ Ev (d + 1) y cc ret (pc + 3) ls ((r.map (ev_v (ev_i is))).toList ++ rest) (ev_put w is (wc'.map (ev_ec is))) Q) : Ev (d + 1) y cc ret pc ls st w Q := by
  intro D cy ad sv p l e s m args below meth c A ls' H locs C L P X S
  have P' := ev_cutP (cy := cy) (ad := ad) (is := is) hpart P
  have X' := ev_cutD (cy := cy) (ad := ad) hnd hpart X
  have hA := ev_self C S X'
  refine ev_back (ad' := fun k => ad (ev_i is k)) (ev_runV (As := As) (o := o) (ad' := fun k => ad (ev_i is k)) hE h0 hle hm hin hse hlk hnp hcf ho C L.1 S P' (X'.weaken (fun _ _ _ _ => trivial)) ⟨by show ad (ev_i is SK) = ad SK; rw [hsk.1], by show ad (ev_i is SV) = ad SV; rw [hsk.2]⟩ hA (rest0 := rest.map (ev_v ad)) (by rw [← hs, ev_mapE]; simp [ev_v]) (ev_rest hr) hd) S hA (fun r w' H1 locs1 hq P1 X1 hkeep S1 => ?_)
  rw [ev_tlE]
  obtain ⟨hl, hk⟩ := k r w' hq
  exact hk D cy ad sv p l e s m args below meth c A ls' H1 locs1 C L (ev_joinP (cy := cy) (ad := ad) hnd hpart hl P X P1 hkeep) (ev_D_len X (ev_put_len is w _)) S1
end EVC2
