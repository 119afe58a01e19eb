/-! THE CLAIM OUT OF ONE WALK OF THE LAW'S BODY. Your part is whole_start (and what it stands on); all else here is the same for every law, but numbers. -/
def R_law : String := "HeldTownsLaw"
def lw_P (b : Addr) (xs : List Int32) (args : Array Value) (s : State) : Prop := args = #[.ref b] ∧ s.IntsAt b xs ∧ xs.length ≤ 2560 ∧ (Jvm.Cond.and given_1 narrow_1).before args s = true
def lw_Q (_ : Array Value) (s : State) (o : Outcome) (t : State) : Prop := o = .returned (some (.int 1)) ∧ Framed s o t [] 600000 7302250
def lw_Z (below : List Frame) (a : Array Value) (s : State) : State → Prop := fun t => ∃ o, t.status = .running ∧ Ended t below o ∧ lw_Q a s o t
/-- the law's own end, with 1 on the stack, nothing written that was there before, its room as the claim has it -/
theorem lw_ret {p : Program} {l : Launch} {e : Env} {s : State} {m : MethodId} {below : List Frame} {meth : Method} {c : Code} {b : Nat} (hx : p.tables.exec = Jvm.exec) (hb : c.code = code) (hr : meth.sig.returnType = ret) (hlocks : meth.locks = false) {pc : Nat} {H : Heap} {ls : Array Slot} (hdg : decode code pc = .ok (.ireturn, 1)) : W p l e room_1 s m #[Value.ref b] below meth c H [] 600000 7302250 (lw_Z below #[Value.ref b] s) (F0 m pc ls [.int 1]) := by
  intro T hT X
  obtain ⟨fs, hret, hrun, hended, hW, hframe⟩ := X.leave (v := some (.int 1)) (hlocks := hlocks) (fun h => by rw [hr] at h; cases h)
  have hmeth' : T.vm.method? m = some meth := X.method'
  refine ⟨T.setFrames fs, ?_, .returned (some (.int 1)), hrun, hended, rfl, ⟨_, rfl⟩, hW, hframe⟩
  jvm_step X.here [X.here.top, hx, hb, hdg, hmeth', hr, ret, narrow_b1]
  (try refine ⟨rfl, ?_⟩); (try refine ⟨rfl, ?_⟩)
  first | (intro acts; rw [hret _ acts rfl rfl rfl]) | rw [hret _ _ rfl rfl rfl]
  exact Steps.refl _
/-- what holds at the law's entry: the machine, the code, the tables' words (any of lw_tbl by 'hts w (by decide +kernel)'), the script of L ints xs at the cell b, what the Statement gives of the start (any of its parts by flat_of_before) -/
def lw_At (p : Program) (s : State) (m : MethodId) (meth : Method) (c : Code) (b L : Nat) (xs : Nat → Int32) : Prop :=
  p.tables.exec = Jvm.exec ∧ c.code = code ∧ meth.sig.returnType = ret ∧ c.maxLocals = 4 ∧ s.vm.findClass R_law = some m.cls ∧ (∀ w ∈ lw_tbl, w.before #[Value.ref b] s = true) ∧ va_X b L xs s s.heap ∧ b < s.heap.size ∧ meth.locks = false ∧ (Jvm.Cond.and given_1 narrow_1).before #[Value.ref b] s = true
/-! the law: what its frame keeps, the two worlds -/
def lw_new (s : State) : Nat → Prop := fun q => s.heap.size ≤ q
def lw_C (p : Program) (s : State) (m : MethodId) (meth : Method) (c : Code) (b L : Nat) (xs : Nat → Int32) (D : va_G) (cy : Nat → ClassId) (sa sv : Nat) : Prop := lw_At p s m meth c b L xs ∧ (∀ w ∈ wsG, w.before #[Value.ref b] s = true) ∧ ev_F D cy s ∧ ev_S sa sv (lw_new s) s s.heap ∧ L ≤ 2560
def lw_W (D : va_G) (cy : Nat → ClassId) (sa sv : Nat) (s : State) (a1 a2 : Nat → Nat) (w1 w2 : List Ce) (H : Heap) : Prop :=
  (a1 SK = sa ∧ a1 SV = sv) ∧ va_P D vwCl (ev_w cy a1 w1) H ∧ va_D (lw_new s) (ev_w cy a1 w1) ∧ va_P D vwCl (ev_w cy a2 w2) H ∧ va_D (lw_new s) (ev_w cy a2 w2) ∧ (∀ (i j : Nat) (x y : Nat × va_E), (ev_w cy a1 w1)[i]? = some x → (ev_w cy a2 w2)[j]? = some y → x.1 ≠ y.1) ∧ (a2 SK = sa ∧ a2 SV = sv)
section LAW
variable {p : Program} {l : Launch} {e : Env} {s : State} {m : MethodId} {below : List Frame} {meth : Method} {c : Code} {b L : Nat} {xs : Nat → Int32} {D : va_G} {cy : Nat → ClassId} {sa sv : Nat}
theorem lw_W.swap {a1 a2 : Nat → Nat} {w1 w2 : List Ce} {H : Heap} (h : lw_W D cy sa sv s a1 a2 w1 w2 H) : lw_W D cy sa sv s a2 a1 w2 w1 H := by
  obtain ⟨h1, h2, h3, h4, h5, h6, h7⟩ := h
  exact ⟨h7, h4, h5, h2, h3, fun i j x y hx hy z => h6 j i y x hy hx z.symm, h1⟩
theorem lw_call {a1 a2 : Nat → Nat} {w1 w2 : List Ce} {H : Heap} {locs : List Loc} {ls : Array Slot} {pc i n2 np ci N : Nat} {y2 : MethodName} {cc2 : ByteArray} {ret2 : Option FieldType} {ls2 : List (Option Value)} {T : u_T} {ty : Nat → FieldType} {fs : List Value} {Q2 : List Ce → Prop} {Z : State → Prop} {st rest : List Value} {rv : Value} (As : List Value)
    (C : lw_C p s m meth c b L xs D cy sa sv) (hW : lw_W D cy sa sv s a1 a2 w1 w2 H) (S : va_S (lw_new s) s.heap H locs) (hl : ls.size = 4)
    (hE : Ev 12 y2 cc2 ret2 0 ls2 [] w1 (fun r w => r = some rv ∧ Q2 w)) (hd : decode code pc = .ok (.invokevirtual i, 3)) (hlk : Cond.methodLink RL i y2 ∈ wsG) (hin : Cond.instanceMethod y2 ∈ wsG) (hse : Cond.selects y2.cls y2 y2 ∈ wsG) (hm : OkM y2 cc2 n2 ret2 np) (hcf : CF ci y2.cls T N ty) (ho : w1[0]? = some (.inr (ci, fs)))
    (h0 : ev_e (.ref 0 :: As) ++ List.replicate (n2 - (ev_e (.ref 0 :: As)).length) none = ls2) (hle : (ev_e (.ref 0 :: As)).length ≤ n2) (hnp : As.length = np) (hAs : As.map (ev_v a1) = As) (hr : (rest.map fun v => v.category).sum ≤ 8) (hrv : ev_v a1 rv = rv) (hst : As.reverse ++ .ref (a1 0) :: rest = st)
    (k : ∀ (w' : List Ce) (H1 : Heap) (locs1 : List Loc), Q2 w' → lw_W D cy sa sv s a1 a2 w' w2 H1 → va_S (lw_new s) s.heap H1 locs1 → W p l e room_1 s m #[Value.ref b] below meth c H1 locs1 600000 7302250 Z (F0 m (pc + 3) ls (rv :: rest))) :
    W p l e room_1 s m #[Value.ref b] below meth c H locs 600000 7302250 Z (F0 m pc ls st) := by
  obtain ⟨⟨hx, hb, hrt, hml, hown, hts, hX, hbl, hlocks, hgv⟩, ht, hF, hSt, hL⟩ := C
  obtain ⟨hs, P1, D1, P2, D2, X, hs2⟩ := hW
  have hA : ∀ q, va_A (ev_w cy a1 w1) H.size q → lw_new s q := by
    intro q h
    rcases h with ⟨k, e, h⟩ | h
    · exact D1.2 k _ h
    · exact Nat.le_trans S.1 h
  have hpre : ∀ U : State, U.heap = H → s.WarmedH U.vm → ev_P D cy a1 sv H.size w1 (.ref 0 :: As) (Value.ref (a1 0) :: As.map (ev_v a1)).toArray U := by
    intro U hU hWm
    refine ⟨rfl, by rw [hU], by rw [hU]; exact P1, D1.weaken (fun _ _ _ _ => trivial), ev_F.warm hWm hF, ?_, hs.2.symm⟩
    rw [hs.1, hU]
    exact ev_S.warm hWm ((hSt.kept S.2.1).narrow hA)
  have hR := va_runV (p := p) (l := l) (e := e) (R := room_1) (s := s) (m := m) (args := #[Value.ref b]) (below := below) (meth := meth) (c := c) (H := H) (locs := locs) (cells := 600000) (slots := 7302250) (g := F0 m pc ls st) (rest := rest) (Ts := wsG) (own := RL) (C := y2.cls) (n := np) (bytes := cc2) (maxL := n2) (ret := ret2) (b := a1 0) (As := As.map (ev_v a1)) (nL := 4) ⟨hx, hb, hml, hown, ht⟩ (ev_met (As := .ref 0 :: As) hE h0 hle hm.2.2.2.1 l D cy a1 sv H.size)
    ⟨callB_of np ht (wsG_good hm.1) rfl rfl rfl (ht _ hm.2.1) (ht _ hlk) hm.2.2.1 ⟨Nat.le_of_ble_eq_true rfl, by have := hm.2.2.2.2; show 8 + (n2 + 11) + 40 * 12 ≤ 84000; omega⟩, ht _ hin, ht _ hse⟩
    ⟨ev_blind, va_recv hF.1 P1 hcf.1 (ev_w_get ho), hpre⟩ rfl (by rw [List.length_map]; exact hnp) hl (by rw [hAs]; exact hst.symm) (lv_room hr) hd ⟨Nat.le_of_ble_eq_true rfl, Nat.le_of_ble_eq_true rfl⟩
  intro T hT X0
  obtain ⟨v, st₀, t, T', L', h0', X', hL', e1, e2, ⟨⟨r, w', ⟨hq1, hq2⟩, hv, hP, hD⟩, hz, hk⟩, stp⟩ := hR T hT X0
  subst hq1
  cases hv
  rw [h0'] at hz hk
  have key : lw_W D cy sa sv s a1 a2 w' w2 T'.heap := by
    refine ⟨hs, by rw [e1]; exact hP, hD.weaken (fun _ q _ h => hA _ h), fun j y hy => ?_, D2, fun i j x y hx hy z => ?_, hs2⟩
    · have h5 := P2 j y hy
      refine h5.kept ?_
      rw [e1]
      refine hk _ h5.lt (fun h => ?_)
      rcases h with ⟨k2, e3, h⟩ | h
      · exact X k2 j _ y h hy rfl
      · exact absurd h5.lt (Nat.not_lt.mpr h)
    · have h5 := P2 j y hy
      rcases hD.2 i x hx with ⟨k2, e3, h⟩ | h
      · exact X k2 j _ y h hy z
      · rw [z] at h
        exact absurd h5.lt (Nat.not_lt.mpr h)
  obtain ⟨t2, a3, b3⟩ := k w' T'.heap (locs ++ L') hq2 key
    ⟨Nat.le_trans S.1 (by rw [e1]; exact hz), fun q h1 h2 => by rw [e1, hk q (Nat.lt_of_lt_of_le h1 S.1) (fun z => h2 (hA q z))]; exact S.2.1 q h1 h2, fun q hq => by
      rcases List.mem_append.mp hq with h | h
      · exact S.2.2 q h
      · exact hA _ (hL' q h)⟩ T' rfl X'
  refine ⟨t2, stp t2 ?_, b3⟩
  have e3 : (Option.map (ev_v a1) (some rv)).toList ++ rest = rv :: rest := by
    show ev_v a1 rv :: rest = rv :: rest
    rw [hrv]
  rw [e3]
  exact a3
/-- script[i + k] -/
theorem lw_arg {H : Heap} {locs : List Loc} {ls : Array Slot} {pc i a1 a2 : Nat} {kv : Int} {rest : List Value} {Z : State → Prop} (k : Nat) (C : lw_C p s m meth c b L xs D cy sa sv) (S : va_S (lw_new s) s.heap H locs) (hl : lv_has ls 4 [(0, .ref b), (1, .ref a1), (2, .ref a2), (3, .int (nI i))]) (hi : i + 5 ≤ L) (hk : k ≤ 4) (hkv : Int32.ofInt kv = nI k)
    (d0 : decode code pc = .ok (.aload_n 0, 1)) (d1 : decode code (pc + 1) = .ok (.iload_n 3, 1)) (d2 : decode code (pc + 2) = .ok (.iconst kv, 1)) (d3 : decode code (pc + 3) = .ok (.iadd, 1)) (d4 : decode code (pc + 4) = .ok (.iaload, 1))
    (kk : W p l e room_1 s m #[Value.ref b] below meth c H locs 600000 7302250 Z (F0 m (pc + 5) ls (.int (xs (i + k)) :: rest))) : W p l e room_1 s m #[Value.ref b] below meth c H locs 600000 7302250 Z (F0 m pc ls rest) := by
  obtain ⟨⟨hx, hb, hrt, hml, hown, hts, hX, hbl, hlocks, hgv⟩, ht, hF, hSt, hL⟩ := C
  refine lv_aload_n hx hb d0 rfl (lv_at hl 0 rfl) ?_
  refine lv_iload_n hx hb d1 rfl (lv_at hl 3 rfl) ?_
  refine lv_iconst hx hb d2 hkv ?_
  refine lv_iadd hx hb d3 ?_
  rw [nI_add]
  refine va_sld hx hb hX hbl (Nat.not_le.mpr hbl) S (vp_in_nI (by omega) (by omega)) d4 ?_
  rw [nI_clamp (by omega)]
  exact kk
/-- script[i + 4] != 0, as the machine makes it -/
theorem lw_bool {H : Heap} {locs : List Loc} {ls : Array Slot} {pc : Nat} {x : Int32} {rest : List Value} {Z : State → Prop} (C : lw_C p s m meth c b L xs D cy sa sv)
    (d0 : decode code pc = .ok (.ifCond .eq 7, 3)) (d1 : decode code (pc + 3) = .ok (.iconst 1, 1)) (d2 : decode code (pc + 4) = .ok (.goto 4, 3)) (d3 : decode code (pc + 7) = .ok (.iconst 0, 1))
    (kk : W p l e room_1 s m #[Value.ref b] below meth c H locs 600000 7302250 Z (F0 m (pc + 8) ls (.int (if x = 0 then 0 else 1) :: rest))) : W p l e room_1 s m #[Value.ref b] below meth c H locs 600000 7302250 Z (F0 m pc ls (.int x :: rest)) := by
  obtain ⟨⟨hx, hb, hrt, hml, hown, hts, hX, hbl, hlocks, hgv⟩, ht, hF, hSt, hL⟩ := C
  refine lv_if_eq (tgt := pc + 7) hx hb d0 (by omega) (fun h => ?_) (fun h => ?_)
  · rw [if_pos h] at kk
    exact lv_iconst hx hb d3 (by decide) kk
  · rw [if_neg h] at kk
    refine lv_iconst (v := 1) hx hb d1 (by decide) ?_
    exact lv_goto (tgt := pc + 8) hx hb d2 (by omega) kk
end LAW
def LJ (D : va_G) (cy : Nat → ClassId) (sa sv : Nat) (s : State) (a1 a2 : Nat → Nat) (b n i : Nat) (wc wm : List Ce) (H : Heap) (locs : List Loc) (ls : Array Slot) : Prop := RW n wc wm ∧ lw_W D cy sa sv s a1 a2 wc wm H ∧ va_S (lw_new s) s.heap H locs ∧ lv_has ls 4 [(0, .ref b), (1, .ref (a1 0)), (2, .ref (a2 0)), (3, .int (nI i))]
def LK (p : Program) (l : Launch) (e : Env) (s : State) (m : MethodId) (below : List Frame) (meth : Method) (c : Code) (D : va_G) (cy : Nat → ClassId) (sa sv : Nat) (a1 a2 : Nat → Nat) (b n i pc : Nat) : Prop := ∀ (wc wm : List Ce) (H : Heap) (locs : List Loc) (ls : Array Slot), LJ D cy sa sv s a1 a2 b n i wc wm H locs ls → W p l e room_1 s m #[Value.ref b] below meth c H locs 600000 7302250 (lw_Z below #[Value.ref b] s) (F0 m pc ls [])
theorem RW.cls {n : Nat} {wc wm : List Ce} (h : RW n wc wm) : ∃ fs, wc[0]? = some (.inr (4, fs)) := by
  obtain ⟨h, pg, PF, l, LF, s, SF, il, ILF, is, ISF, t, TF, k, KF, g, G, F, V, N, L, K, rfl, rfl, r⟩ := h
  exact ⟨_, rfl⟩
theorem RW.mod {n : Nat} {wc wm : List Ce} (h : RW n wc wm) : ∃ fs, wm[0]? = some (.inr (5, fs)) := by
  obtain ⟨h, pg, PF, l, LF, s, SF, il, ILF, is, ISF, t, TF, k, KF, g, G, F, V, N, L, K, rfl, rfl, r⟩ := h
  exact ⟨_, rfl⟩
theorem Num.i {rv : Value} (h : Num (some .int) rv) : ∃ v, rv = .int v := by
  rcases h with ⟨_, h⟩ | ⟨h, _⟩
  · exact h
  · cases h
theorem Num.l {rv : Value} (h : Num (some .long) rv) : ∃ v, rv = .long v := by
  rcases h with ⟨h, _⟩ | ⟨_, h⟩
  · cases h
  · exact h
