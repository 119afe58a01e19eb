/-! the law: what holds at its start -/
theorem w_cL4 : Cond.classLink RL 7 RX4 ∈ wsG := wsG_in 72 (by decide +kernel) rfl
theorem w_cL5 : Cond.classLink RL 10 RX5 ∈ wsG := wsG_in 686 (by decide +kernel) rfl
theorem lw_in {w : Cond} {s : State} {args : Array Value} (hts : ∀ w ∈ lw_tbl, w.before args s = true) (i : Nat) (h : lw_tbl[i]? = some w) : w.before args s = true := hts w (List.mem_of_getElem? h)
theorem lw_arr {ty : FieldType} {s : State} {args : Array Value} (h : (Cond.arrayClass ty).before args s = true) : ∃ cA : ClassId, ArrOfT s cA ty ∧ s.vm.findClass ("[" ++ ty.toString) = some cA := by
  obtain ⟨cA, kA, comp, h1, h2, h3⟩ := Cond.arrayClass_spec h
  exact ⟨cA, fun n z => ⟨fun k h => (by cases h), kA, h2, comp, h3⟩, h1⟩
theorem lw_F {s : State} {args : Array Value} (hts : ∀ w ∈ lw_tbl, w.before args s = true) : ∃ (D : va_G) (cy : Nat → ClassId), ev_F D cy s := by
  have htG : ∀ w ∈ wsG, w.before args s = true := fun w hw => hts w (List.mem_filter.mp hw).1
  obtain ⟨c0, i0, k0⟩ := u_known (C := RX0) (T := TX0) (N := 11) (n := 11) htG inGX0 (htG _ w_i_X0)
  obtain ⟨c1, i1, k1⟩ := u_known (C := RX1) (T := TX1) (N := 6) (n := 6) htG inGX1 (htG _ w_i_X1)
  obtain ⟨c2, i2, k2⟩ := u_known (C := RX2) (T := TX2) (N := 5) (n := 5) htG inGX2 (htG _ w_i_X2)
  obtain ⟨c3, i3, k3⟩ := u_known (C := RX3) (T := TX3) (N := 6) (n := 6) htG inGX3 (htG _ w_i_X3)
  obtain ⟨c4, i4, k4⟩ := u_known (C := RX4) (T := TX4) (N := 10) (n := 10) htG inGX4 (htG _ w_i_X4)
  obtain ⟨c5, i5, k5⟩ := u_known (C := RX5) (T := TX5) (N := 50) (n := 50) htG inGX5 (htG _ w_i_X5)
  obtain ⟨y0, a0, r0⟩ := lw_arr (htG _ w_ai)
  obtain ⟨y1, a1, r1⟩ := lw_arr (htG _ w_ab)
  obtain ⟨y2, a2, r2⟩ := lw_arr (htG _ w_az)
  refine ⟨(fun k => [c0, c1, c2, c3, c4, c5].getD k c0, fun k => [i0, i1, i2, i3, i4, i5].getD k i0), fun k => [y0, y1, y2].getD k y0, ⟨fun k q hq => ?_, fun k q hq => ?_⟩, va_Nw.of rfl (lw_in hts 428 (by decide +kernel)), va_Nw.of rfl (lw_in hts 433 (by decide +kernel)), va_Nw.of rfl (lw_in hts 483 (by decide +kernel)), va_Nw.of rfl (lw_in hts 512 (by decide +kernel)), va_Nw.of rfl (lw_in hts 575 (by decide +kernel)), va_Nw.of rfl (lw_in hts 576 (by decide +kernel)), va_Nw.of rfl (lw_in hts 585 (by decide +kernel)), va_Nw.of rfl (lw_in hts 436 (by decide +kernel))⟩
  · match k, hq with
    | 0, hq => cases hq; exact k0
    | 1, hq => cases hq; exact k1
    | 2, hq => cases hq; exact k2
    | 3, hq => cases hq; exact k3
    | 4, hq => cases hq; exact k4
    | 5, hq => cases hq; exact k5
    | k + 6, hq => simp at hq
  · match k, hq with
    | 0, hq => cases hq; exact ⟨a0, r0⟩
    | 1, hq => cases hq; exact ⟨a1, r1⟩
    | 2, hq => cases hq; exact ⟨a2, r2⟩
    | k + 3, hq => simp at hq
theorem lw_S {s : State} {b : Nat} (hts : ∀ w ∈ lw_tbl, w.before #[Value.ref b] s = true) (hgv : (Jvm.Cond.and given_1 narrow_1).before #[Value.ref b] s = true) : ∃ sa sv : Nat, ev_S sa sv (lw_new s) s s.heap := by
  have hs := flat_of_before _ hgv
  have hA : ∀ a : Nat, a < s.heap.size → ¬ lw_new s a := fun a h z => absurd h (Nat.not_lt.mpr z)
  have x1 : (Cond.exactly (.string "HeldTowns$Page" 42) "java/lang/String").before #[Value.ref b] s = true := hs _ (by decide +kernel)
  have x2 : (Cond.eq (.field (.string "HeldTowns$Page" 42) "java/lang/String" "coder" "B") (.int 0)).before #[Value.ref b] s = true := hs _ (by decide +kernel)
  have x3 : (Cond.arrayOf (.field (.string "HeldTowns$Page" 42) "java/lang/String" "value" "[B") .byte).before #[Value.ref b] s = true := hs _ (by decide +kernel)
  have x4 : (Cond.eq (.length (.field (.string "HeldTowns$Page" 42) "java/lang/String" "value" "[B")) (.int 5)).before #[Value.ref b] s = true := hs _ (by decide +kernel)
  have e0 : (Cond.eq (.elem (.field (.string "HeldTowns$Page" 42) "java/lang/String" "value" "[B") (.int 0)) (.int 119)).before #[Value.ref b] s = true := hs _ (by decide +kernel)
  have e1 : (Cond.eq (.elem (.field (.string "HeldTowns$Page" 42) "java/lang/String" "value" "[B") (.int 1)) (.int 98)).before #[Value.ref b] s = true := hs _ (by decide +kernel)
  have e2 : (Cond.eq (.elem (.field (.string "HeldTowns$Page" 42) "java/lang/String" "value" "[B") (.int 2)) (.int 99)).before #[Value.ref b] s = true := hs _ (by decide +kernel)
  have e3 : (Cond.eq (.elem (.field (.string "HeldTowns$Page" 42) "java/lang/String" "value" "[B") (.int 3)) (.int 115)).before #[Value.ref b] s = true := hs _ (by decide +kernel)
  have e4 : (Cond.eq (.elem (.field (.string "HeldTowns$Page" 42) "java/lang/String" "value" "[B") (.int 4)) (.int 112)).before #[Value.ref b] s = true := hs _ (by decide +kernel)
  have z1 : (Cond.eq (.static "java/lang/String" "COMPACT_STRINGS" "Z") (.int 1)).before #[Value.ref b] s = true := hs _ (by decide +kernel)
  obtain ⟨adK, adV, h1, h2⟩ := vk_Sof (args := #[Value.ref b]) (s := s) (N := 1) (tm := fun _ => .string "HeldTowns$Page" 42) (len := [5]) (byt := [[119, 98, 99, 115, 112]]) (A := lw_new s)
    (fun i hi => by obtain rfl : i = 0 := by omega
                    decide)
    (fun i hi => x1) (fun i hi => x2) (fun i hi => x3)
    (fun i hi => by obtain rfl : i = 0 := by omega
                    exact x4)
    (fun i hi j hj => by
      obtain rfl : i = 0 := by omega
      have hj : j < 5 := hj
      match j, hj with
      | 0, _ => exact e0
      | 1, _ => exact e1
      | 2, _ => exact e2
      | 3, _ => exact e3
      | 4, _ => exact e4
      | j + 5, h => exact absurd h (by omega))
    (fun i j hi hj hne => absurd (by omega) hne) hA
  have r1 : (Cond.stringRef RX2 42 "wbcsp").before #[Value.ref b] s = true := lw_in hts 290 (by decide +kernel)
  have l1 : (Cond.laysStatic "java/lang/String" "COMPACT_STRINGS" "Z").before #[Value.ref b] s = true := lw_in hts 304 (by decide +kernel)
  have n1 : (Cond.initialized "java/lang/String").before #[Value.ref b] s = true := lw_in hts 65 (by decide +kernel)
  refine ⟨adK 0, adV 0, vk_R.of r1 (h2 0 (by omega)), ⟨fun i hi => ?_, fun i j hi hj _ => by omega⟩, va_Zof l1 n1 (va_eqi z1) hA⟩
  obtain rfl : i = 0 := by omega
  exact h1.1 0 (by omega)
/-! the two new objects are alike -/
def lw_ad (ad : Nat → Nat) (sa sv : Nat) : Nat → Nat := fun k => bif Nat.beq k SK then sa else bif Nat.beq k SV then sv else ad k
def zF : Nat → Int32 := fun _ => 0
def zG : Nat → Nat → Int32 := fun _ _ => 0
def zK : Nat → Int32 := fun i => bif Nat.beq i 1 then -1 else 0
def zL : Nat → Int64 := fun _ => 0
abbrev cls0 : List Ce := clsW zF zF zG zF zG zF zG zF zG zF zG zF zG zK zG
abbrev mod0 : List Ce := modW zF zL zG
set_option maxRecDepth 100000 in
set_option maxHeartbeats 4000000 in
theorem lw_w4 (cy : Nat → ClassId) (ad : Nat → Nat) (sa sv : Nat) : ev_w cy (lw_ad ad sa sv) cls0 = w0_X4 cy ad := by
  simp only [ev_w, cls0, clsW, List.mapIdx_cons, List.mapIdx_nil]
  rfl
set_option maxRecDepth 100000 in
set_option maxHeartbeats 4000000 in
theorem lw_w5 (cy : Nat → ClassId) (ad : Nat → Nat) (sa sv : Nat) : ev_w cy (lw_ad ad sa sv) mod0 = w0_X5 cy ad := by
  simp only [ev_w, mod0, modW, List.mapIdx_cons, List.mapIdx_nil]
  rfl
theorem lw_RW0 : RW 0 cls0 mod0 := by
  have E0 : ∀ X Y : Nat → Nat → Int32, EQV X Y 0 0 := fun X Y => ⟨fun v hv => absurd hv (Nat.not_lt_zero v), fun k hk => absurd hk (Nat.not_lt_zero k)⟩
  have R0 : ∀ Y : Nat → Nat → Int32, RNG Y 0 0 := fun Y => ⟨fun v hv => absurd hv (Nat.not_lt_zero v), fun k hk => absurd hk (Nat.not_lt_zero k)⟩
  exact ⟨zF, zF, zG, zF, zG, zF, zG, zF, zG, zF, zG, zF, zG, zK, zG, zF, zL, zG, 0, 0, 0, 0, rfl, rfl, RLd.mk rfl rfl rfl rfl (by omega) (by omega) (E0 _ _) (R0 _) ⟨0, by omega, rfl, rfl⟩ rfl rfl, ⟨rfl, rfl, by omega, fun i hi => absurd hi (Nat.not_lt_zero i), fun i hi => absurd hi (Nat.not_lt_zero i)⟩, ⟨rfl, rfl, by omega, fun i hi => absurd hi (Nat.not_lt_zero i)⟩, ⟨⟨0, by omega, rfl, rfl⟩, 0, by omega, rfl, rfl⟩, Or.inl ⟨rfl, Or.inl rfl⟩⟩
theorem lw_split {D : va_G} {cl : List vw_C} {A : Nat → Prop} {u v : va_W} {H : Heap} (hP : va_P D cl (u ++ v) H) (hD : va_D A (u ++ v)) : va_P D cl u H ∧ va_D A u ∧ va_P D cl v H ∧ va_D A v ∧ ∀ (i j : Nat) (x y : Nat × va_E), u[i]? = some x → v[j]? = some y → x.1 ≠ y.1 := by
  have hu : ∀ (i : Nat) (x : Nat × va_E), u[i]? = some x → (u ++ v)[i]? = some x ∧ i < u.length := fun i x h => by
    have hl : i < u.length := (List.getElem?_eq_some_iff.mp h).1
    exact ⟨by rw [List.getElem?_append_left hl]; exact h, hl⟩
  have hv : ∀ (i : Nat) (x : Nat × va_E), v[i]? = some x → (u ++ v)[u.length + i]? = some x := fun i x h => by
    rw [List.getElem?_append_right (by omega), Nat.add_sub_cancel_left]
    exact h
  refine ⟨fun k q h => hP k q (hu k q h).1, ⟨fun i j x y hx hy z => hD.1 i j x y (hu i x hx).1 (hu j y hy).1 z, fun k q h => hD.2 k q (hu k q h).1⟩, fun k q h => hP _ q (hv k q h), ⟨fun i j x y hx hy z => ?_, fun k q h => hD.2 _ q (hv k q h)⟩, fun i j x y hx hy z => ?_⟩
  · have := hD.1 _ _ x y (hv i x hx) (hv j y hy) z
    omega
  · have h1 := hD.1 _ _ x y (hu i x hx).1 (hv j y hy) z
    have h2 := (hu i x hx).2
    omega
set_option maxHeartbeats 4000000 in
set_option maxRecDepth 100000 in
theorem whole_start {p : Program} {e : Env} {s : State} {m : MethodId} {below : List Frame} {meth : Method} {c : Code} (l : Launch) {b L : Nat} {xs : Nat → Int32} (hL : L ≤ 2560) (C0 : lw_At p s m meth c b L xs) : W p l e room_1 s m #[Value.ref b] below meth c s.heap [] 0 0 (lw_Z below #[Value.ref b] s) (entryFrame m ([Value.ref b] : List Value).toArray 4) := by
  obtain ⟨hx, hb, hr, hml, hown, hts, hX, hbl, hlocks, hgv⟩ := id C0
  have htG : ∀ w ∈ wsG, w.before #[Value.ref b] s = true := fun w hw => hts w (List.mem_filter.mp hw).1
  have hown : s.vm.findClass RL = some m.cls := hown
  obtain ⟨D, cy, hF⟩ := lw_F hts
  obtain ⟨sa, sv, hSt⟩ := lw_S hts hgv
  have hK : nK D cy s := hF.1
  have hA : ∀ q : Nat, s.heap.size ≤ q → lw_new s q := fun _ h => h
  have hS : va_S (lw_new s) s.heap s.heap [] := va_S.rf
  have hP : va_P D vwCl [] s.heap := fun k q h => by simp at h
  have hD : va_D (lw_new s) [] := ⟨fun i j p q h => by simp at h, fun k q h => by simp at h⟩
  have hl := lv_entry ([.ref b]) (n := 4) (Nat.le_of_ble_eq_true rfl)
  rw [lg_entry_eq]
  generalize (lg_sl ([.ref b]) ++ List.replicate (4 - (lg_sl ([.ref b])).length) Slot.unset).toArray = ls at hl ⊢
  have hl : lv_has ls 4 [(0, .ref b)] := hl
  refine va_new (ci := 4) (fs := [.null, .null, .null, .null, .null, .null, .null, .int 0, .int 0, .int 0]) (C := RX4) (T := TX4) (N := 10) hx hb htG inGX4 tyX4 tyX4_ok hown (htG _ w_cL4) (htG _ w_i_X4) (htG _ wn_X4) hK hP hD hS hA rfl df_X4 (Nat.le_of_ble_eq_true rfl) (Nat.le_of_ble_eq_true rfl) dL_law_0 (fun q1 H hP hD hS => ?_)
  have hP : va_P D vwCl [(q1, .inr (4, [.null, .null, .null, .null, .null, .null, .null, .int 0, .int 0, .int 0]))] H := hP
  have hD : va_D (lw_new s) [(q1, .inr (4, [.null, .null, .null, .null, .null, .null, .null, .int 0, .int 0, .int 0]))] := hD
  refine W.widen (k := 1) (n := 10) (by omega) (by omega) ?_
  refine lv_dup hx hb dL_law_3 rfl ?_
  have hFc := va_free (wc := [(q1, .inr (4, [.null, .null, .null, .null, .null, .null, .null, .int 0, .int 0, .int 0]))]) hD hS hA [0] rfl
  refine va_callv (va_runI (As := []) (rest := [.ref q1]) ⟨hx, hb, hml, hown, htG⟩ (n_X4 l D cy q1 H.size) (cwI 0 htG (wsG_good wc_X4_init) rfl rfl rfl (htG _ wn_X4) (htG _ wl_L_9) (htG _ wi_X4_init) rfl (by decide +kernel) ⟨Nat.le_of_ble_eq_true rfl, Nat.le_of_ble_eq_true rfl⟩) ⟨nw_blind, fun U hU hW => ⟨rfl, by rw [hU], by rw [hU]; exact hP, va_K.moved hW.alike hK, hD.weaken (fun _ _ _ _ => trivial)⟩⟩ rfl rfl hl.1 rfl (lv_room (Nat.le_of_ble_eq_true rfl)) dL_law_4 ⟨Nat.le_of_ble_eq_true rfl, Nat.le_of_ble_eq_true rfl⟩) hS (fun q _ h => hFc q h) hFc (fun a1 t H1 locs ht hvm hw hB hz1 hk1 hS => ?_)
  obtain ⟨ea, hP1, hD1⟩ := hB
  rw [ht] at hP1
  subst ea
  have hD1 := hD1.weaken (fun _ q _ h => hFc _ h)
  have hP : va_P D vwCl (w0_X4 cy a1) H1 := hP1
  have hD : va_D (lw_new s) (w0_X4 cy a1) := hD1
  refine W.widen (k := 41) (n := 345) (by omega) (by omega) ?_
  refine lv_astore_n (lv' := [(1, .ref (a1 0)), (0, .ref b)]) hx hb dL_law_7 rfl hl (by decide) rfl (fun ls hl => ?_)
  refine va_new (ci := 5) (fs := [.int 0, .int 0, .int 0, .null, .null, .null, .null, .null, .null, .int 0, .int 0, .int 0, .int 0, .int 0, .null, .null, .null, .null, .int 0, .null, .int 0, .int 0, .int 0, .null, .null, .null, .null, .int 0, .int 0, .long 0, .null, .null, .null, .null, .int 0, .int 0, .int 0, .int 0, .int 0, .int 0, .null, .null, .null, .null, .null, .null, .null, .null, .null, .long 0]) (C := RX5) (T := TX5) (N := 50) hx hb htG inGX5 tyX5 tyX5_ok hown (htG _ w_cL5) (htG _ w_i_X5) (htG _ wn_X5) hK hP hD hS hA rfl df_X5 (Nat.le_of_ble_eq_true rfl) (Nat.le_of_ble_eq_true rfl) dL_law_8 (fun q2 H2 hP hD hS => ?_)
  refine W.widen (k := 42) (n := 395) (by omega) (by omega) ?_
  refine lv_dup hx hb dL_law_11 rfl ?_
  have hPc := hP.sub (ws' := [(q2, .inr (5, [.int 0, .int 0, .int 0, .null, .null, .null, .null, .null, .null, .int 0, .int 0, .int 0, .int 0, .int 0, .null, .null, .null, .null, .int 0, .null, .int 0, .int 0, .int 0, .null, .null, .null, .null, .int 0, .int 0, .long 0, .null, .null, .null, .null, .int 0, .int 0, .int 0, .int 0, .int 0, .int 0, .null, .null, .null, .null, .null, .null, .null, .null, .null, .long 0]))]) [41] rfl
  have hDc := hD.sub (ws' := [(q2, .inr (5, [.int 0, .int 0, .int 0, .null, .null, .null, .null, .null, .null, .int 0, .int 0, .int 0, .int 0, .int 0, .null, .null, .null, .null, .int 0, .null, .int 0, .int 0, .int 0, .null, .null, .null, .null, .int 0, .int 0, .long 0, .null, .null, .null, .null, .int 0, .int 0, .int 0, .int 0, .int 0, .int 0, .null, .null, .null, .null, .null, .null, .null, .null, .null, .long 0]))]) [41] (by decide) rfl
  have hFc := va_free (wc := [(q2, .inr (5, [.int 0, .int 0, .int 0, .null, .null, .null, .null, .null, .null, .int 0, .int 0, .int 0, .int 0, .int 0, .null, .null, .null, .null, .int 0, .null, .int 0, .int 0, .int 0, .null, .null, .null, .null, .int 0, .int 0, .long 0, .null, .null, .null, .null, .int 0, .int 0, .int 0, .int 0, .int 0, .int 0, .null, .null, .null, .null, .null, .null, .null, .null, .null, .long 0]))]) hD hS hA [41] rfl
  refine va_callv (va_runI (As := []) (rest := [.ref q2]) ⟨hx, hb, hml, hown, htG⟩ (n_X5 l D cy q2 H2.size) (cwI 0 htG (wsG_good wc_X5_init) rfl rfl rfl (htG _ wn_X5) (htG _ wl_L_12) (htG _ wi_X5_init) rfl (by decide +kernel) ⟨Nat.le_of_ble_eq_true rfl, Nat.le_of_ble_eq_true rfl⟩) ⟨nw_blind, fun U hU hW => ⟨rfl, by rw [hU], by rw [hU]; exact hPc, va_K.moved hW.alike hK, hDc.weaken (fun _ _ _ _ => trivial)⟩⟩ rfl rfl hl.1 rfl (lv_room (Nat.le_of_ble_eq_true rfl)) dL_law_12 ⟨Nat.le_of_ble_eq_true rfl, Nat.le_of_ble_eq_true rfl⟩) hS (fun q _ h => hFc q h) hFc (fun a2 t H3 locs ht hvm hw hB hz1 hk1 hS => ?_)
  obtain ⟨ea, hP1, hD1⟩ := hB
  rw [ht] at hP1
  subst ea
  obtain ⟨hP, hD⟩ := va_join (wr := w0_X4 cy a1) (w1 := w0_X5 cy a2) hP hD [41] [0, 1, 2, 3, 4, 5, 6, 7, 8, 9, 10, 11, 12, 13, 14, 15, 16, 17, 18, 19, 20, 21, 22, 23, 24, 25, 26, 27, 28, 29, 30, 31, 32, 33, 34, 35, 36, 37, 38, 39, 40] rfl rfl (by decide) (by decide) hk1 hFc hP1 hD1
  obtain ⟨p1, d1, p2, d2, X⟩ := lw_split hP hD
  refine W.widen (k := 600000) (n := 7302250) (by omega) (by omega) ?_
  refine lv_astore_n (lv' := [(2, .ref (a2 0)), (1, .ref (a1 0)), (0, .ref b)]) hx hb dL_law_15 rfl hl (by decide) rfl (fun ls hl => ?_)
  refine lv_iconst (v := 0) hx hb dL_law_16 (by decide) ?_
  refine lv_istore_n (lv' := [(3, .int 0), (2, .ref (a2 0)), (1, .ref (a1 0)), (0, .ref b)]) hx hb dL_law_17 rfl hl (by decide) rfl (fun ls hl => ?_)
  refine lw_loop (a1 := lw_ad a1 sa sv) (a2 := lw_ad a2 sa sv) (D := D) (cy := cy) (sa := sa) (sv := sv) (xs := xs) (L := L) ⟨C0, htG, hF, hSt, hL⟩ (L + 1) 0 0 (by omega) (Nat.zero_le L) (Nat.le_refl 0) cls0 mod0 H3 locs ls ⟨lw_RW0, ⟨⟨rfl, rfl⟩, ?_, ?_, ?_, ?_, ?_, ⟨rfl, rfl⟩⟩, hS, lv_sub hl [3, 2, 1, 0] rfl⟩
  · rw [lw_w4]; exact p1
  · rw [lw_w4]; exact d1
  · rw [lw_w5]; exact p2
  · rw [lw_w5]; exact d2
  · rw [lw_w4, lw_w5]; exact X
