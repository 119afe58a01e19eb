/-! the String constant "wbcsp": rows on it -/
section EVT
variable {d : Nat} {y y2 : MethodName} {cc cc2 : ByteArray} {ret ret2 : Option FieldType} {pc n2 np : Nat} {ls ls2 : List (Option Value)} {st rest : List Value} {w : List Ce} {Q Q2 : Option Value → List Ce → Prop} {i : Nat}
def kby : List Int32 := [119, 98, 99, 115, 112]
theorem Ev.ldcS (hy : y.cls = RX2) (hd : decode cc pc = .ok (.ldc 42, 2)) (k : Ev d y cc ret (pc + 2) ls (.ref SK :: st) w Q) : Ev d y cc ret pc ls st w Q :=
  fun D cy ad sv p l e s m args below meth c A ls' H locs C L P X S => va_ldcS C.1 C.2.1 (by rw [← hy]; exact C.2.2.2.2.2.1) C.2.2.2.2.2.2.2.2.2.1.1 hd (k D cy ad sv p l e s m args below meth c A ls' H locs C L P X S)
theorem Ev.getsC (hk : Cond.fieldLink y.cls i "java/lang/String" "COMPACT_STRINGS" "Z" ∈ wsG) (hd : decode cc pc = .ok (.getstatic i, 3)) (k : Ev d y cc ret (pc + 3) ls (.int 1 :: st) w Q) : Ev d y cc ret pc ls st w Q :=
  fun D cy ad sv p l e s m args below meth c A ls' H locs C L P X S => va_gets C.1 C.2.1 C.2.2.2.2.2.2.2.2.2.1.2.2 S C.2.2.2.2.2.1 (C.2.2.2.2.2.2.1 _ hk) (fun _ h => h) hd (k D cy ad sv p l e s m args below meth c A ls' H locs C L P X S)
theorem Ev.getcoder (hk : Cond.fieldLink y.cls i "java/lang/String" "coder" "B" ∈ wsG) (hd : decode cc pc = .ok (.getfield i, 3)) (k : Ev d y cc ret (pc + 3) ls (.int 0 :: st) w Q) : Ev d y cc ret pc ls (.ref SK :: st) w Q :=
  fun D cy ad sv p l e s m args below meth c A ls' H locs C L P X S => vk_getf C.1 C.2.1 (C.2.2.2.2.2.2.2.2.2.1.2.1.1 0 (by decide)).2.1 S C.2.2.2.2.2.1 (C.2.2.2.2.2.2.1 _ hk) (fun _ h => h) hd (k D cy ad sv p l e s m args below meth c A ls' H locs C L P X S)
theorem Ev.getvalue (hk : Cond.fieldLink y.cls i "java/lang/String" "value" "[B" ∈ wsG) (hd : decode cc pc = .ok (.getfield i, 3)) (k : Ev d y cc ret (pc + 3) ls (.ref SV :: st) w Q) : Ev d y cc ret pc ls (.ref SK :: st) w Q := by
  intro D cy ad sv p l e s m args below meth c A ls' H locs C L P X S
  have K := k D cy ad sv p l e s m args below meth c A ls' H locs C L P X S
  have esv : sv = ad SV := C.2.2.2.2.2.2.2.2.2.2
  have K : W p l e (RM d) s m args below meth c H locs 0 0 (MQ below (ev_Q D cy ad A Q) args s 0 0 A) (F0 m (pc + 3) ls' (.ref (ad SV) :: st.map (ev_v ad))) := K
  rw [← esv] at K
  exact vk_getf C.1 C.2.1 (C.2.2.2.2.2.2.2.2.2.1.2.1.1 0 (by decide)).2.2.1 S C.2.2.2.2.2.1 (C.2.2.2.2.2.2.1 _ hk) (fun _ h => h) hd K
theorem Ev.salen (hd : decode cc pc = .ok (.arraylength, 1)) (k : Ev d y cc ret (pc + 1) ls (.int 5 :: st) w Q) : Ev d y cc ret pc ls (.ref SV :: st) w Q := by
  intro D cy ad sv p l e s m args below meth c A ls' H locs C L P X S
  have esv : sv = ad SV := C.2.2.2.2.2.2.2.2.2.2
  have hT := (C.2.2.2.2.2.2.2.2.2.1.2.1.1 0 (by decide)).2.2.2
  rw [esv] at hT
  exact va_tlen C.1 C.2.1 hT S rfl hd (k D cy ad sv p l e s m args below meth c A ls' H locs C L P X S)
theorem Ev.sbald {j : Nat} (hj : j < 5) (hd : decode cc pc = .ok (.baload, 1)) (k : Ev d y cc ret (pc + 1) ls (.int (kby.getD j 0) :: st) w Q) : Ev d y cc ret pc ls (.int (nI j) :: .ref SV :: st) w Q := by
  intro D cy ad sv p l e s m args below meth c A ls' H locs C L P X S
  have esv : sv = ad SV := C.2.2.2.2.2.2.2.2.2.2
  have hT := (C.2.2.2.2.2.2.2.2.2.1.2.1.1 0 (by decide)).2.2.2
  rw [esv] at hT
  refine va_tb C.1 C.2.1 hT S (vp_in_nI hj (by decide)) (v := .int (kby.getD j 0)) ?_ hd (k D cy ad sv p l e s m args below meth c A ls' H locs C L P X S)
  rw [nI_clamp (by omega)]
  rfl
theorem Ev.bret {v : Int32} (hd : decode cc pc = .ok (.ireturn, 1)) (hn : narrow .byte (.int v) = .int v) (hQ : Q (some (.int v)) w) : Ev d y cc (some .byte) pc ls [.int v] w Q :=
  fun D cy ad sv p l e s m args below meth c A ls' H locs C L P X S => W.zret C.1 C.2.1 C.2.2.1 hn (fun t ht _ => ev_end (r := some (.int v)) hQ P X S ht) S.2.2 hd (hlocks := C.2.2.2.1)
/-- a call on the String constant -/
theorem Ev.callVS (As : List Value) (hE : Ev d y2 cc2 ret2 0 ls2 [] w Q2) (hd : decode cc pc = .ok (.invokevirtual i, 3)) (hlk : Cond.methodLink y.cls i y2 ∈ wsG) (hin : Cond.instanceMethod y2 ∈ wsG) (hse : Cond.selects y2.cls y2 y2 ∈ wsG) (hm : OkM y2 cc2 n2 ret2 np) (hcl : y2.cls = "java/lang/String") (h0 : ev_e (.ref SK :: As) ++ List.replicate (n2 - (ev_e (.ref SK :: As)).length) none = ls2) (hle : (ev_e (.ref SK :: As)).length ≤ n2) (hnp : As.length = np) (hr : (rest.map fun v => v.category).sum ≤ 8) (hs : As.reverse ++ .ref SK :: rest = st)
    (k : ∀ r w', Q2 r w' → Ev (d + 1) y cc ret (pc + 3) ls (r.toList ++ rest) w' Q) : Ev (d + 1) y cc ret pc ls st w Q := by
  intro D cy ad sv p l e s m args below meth c A ls' H locs C L P X S
  have hA := ev_self C S X
  have ht := C.2.2.2.2.2.2.1
  refine ev_back (ad' := ad) (Q2 := Q2) (a := (Value.ref (ad SK) :: As.map (ev_v ad)).toArray) (va_runV (Ts := wsG) (own := y.cls) (C := y2.cls) (n := np) (bytes := cc2) (maxL := n2) (ret := ret2) (b := ad SK) (rest := rest.map (ev_v ad)) (As := As.map (ev_v ad)) ⟨C.1, C.2.1, C.2.2.2.2.1, C.2.2.2.2.2.1, ht⟩ (ev_met (As := .ref SK :: As) hE h0 hle hm.2.2.2.1 l D cy ad sv H.size)
    ⟨callB_of np ht (wsG_good hm.1) rfl rfl rfl (ht _ hm.2.1) (ht _ hlk) hm.2.2.1 ⟨Nat.le_refl _, by have := hm.2.2.2.2; show 8 + (n2 + 11) + 40 * d ≤ 40 * (d + 1); omega⟩, ht _ hin, ht _ hse⟩
    ⟨ev_blind, ?_, fun U hU hW => ev_pre (As := .ref SK :: As) C S P (X.weaken (fun _ _ _ _ => trivial)) ⟨rfl, rfl⟩ hA hU hW rfl⟩ rfl (by rw [List.length_map]; exact hnp) L.1 (by rw [← hs]; simp [ev_v]) (lv_room (ev_rest hr)) hd ⟨Nat.le_refl _, Nat.le_refl _⟩) S hA (fun r w' H1 locs1 hq P1 X1 _ S1 => ?_)
  · rw [hcl]
    exact vk_recv C.2.2.2.2.2.2.2.2.2.1.2.1 (i := 0) (by decide) S
  · rw [ev_tl]
    exact k r w' hq D cy ad sv p l e s m args below meth c A ls' H1 locs1 C L P1 (X1.weaken (fun _ q _ h => hA _ h)) S1
end EVT
/-- indexOf -/
def kiF (c : Int32) : Nat → Nat → Int32
  | 0, _ => -1
  | n + 1, k => if kby.getD k 0 = c then nI k else kiF c n (k + 1)
def kix (c : Int32) : Int32 := kiF c 5 0
theorem e_J0_coder_7d493 {d : Nat} {w : List Ce} : Ev d yJ0_coder_7d493 cJ0_coder_7d493 (some .byte) 0 [some (.ref SK)] [] w (Is (some (.int 0)) w) := by
  refine Ev.getsC wf_J0_38 dJ0_coder_7d493_0 ?_
  refine Ev.if_eq 13 dJ0_coder_7d493_3 (by decide) (fun h => ?_) (fun h => ?_)
  · exact absurd h (by decide)
  refine Ev.aload_0 dJ0_coder_7d493_6 rfl ?_
  refine Ev.getcoder wf_J0_15 dJ0_coder_7d493_7 ?_
  refine Ev.goto 14 dJ0_coder_7d493_10 (by decide) ?_
  refine Ev.bret dJ0_coder_7d493_14 rfl ?_
  exact ⟨rfl, rfl⟩
theorem e_J0_isLatin1_aae02 {d : Nat} {w : List Ce} : Ev d yJ0_isLatin1_aae02 cJ0_isLatin1_aae02 (some .boolean) 0 [some (.ref SK)] [] w (Is (some (.int 1)) w) := by
  refine Ev.getsC wf_J0_38 dJ0_isLatin1_aae02_0 ?_
  refine Ev.if_eq 17 dJ0_isLatin1_aae02_3 (by decide) (fun h => ?_) (fun h => ?_)
  · exact absurd h (by decide)
  refine Ev.aload_0 dJ0_isLatin1_aae02_6 rfl ?_
  refine Ev.getcoder wf_J0_15 dJ0_isLatin1_aae02_7 ?_
  refine Ev.if_ne 17 dJ0_isLatin1_aae02_10 (by decide) (fun h => ?_) (fun h => ?_)
  · exact absurd rfl h
  refine Ev.iconst (v := 1) dJ0_isLatin1_aae02_13 (by decide) ?_
  refine Ev.goto 18 dJ0_isLatin1_aae02_14 (by decide) ?_
  refine Ev.zret dJ0_isLatin1_aae02_18 (by decide) ?_
  exact ⟨rfl, rfl⟩
theorem e_J0_length_8abf5 {d : Nat} {w : List Ce} : Ev (d + 1) yJ0_length_8abf5 cJ0_length_8abf5 (some .int) 0 [some (.ref SK)] [] w (Is (some (.int 5)) w) := by
  refine Ev.aload_0 dJ0_length_8abf5_0 rfl ?_
  refine Ev.getvalue wf_J0_9 dJ0_length_8abf5_1 ?_
  refine Ev.salen dJ0_length_8abf5_4 ?_
  refine Ev.aload_0 dJ0_length_8abf5_5 rfl ?_
  refine Ev.callVS [] e_J0_coder_7d493 dJ0_length_8abf5_6 wl_J0_335 wi_J0_coder_7d493 we_J0_coder_7d493 ok_J0_coder_7d493 rfl rfl (by simp [ev_e, Value.category]) rfl (rest := [.int 5]) (by decide) rfl (fun r w' h => ?_)
  obtain ⟨rfl, rfl⟩ := h
  refine Ev.ishr dJ0_length_8abf5_9 ?_
  refine Ev.iret dJ0_length_8abf5_10 ?_
  exact ⟨rfl, rfl⟩
theorem e_J1_canEncode_9a6ad {d : Nat} {w : List Ce} {n : Nat} (hn : n < 256) : Ev d yJ1_canEncode_9a6ad cJ1_canEncode_9a6ad (some .boolean) 0 [some (.int (nI n))] [] w (Is (some (.int 1)) w) := by
  refine Ev.iload_0 dJ1_canEncode_9a6ad_0 rfl ?_
  refine Ev.if_lt 15 dJ1_canEncode_9a6ad_1 (by decide) (fun h => ?_) (fun h => ?_)
  · exact absurd h (nI_pos (by omega))
  refine Ev.iload_0 dJ1_canEncode_9a6ad_4 rfl ?_
  refine Ev.sipush (v := 255) dJ1_canEncode_9a6ad_5 (by decide) ?_
  refine Ev.icmp_gt 15 dJ1_canEncode_9a6ad_8 (by decide) (fun h => ?_) (fun h => ?_)
  · exact absurd h (lp_gt (x := 255) (N := 255) rfl (by omega) (by omega))
  refine Ev.iconst (v := 1) dJ1_canEncode_9a6ad_11 (by decide) ?_
  refine Ev.goto 16 dJ1_canEncode_9a6ad_12 (by decide) ?_
  refine Ev.zret dJ1_canEncode_9a6ad_16 (by decide) ?_
  exact ⟨rfl, rfl⟩
theorem i2b_small {n : Nat} (hn : n < 128) : (nI n).toInt8.toInt32 = nI n := by
  have h : ∀ n : Fin 128, (nI n.val).toInt8.toInt32 = nI n.val := by decide +kernel
  exact h ⟨n, hn⟩
theorem e_indexOfChar_loop {d : Nat} {w : List Ce} {c a b : Int32} : ∀ (n k : Nat) (R : Int32), k + n = 5 → kiF c n k = R → Ev d yJ1_indexOfChar_4cfef cJ1_indexOfChar_4cfef (some .int) 7 [some (.ref SV), some (.int a), some (.int b), some (.int 5), some (.int c), some (.int (nI k))] [] w (Is (some (.int R)) w) := by
  intro n
  induction n with
  | zero =>
    intro k R hk hR
    refine Ev.iload dJ1_indexOfChar_4cfef_7 rfl ?_
    refine Ev.iload_3 dJ1_indexOfChar_4cfef_9 rfl ?_
    refine Ev.icmp_ge 31 dJ1_indexOfChar_4cfef_10 (by decide) (fun h => ?_) (fun h => ?_)
    · refine Ev.iconst (v := -1) dJ1_indexOfChar_4cfef_31 (by decide) ?_
      refine Ev.iret dJ1_indexOfChar_4cfef_32 ?_
      exact ⟨by rw [← hR]; rfl, rfl⟩
    · exact absurd (lp_le (x := 5) (N := 5) rfl (by omega) (by omega)) h
  | succ n ih =>
    intro k R hk hR
    refine Ev.iload dJ1_indexOfChar_4cfef_7 rfl ?_
    refine Ev.iload_3 dJ1_indexOfChar_4cfef_9 rfl ?_
    refine Ev.icmp_ge 31 dJ1_indexOfChar_4cfef_10 (by decide) (fun h => ?_) (fun h => ?_)
    · exact absurd h (lp_ge (x := 5) (N := 5) rfl (by omega) (by omega))
    refine Ev.aload_0 dJ1_indexOfChar_4cfef_13 rfl ?_
    refine Ev.iload dJ1_indexOfChar_4cfef_14 rfl ?_
    refine Ev.sbald (by omega) dJ1_indexOfChar_4cfef_16 ?_
    refine Ev.iload dJ1_indexOfChar_4cfef_17 rfl ?_
    refine Ev.icmp_ne 25 dJ1_indexOfChar_4cfef_19 (by decide) (fun h => ?_) (fun h => ?_)
    · refine Ev.incn5 dJ1_indexOfChar_4cfef_25 rfl ?_
      refine Ev.goto 7 dJ1_indexOfChar_4cfef_28 (by decide) ?_
      exact ih (k + 1) R (by omega) (by rw [← hR, kiF, if_neg h])
    · refine Ev.iload dJ1_indexOfChar_4cfef_22 rfl ?_
      refine Ev.iret dJ1_indexOfChar_4cfef_24 ?_
      exact ⟨by rw [← hR, kiF, if_pos h], rfl⟩
theorem e_J1_indexOfChar_4cfef {d : Nat} {w : List Ce} {n : Nat} (hn : n < 128) : Ev d yJ1_indexOfChar_4cfef cJ1_indexOfChar_4cfef (some .int) 0 [some (.ref SV), some (.int (nI n)), some (.int 0), some (.int 5), none, none] [] w (Is (some (.int (kix (nI n)))) w) := by
  refine Ev.iload_1 dJ1_indexOfChar_4cfef_0 rfl ?_
  refine Ev.i2b dJ1_indexOfChar_4cfef_1 (i2b_small hn) ?_
  refine Ev.ist4 dJ1_indexOfChar_4cfef_2 rfl ?_
  refine Ev.iload_2 dJ1_indexOfChar_4cfef_4 rfl ?_
  refine Ev.ist5 dJ1_indexOfChar_4cfef_5 rfl ?_
  exact e_indexOfChar_loop 5 0 _ (by omega) rfl
theorem e_J1_indexOf_4cfef {d : Nat} {w : List Ce} {n : Nat} (hn : n < 128) : Ev (d + 1) yJ1_indexOf_4cfef cJ1_indexOf_4cfef (some .int) 0 [some (.ref SV), some (.int (nI n)), some (.int 0), some (.int 5)] [] w (Is (some (.int (kix (nI n)))) w) := by
  refine Ev.iload_1 dJ1_indexOf_4cfef_0 rfl ?_
  refine Ev.callS [.int (nI n)] (e_J1_canEncode_9a6ad (by omega)) dJ1_indexOf_4cfef_1 wl_J1_88 wt_J1_canEncode_9a6ad ok_J1_canEncode_9a6ad rfl (by simp [ev_e, Value.category]) rfl (rest := []) (by decide) rfl (fun r w' h => ?_)
  obtain ⟨rfl, rfl⟩ := h
  refine Ev.if_ne 9 dJ1_indexOf_4cfef_4 (by decide) (fun h => ?_) (fun h => ?_)
  · refine Ev.iload_2 dJ1_indexOf_4cfef_9 rfl ?_
    refine Ev.iconst (v := 0) dJ1_indexOf_4cfef_10 (by decide) ?_
    refine Ev.mmax dJ1_indexOf_4cfef_11 wl_J1_92 (by decide) ?_
    refine Ev.ist2 dJ1_indexOf_4cfef_14 rfl ?_
    refine Ev.iload_3 dJ1_indexOf_4cfef_15 rfl ?_
    refine Ev.aload_0 dJ1_indexOf_4cfef_16 rfl ?_
    refine Ev.salen dJ1_indexOf_4cfef_17 ?_
    refine Ev.mmin dJ1_indexOf_4cfef_18 wl_J1_38 (by decide) ?_
    refine Ev.ist3 dJ1_indexOf_4cfef_21 rfl ?_
    rw [show (if (0 : Int32) < 0 then (0 : Int32) else 0) = 0 from by decide, show (if (5 : Int32) < 5 then (5 : Int32) else 5) = 5 from by decide]
    refine Ev.iload_2 dJ1_indexOf_4cfef_22 rfl ?_
    refine Ev.iload_3 dJ1_indexOf_4cfef_23 rfl ?_
    refine Ev.icmp_lt 29 dJ1_indexOf_4cfef_24 (by decide) (fun h => ?_) (fun h => ?_)
    · refine Ev.aload_0 dJ1_indexOf_4cfef_29 rfl ?_
      refine Ev.iload_1 dJ1_indexOf_4cfef_30 rfl ?_
      refine Ev.iload_2 dJ1_indexOf_4cfef_31 rfl ?_
      refine Ev.iload_3 dJ1_indexOf_4cfef_32 rfl ?_
      refine Ev.callS [.ref SV, .int (nI n), .int 0, .int 5] (e_J1_indexOfChar_4cfef hn) dJ1_indexOf_4cfef_33 wl_J1_95 wt_J1_indexOfChar_4cfef ok_J1_indexOfChar_4cfef rfl (by simp [ev_e, Value.category]) rfl (rest := []) (by decide) rfl (fun r w' h => ?_)
      obtain ⟨rfl, rfl⟩ := h
      refine Ev.iret dJ1_indexOf_4cfef_36 ?_
      exact ⟨rfl, rfl⟩
    · exact absurd (by decide) h
  · exact absurd h (by decide)
theorem e_J0_indexOf_7cf53 {d : Nat} {w : List Ce} {n : Nat} (hn : n < 128) : Ev (d + 2) yJ0_indexOf_7cf53 cJ0_indexOf_7cf53 (some .int) 0 [some (.ref SK), some (.int (nI n)), some (.int 0)] [] w (Is (some (.int (kix (nI n)))) w) := by
  refine Ev.aload_0 dJ0_indexOf_7cf53_0 rfl ?_
  refine Ev.callVS [] e_J0_isLatin1_aae02 dJ0_indexOf_7cf53_1 wl_J0_492 wi_J0_isLatin1_aae02 we_J0_isLatin1_aae02 ok_J0_isLatin1_aae02 rfl rfl (by simp [ev_e, Value.category]) rfl (rest := []) (by decide) rfl (fun r w' h => ?_)
  obtain ⟨rfl, rfl⟩ := h
  refine Ev.if_eq 23 dJ0_indexOf_7cf53_4 (by decide) (fun h => ?_) (fun h => ?_)
  · exact absurd h (by decide)
  refine Ev.aload_0 dJ0_indexOf_7cf53_7 rfl ?_
  refine Ev.getvalue wf_J0_9 dJ0_indexOf_7cf53_8 ?_
  refine Ev.iload_1 dJ0_indexOf_7cf53_11 rfl ?_
  refine Ev.iload_2 dJ0_indexOf_7cf53_12 rfl ?_
  refine Ev.aload_0 dJ0_indexOf_7cf53_13 rfl ?_
  refine Ev.callVS [] e_J0_length_8abf5 dJ0_indexOf_7cf53_14 wl_J0_505 wi_J0_length_8abf5 we_J0_length_8abf5 ok_J0_length_8abf5 rfl rfl (by simp [ev_e, Value.category]) rfl (rest := [.int 0, .int (nI n), .ref SV]) (Nat.le_of_ble_eq_true rfl) rfl (fun r w' h => ?_)
  obtain ⟨rfl, rfl⟩ := h
  refine Ev.callS [.ref SV, .int (nI n), .int 0, .int 5] (e_J1_indexOf_4cfef hn) dJ0_indexOf_7cf53_17 wl_J0_637 wt_J1_indexOf_4cfef ok_J1_indexOf_4cfef rfl (by simp [ev_e, Value.category]) rfl (rest := []) (by decide) rfl (fun r w' h => ?_)
  obtain ⟨rfl, rfl⟩ := h
  refine Ev.goto 36 dJ0_indexOf_7cf53_20 (by decide) ?_
  refine Ev.iret dJ0_indexOf_7cf53_36 ?_
  exact ⟨rfl, rfl⟩
theorem e_J0_indexOf_0f7a4 {d : Nat} {w : List Ce} {n : Nat} (hn : n < 128) : Ev (d + 3) yJ0_indexOf_0f7a4 cJ0_indexOf_0f7a4 (some .int) 0 [some (.ref SK), some (.int (nI n))] [] w (Is (some (.int (kix (nI n)))) w) := by
  refine Ev.aload_0 dJ0_indexOf_0f7a4_0 rfl ?_
  refine Ev.iload_1 dJ0_indexOf_0f7a4_1 rfl ?_
  refine Ev.iconst (v := 0) dJ0_indexOf_0f7a4_2 (by decide) ?_
  refine Ev.callVS [.int (nI n), .int 0] (e_J0_indexOf_7cf53 hn) dJ0_indexOf_0f7a4_3 wl_J0_633 wi_J0_indexOf_7cf53 we_J0_indexOf_7cf53 ok_J0_indexOf_7cf53 rfl rfl (by simp [ev_e, Value.category]) rfl (rest := []) (by decide) rfl (fun r w' h => ?_)
  obtain ⟨rfl, rfl⟩ := h
  refine Ev.iret dJ0_indexOf_0f7a4_6 ?_
  exact ⟨rfl, rfl⟩
theorem i2c_small {n : Nat} (hn : n < 128) : ((nI n).toUInt32 % 65536).toInt32 = nI n := by
  have h : ∀ n : Fin 128, ((nI n.val).toUInt32 % 65536).toInt32 = nI n.val := by decide +kernel
  exact h ⟨n, hn⟩
/-- indexOf, called from the page -/
theorem k_kix {d : Nat} {y : MethodName} {cc : ByteArray} {ret : Option FieldType} {pc n i : Nat} {ls : List (Option Value)} {rest : List Value} {w : List Ce} {Q : Option Value → List Ce → Prop} (hn : n < 128) (hd : decode cc pc = .ok (.invokevirtual i, 3)) (hlk : Cond.methodLink y.cls i yJ0_indexOf_0f7a4 ∈ wsG) (hr : (rest.map fun v => v.category).sum ≤ 8) (k : Ev (d + 4) y cc ret (pc + 3) ls (.int (kix (nI n)) :: rest) w Q) : Ev (d + 4) y cc ret pc ls (.int (nI n) :: .ref SK :: rest) w Q := by
  refine Ev.callVS [.int (nI n)] (e_J0_indexOf_0f7a4 hn) hd hlk wi_J0_indexOf_0f7a4 we_J0_indexOf_0f7a4 ok_J0_indexOf_0f7a4 rfl rfl (by simp [ev_e, Value.category]) rfl hr rfl (fun r w' h => ?_)
  obtain ⟨rfl, rfl⟩ := h
  exact k
