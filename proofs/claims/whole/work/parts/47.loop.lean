theorem lw_sub5 {L : Nat} (h : L ≤ 2560) : (Int32.ofNat L - 5).toInt = (L : Int) - 5 := by
  have e1 : (Int32.ofNat L).toInt = (L : Int) := nI_toInt (n := L) (by omega)
  rw [Int32.toInt_sub, e1, show (5 : Int32).toInt = 5 from by decide]
  exact Int.bmod_eq_of_le (by omega) (by omega)
/-! the law: its loop, its start -/
section LAWL
variable {p : Program} {l : Launch} {e : Env} {s : State} {m : MethodId} {below : List Frame} {meth : Method} {c : Code} {b L : Nat} {xs : Nat → Int32} {D : va_G} {cy : Nat → ClassId} {sa sv : Nat} {a1 a2 : Nat → Nat}
theorem lw_end {H : Heap} {locs : List Loc} {ls : Array Slot} (C : lw_C p s m meth c b L xs D cy sa sv) (S : va_S (lw_new s) s.heap H locs) : W p l e room_1 s m #[Value.ref b] below meth c H locs 600000 7302250 (lw_Z below #[Value.ref b] s) (F0 m 829 ls []) := by
  obtain ⟨⟨hx, hb, hrt, hml, hown, hts, hX, hbl, hlocks, hgv⟩, ht, hF, hSt, hL⟩ := C
  refine va_forget (fun q hq => S.2.2 q hq) ?_
  refine lv_iconst (v := 1) hx hb dL_law_829 (by decide) ?_
  exact lw_ret hx hb hrt hlocks dL_law_830
theorem lw_sw {n i : Nat} (C : lw_C p s m meth c b L xs D cy sa sv) (hi : i + 5 ≤ L) (hn : n < 100000) (nx : LK p l e s m below meth c D cy sa sv a1 a2 b (n + 1) i 823) {wc wm : List Ce} {H : Heap} {locs : List Loc} {ls : Array Slot} (J : LJ D cy sa sv s a1 a2 b n i wc wm H locs ls) {x : Int32} : W p l e room_1 s m #[Value.ref b] below meth c H locs 600000 7302250 (lw_Z below #[Value.ref b] s) (F0 m 32 ls [.int x]) := by
  have hx := C.1.1
  have hb := C.1.2.1
  by_cases ho : x.toInt < 0 ∨ 23 < x.toInt
  · exact lv_tableOut (tgt := 823) hx hb dL_law_32 ho (by decide) (nx wc wm H locs ls ⟨J.1.up, J.2⟩)
  · have h1 : ¬ x.toInt < 0 := fun z => ho (Or.inl z)
    have h2 : ¬ 23 < x.toInt := fun z => ho (Or.inr z)
    obtain ⟨j, hj, hj24⟩ : ∃ j : Nat, x.toInt = (j : Int) ∧ j < 24 := ⟨x.toInt.toNat, by omega, by omega⟩
    match j, hj, hj24 with
    | 0, hj, _ => exact lv_tableIn (tgt := 144) (off := 112) hx hb dL_law_32 h1 h2 (by rw [hj]; rfl) (by decide) (lc_letter C hi hn nx wc wm H locs ls J)
    | 1, hj, _ => exact lv_tableIn (tgt := 167) (off := 135) hx hb dL_law_32 h1 h2 (by rw [hj]; rfl) (by decide) (lc_blank C hi hn nx wc wm H locs ls J)
    | 2, hj, _ => exact lv_tableIn (tgt := 180) (off := 148) hx hb dL_law_32 h1 h2 (by rw [hj]; rfl) (by decide) (lc_fault C hi hn nx wc wm H locs ls J)
    | 3, hj, _ => exact lv_tableIn (tgt := 193) (off := 161) hx hb dL_law_32 h1 h2 (by rw [hj]; rfl) (by decide) (lc_table C hi hn nx wc wm H locs ls J)
    | 4, hj, _ => exact lv_tableIn (tgt := 206) (off := 174) hx hb dL_law_32 h1 h2 (by rw [hj]; rfl) (by decide) (lc_weight C hi hn nx wc wm H locs ls J)
    | 5, hj, _ => exact lv_tableIn (tgt := 239) (off := 207) hx hb dL_law_32 h1 h2 (by rw [hj]; rfl) (by decide) (lc_as C hi hn nx wc wm H locs ls J)
    | 6, hj, _ => exact lv_tableIn (tgt := 272) (off := 240) hx hb dL_law_32 h1 h2 (by rw [hj]; rfl) (by decide) (lc_village C hi hn nx wc wm H locs ls J)
    | 7, hj, _ => exact lv_tableIn (tgt := 305) (off := 273) hx hb dL_law_32 h1 h2 (by rw [hj]; rfl) (by decide) (lc_lifts C hi hn nx wc wm H locs ls J)
    | 8, hj, _ => exact lv_tableIn (tgt := 348) (off := 316) hx hb dL_law_32 h1 h2 (by rw [hj]; rfl) (by decide) (lc_blow C hi hn nx wc wm H locs ls J)
    | 9, hj, _ => exact lv_tableIn (tgt := 381) (off := 349) hx hb dL_law_32 h1 h2 (by rw [hj]; rfl) (by decide) (lc_put C hi hn nx wc wm H locs ls J)
    | 10, hj, _ => exact lv_tableIn (tgt := 424) (off := 392) hx hb dL_law_32 h1 h2 (by rw [hj]; rfl) (by decide) (lc_lift C hi hn nx wc wm H locs ls J)
    | 11, hj, _ => exact lv_tableIn (tgt := 447) (off := 415) hx hb dL_law_32 h1 h2 (by rw [hj]; rfl) (by decide) (lc_cut C hi hn nx wc wm H locs ls J)
    | 12, hj, _ => exact lv_tableIn (tgt := 480) (off := 448) hx hb dL_law_32 h1 h2 (by rw [hj]; rfl) (by decide) (lc_build C hi hn nx wc wm H locs ls J)
    | 13, hj, _ => exact lv_tableIn (tgt := 513) (off := 481) hx hb dL_law_32 h1 h2 (by rw [hj]; rfl) (by decide) (lc_where C hi hn nx wc wm H locs ls J)
    | 14, hj, _ => exact lv_tableIn (tgt := 556) (off := 524) hx hb dL_law_32 h1 h2 (by rw [hj]; rfl) (by decide) (lc_pack C hi hn nx wc wm H locs ls J)
    | 15, hj, _ => exact lv_tableIn (tgt := 589) (off := 557) hx hb dL_law_32 h1 h2 (by rw [hj]; rfl) (by decide) (lc_mend C hi hn nx wc wm H locs ls J)
    | 16, hj, _ => exact lv_tableIn (tgt := 602) (off := 570) hx hb dL_law_32 h1 h2 (by rw [hj]; rfl) (by decide) (lc_odds C hi hn nx wc wm H locs ls J)
    | 17, hj, _ => exact lv_tableIn (tgt := 635) (off := 603) hx hb dL_law_32 h1 h2 (by rw [hj]; rfl) (by decide) (lc_see C hi hn nx wc wm H locs ls J)
    | 18, hj, _ => exact lv_tableIn (tgt := 704) (off := 672) hx hb dL_law_32 h1 h2 (by rw [hj]; rfl) (by decide) (lc_forget C hi hn nx wc wm H locs ls J)
    | 19, hj, _ => exact lv_tableIn (tgt := 717) (off := 685) hx hb dL_law_32 h1 h2 (by rw [hj]; rfl) (by decide) (lc_decades C hi hn nx wc wm H locs ls J)
    | 20, hj, _ => exact lv_tableIn (tgt := 760) (off := 728) hx hb dL_law_32 h1 h2 (by rw [hj]; rfl) (by decide) (lc_image C hi hn nx wc wm H locs ls J)
    | 21, hj, _ => exact lv_tableIn (tgt := 773) (off := 741) hx hb dL_law_32 h1 h2 (by rw [hj]; rfl) (by decide) (lc_restore C hi hn nx wc wm H locs ls J)
    | 22, hj, _ => exact lv_tableIn (tgt := 786) (off := 754) hx hb dL_law_32 h1 h2 (by rw [hj]; rfl) (by decide) (lc_count C hi hn nx wc wm H locs ls J)
    | 23, hj, _ => exact lv_tableIn (tgt := 809) (off := 777) hx hb dL_law_32 h1 h2 (by rw [hj]; rfl) (by decide) (lc_digest C hi hn nx wc wm H locs ls J)
    | j + 24, _, h => exact absurd h (by omega)
theorem lw_loop (C : lw_C p s m meth c b L xs D cy sa sv) : ∀ (f n i : Nat), L < i + 5 * f → i ≤ L → n ≤ i → LK p l e s m below meth c D cy sa sv a1 a2 b n i 18
  | 0, n, i, h, hiL, _ => absurd h (by omega)
  | f + 1, n, i, h, hiL, hni => by
    intro wc wm H locs ls J
    have hx := C.1.1
    have hb := C.1.2.1
    have hX := C.1.2.2.2.2.2.2.1
    have hbl := C.1.2.2.2.2.2.2.2.1
    have hL := C.2.2.2.2
    have S := J.2.2.1
    have hl := J.2.2.2
    refine lv_iload_n hx hb dL_law_18 rfl (lv_at hl 3 rfl) ?_
    refine lv_aload_n hx hb dL_law_19 rfl (lv_at hl 0 rfl) ?_
    refine va_slen hx hb hX hbl (Nat.not_le.mpr hbl) S dL_law_20 ?_
    refine lv_iconst (v := 5) hx hb dL_law_21 (by decide) ?_
    refine lv_isub hx hb dL_law_22 ?_
    have eL : (Int32.ofNat L - 5).toInt = (L : Int) - 5 := lw_sub5 hL
    refine lv_icmp_gt (tgt := 829) hx hb dL_law_23 (by decide) (fun _ => lw_end C S) (fun hle => ?_)
    have hi : i + 5 ≤ L := by
      rw [i32_lt, eL, nI_toInt (by omega)] at hle
      omega
    refine lv_aload_n hx hb dL_law_26 rfl (lv_at hl 0 rfl) ?_
    refine lv_iload_n hx hb dL_law_27 rfl (lv_at hl 3 rfl) ?_
    refine va_sld hx hb hX hbl (Nat.not_le.mpr hbl) S (vp_in_nI (by omega) (by omega)) dL_law_28 ?_
    refine lv_bipush (v := 31) hx hb dL_law_29 (by decide) ?_
    refine lv_iand hx hb dL_law_31 ?_
    refine lw_sw C hi (by omega) ?_ J
    intro wc1 wm1 H1 locs1 ls1 J1
    refine lv_iinc (v := nI (i + 5)) (k := 3) (lv' := [(3, .int (nI (i + 5))), (0, .ref b), (1, .ref (a1 0)), (2, .ref (a2 0))]) hx hb dL_law_823 J1.2.2.2 rfl (nI_add i 5) (by decide) rfl (fun ls2 hl2 => ?_)
    refine lv_goto (tgt := 18) hx hb dL_law_826 (by decide) ?_
    exact lw_loop C f (n + 1) (i + 5) (by omega) hi (by omega) wc1 wm1 H1 locs1 ls2 ⟨J1.1, J1.2.1, J1.2.2.1, lv_sub hl2 [1, 2, 3, 0] rfl⟩
end LAWL
