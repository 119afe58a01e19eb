def cpS (S2 : Nat → Nat → Int32) : Nat → Nat → (Nat → Nat → Int32) → Nat → Nat → Int32
  | 0, _, SF => SF
  | n + 1, k, SF => cpS S2 n (k + 1) (up2 (up2 (up2 (up2 SF 1 k (S2 1 k)) 2 k (S2 2 k)) 3 k (S2 3 k)) 4 k (vp_nar .boolean (S2 4 k)))
def poI (X : Nat → Nat → Int32) (N w : Nat) (side force lf : Int32) : Nat → Nat → Int32 → Int32
  | 0, _, b => b
  | n + 1, h, b => poI X N w side force lf n (h + 1) (if lifs (hio X N w (nI h) side) force = lf then b else b &&& (((1 : Int32) <<< ((nI h - 1) &&& 31)) ^^^ (-1)))
def poF (X SF : Nat → Nat → Int32) (N w : Nat) : Nat → Nat → Int32 → Int32
  | 0, _, b => b
  | n + 1, i, b => poF X SF N w n (i + 1) (if SF 1 i = nI w then poI X N w (SF 2 i) (SF 3 i) (SF 4 i) 9 1 b else b)
/-- possibleOunces -/
def po (X SF : Nat → Nat → Int32) (N K w : Nat) : Int32 := if X 3 w = -1 then 511 else poF X SF N w K 0 511
def fhF (X : Nat → Nat → Int32) (N w : Nat) (side : Int32) : Nat → Nat → (Nat → Nat → Int32) → Nat → Nat → Int32
  | 0, _, SF => SF
  | n + 1, h, SF => fhF X N w side n (h + 1) (up2 SF 5 h (hio X N w (nI h) side))
def fh (X : Nat → Nat → Int32) (N w : Nat) (side : Int32) (SF : Nat → Nat → Int32) : Nat → Nat → Int32 := fhF X N w side 9 1 SF
def lwF (hs : Nat → Int32) (p force : Int32) : Nat → Nat → Int32 → Int32
  | 0, _, c => c
  | n + 1, h, c => lwF hs p force n (h + 1) (if ¬ (p >>> ((nI h - 1) &&& 31)) &&& 1 = 1 ∨ lifs (hs h) force = 0 then c else c + 1)
/-- leftAtWorst -/
def lw (hs : Nat → Int32) (p force : Int32) : Int32 := jmax (lwF hs p force 9 1 0) (bitc p - lwF hs p force 9 1 0)
def wwI (hs : Nat → Int32) (p side : Int32) : Nat → Nat → Int32 → Int32 → Int32 × Int32
  | 0, _, b, fw => (b, fw)
  | n + 1, f, b, fw => if fw ≤ lw hs p (nI f) then wwI hs p side n (f + 1) b fw else wwI hs p side n (f + 1) (100 * side + nI f) (lw hs p (nI f))
/-- windToWaitFor: what it answers, the holds behind it -/
def wwS (X SF : Nat → Nat → Int32) (N K w : Nat) : Nat → Nat → Int32 := if po X SF N K w = 0 ∨ X 3 w = -1 then SF else fh X N w 1 (fh X N w 0 SF)
def ww (X SF : Nat → Nat → Int32) (N K w : Nat) : Int32 := if po X SF N K w = 0 ∨ X 3 w = -1 then -1 else (wwI (fh X N w 1 (fh X N w 0 SF) 5) (po X SF N K w) 1 100 0 (wwI (fh X N w 0 SF 5) (po X SF N K w) 0 100 0 (-1) 10).1 (wwI (fh X N w 0 SF 5) (po X SF N K w) 0 100 0 (-1) 10).2).1

set_option maxHeartbeats 4000000 in
set_option maxRecDepth 100000 in
theorem e_X3_append {d : Nat} {s : Nat → Int32} {SF : Nat → Nat → Int32} {K : Nat} (hK : s 0 = nI K) (h8 : K < 8) (a b c z : Int32) : Ev d yX3_append cX3_append none 0 [some (.ref 0), some (.int a), some (.int b), some (.int c), some (.int z)] [] (seenW s SF) (Is none (seenW (upd s 0 (nI (K + 1))) (up2 (up2 (up2 (up2 SF 1 K a) 2 K b) 3 K c) 4 K (vp_nar .boolean z)))) := by
  refine Ev.aload_0 dX3_append_0 rfl ?_
  refine Ev.getf cf3 0 (by decide) wf_X3_9 dX3_append_1 rfl rfl ?_
  refine Ev.bipush (v := 8) dX3_append_4 (by decide) ?_
  refine Ev.icmp_ge 60 dX3_append_6 (by decide) (fun h6 => ?_) (fun h6 => ?_)
  · exact absurd h6 (by rw [hK]; exact lp_ge (x := 8) (N := 8) rfl h8 (by decide))
  refine Ev.aload_0 dX3_append_9 rfl ?_
  refine Ev.getf cf3 1 (by decide) wf_X3_15 dX3_append_10 rfl rfl ?_
  refine Ev.aload_0 dX3_append_13 rfl ?_
  refine Ev.getf cf3 0 (by decide) wf_X3_9 dX3_append_14 rfl rfl ?_
  rw [hK]
  refine Ev.iload_1 dX3_append_17 rfl ?_
  refine aw_seenW_1 dX3_append_18 (by omega) ?_
  refine Ev.aload_0 dX3_append_19 rfl ?_
  refine Ev.getf cf3 2 (by decide) wf_X3_19 dX3_append_20 rfl rfl ?_
  refine Ev.aload_0 dX3_append_23 rfl ?_
  refine Ev.getf cf3 0 (by decide) wf_X3_9 dX3_append_24 rfl rfl ?_
  rw [hK]
  refine Ev.iload_2 dX3_append_27 rfl ?_
  refine aw_seenW_2 dX3_append_28 (by omega) ?_
  refine Ev.aload_0 dX3_append_29 rfl ?_
  refine Ev.getf cf3 3 (by decide) wf_X3_22 dX3_append_30 rfl rfl ?_
  refine Ev.aload_0 dX3_append_33 rfl ?_
  refine Ev.getf cf3 0 (by decide) wf_X3_9 dX3_append_34 rfl rfl ?_
  rw [hK]
  refine Ev.iload_3 dX3_append_37 rfl ?_
  refine aw_seenW_3 dX3_append_38 (by omega) ?_
  refine Ev.aload_0 dX3_append_39 rfl ?_
  refine Ev.getf cf3 4 (by decide) wf_X3_25 dX3_append_40 rfl rfl ?_
  refine Ev.aload_0 dX3_append_43 rfl ?_
  refine Ev.getf cf3 0 (by decide) wf_X3_9 dX3_append_44 rfl rfl ?_
  rw [hK]
  refine Ev.iload dX3_append_47 rfl ?_
  refine aw_seenW_4 dX3_append_49 (by omega) ?_
  refine Ev.aload_0 dX3_append_50 rfl ?_
  refine Ev.dup dX3_append_51 rfl ?_
  refine Ev.getf cf3 0 (by decide) wf_X3_9 dX3_append_52 rfl rfl ?_
  refine Ev.iconst (v := 1) dX3_append_55 (by decide) ?_
  refine Ev.iadd dX3_append_56 ?_
  rw [hK, nI_1]
  refine pw_seenW_0_0 dX3_append_57 wf_X3_9 ?_
  refine Ev.vret dX3_append_60 ?_
  exact ⟨rfl, rfl⟩

set_option maxHeartbeats 4000000 in
set_option maxRecDepth 100000 in
theorem e_copyS_loop {d : Nat} {s s2 : Nat → Int32} {S2 : Nat → Nat → Int32} {Q : Option Value → List Ce → Prop}  : ∀ (n : Nat) (k : Nat) (SF R : Nat → Nat → Int32), k + n = 8 → cpS S2 n k SF = R → Ev d yX3_copyFrom cX3_copyFrom none 70 [some (.ref 0), some (.ref 6), some (.int (nI 8))] [] (seenSeenW s R s2 S2) Q → Ev d yX3_copyFrom cX3_copyFrom none 10 [some (.ref 0), some (.ref 6), some (.int (nI k))] [] (seenSeenW s SF s2 S2) Q := by
  intro n
  induction n with
  | zero =>
    intro k SF R hk hR K
    have hk : k = 8 := by omega
    subst hk
    have hR : SF = R := hR
    subst hR
    refine Ev.iload_2 dX3_copyFrom_10 rfl ?_
    refine Ev.bipush (v := 8) dX3_copyFrom_11 (by decide) ?_
    refine Ev.icmp_ge 70 dX3_copyFrom_13 (by decide) (fun h13 => ?_) (fun h13 => ?_)
    · exact K
    · exact absurd (lp_le (x := 8) (N := 8) rfl (by omega) (by omega)) h13
  | succ n ih =>
    intro k SF R hk hR K
    refine Ev.iload_2 dX3_copyFrom_10 rfl ?_
    refine Ev.bipush (v := 8) dX3_copyFrom_11 (by decide) ?_
    refine Ev.icmp_ge 70 dX3_copyFrom_13 (by decide) (fun h13 => ?_) (fun h13 => ?_)
    · exact absurd h13 (lp_ge (x := 8) (N := 8) rfl (by omega) (by omega))
    refine Ev.aload_0 dX3_copyFrom_16 rfl ?_
    refine Ev.getf cf3 1 (by decide) wf_X3_15 dX3_copyFrom_17 rfl rfl ?_
    refine Ev.iload_2 dX3_copyFrom_20 rfl ?_
    refine Ev.aload_1 dX3_copyFrom_21 rfl ?_
    refine Ev.getf cf3 1 (by decide) wf_X3_15 dX3_copyFrom_22 rfl rfl ?_
    refine Ev.iload_2 dX3_copyFrom_25 rfl ?_
    refine Ev.aldn dX3_copyFrom_26 rfl (by omega) (by decide) ?_
    refine aw_seenSeenW_1 dX3_copyFrom_27 (by omega) ?_
    refine Ev.aload_0 dX3_copyFrom_28 rfl ?_
    refine Ev.getf cf3 2 (by decide) wf_X3_19 dX3_copyFrom_29 rfl rfl ?_
    refine Ev.iload_2 dX3_copyFrom_32 rfl ?_
    refine Ev.aload_1 dX3_copyFrom_33 rfl ?_
    refine Ev.getf cf3 2 (by decide) wf_X3_19 dX3_copyFrom_34 rfl rfl ?_
    refine Ev.iload_2 dX3_copyFrom_37 rfl ?_
    refine Ev.aldn dX3_copyFrom_38 rfl (by omega) (by decide) ?_
    refine aw_seenSeenW_2 dX3_copyFrom_39 (by omega) ?_
    refine Ev.aload_0 dX3_copyFrom_40 rfl ?_
    refine Ev.getf cf3 3 (by decide) wf_X3_22 dX3_copyFrom_41 rfl rfl ?_
    refine Ev.iload_2 dX3_copyFrom_44 rfl ?_
    refine Ev.aload_1 dX3_copyFrom_45 rfl ?_
    refine Ev.getf cf3 3 (by decide) wf_X3_22 dX3_copyFrom_46 rfl rfl ?_
    refine Ev.iload_2 dX3_copyFrom_49 rfl ?_
    refine Ev.aldn dX3_copyFrom_50 rfl (by omega) (by decide) ?_
    refine aw_seenSeenW_3 dX3_copyFrom_51 (by omega) ?_
    refine Ev.aload_0 dX3_copyFrom_52 rfl ?_
    refine Ev.getf cf3 4 (by decide) wf_X3_25 dX3_copyFrom_53 rfl rfl ?_
    refine Ev.iload_2 dX3_copyFrom_56 rfl ?_
    refine Ev.aload_1 dX3_copyFrom_57 rfl ?_
    refine Ev.getf cf3 4 (by decide) wf_X3_25 dX3_copyFrom_58 rfl rfl ?_
    refine Ev.iload_2 dX3_copyFrom_61 rfl ?_
    refine Ev.zaldn dX3_copyFrom_62 rfl (by omega) (by decide) ?_
    refine aw_seenSeenW_4 dX3_copyFrom_63 (by omega) ?_
    first | refine Ev.incn2 dX3_copyFrom_64 rfl ?_ | refine Ev.inc2 dX3_copyFrom_64 rfl ?_
    refine Ev.goto 10 dX3_copyFrom_67 (by decide) ?_
    exact ih (k + 1) _ R (by omega) (by rw [← hR]; rfl) K

set_option maxHeartbeats 4000000 in
set_option maxRecDepth 100000 in
theorem e_X3_copyFrom {d : Nat} {s s2 : Nat → Int32} {SF S2 : Nat → Nat → Int32}  : Ev d yX3_copyFrom cX3_copyFrom none 0 [some (.ref 0), some (.ref 6), none] [] (seenSeenW s SF s2 S2) (Is none (seenSeenW (upd s 0 (s2 0)) (cpS S2 8 0 SF) s2 S2)) := by
  refine Ev.aload_0 dX3_copyFrom_0 rfl ?_
  refine Ev.aload_1 dX3_copyFrom_1 rfl ?_
  refine Ev.getf cf3 0 (by decide) wf_X3_9 dX3_copyFrom_2 rfl rfl ?_
  refine pw_seenSeenW_0_0 dX3_copyFrom_5 wf_X3_9 ?_
  refine Ev.iconst (v := 0) dX3_copyFrom_8 (by decide) ?_
  refine Ev.ist2 dX3_copyFrom_9 rfl ?_
  exact e_copyS_loop 8 0 _ _ (by omega) rfl (Ev.vret dX3_copyFrom_70 ⟨rfl, rfl⟩)

set_option maxHeartbeats 4000000 in
set_option maxRecDepth 100000 in
theorem e_po_in {d : Nat} {s l : Nat → Int32} {SF LF : Nat → Nat → Int32} {V N w : Nat} (ok : LOK l LF V N) (hw : w < N) {i : Nat} {Q : Option Value → List Ce → Prop} (hi : i < 8) (hwi : SF 1 i = nI w)  : ∀ (n : Nat) (h : Nat) (b R : Int32), h + n = 10 → poI (vC LF) N w (SF 2 i) (SF 3 i) (SF 4 i) n h b = R → Ev (d + 3) yX3_possibleOunces cX3_possibleOunces (some .int) 100 [some (.ref 0), some (.ref 6), some (.int (nI w)), some (.int R), some (.int (nI i)), some (.int (nI 10))] [] (seenLandW s SF l LF) Q → Ev (d + 3) yX3_possibleOunces cX3_possibleOunces (some .int) 31 [some (.ref 0), some (.ref 6), some (.int (nI w)), some (.int b), some (.int (nI i)), some (.int (nI h))] [] (seenLandW s SF l LF) Q := by
  intro n
  induction n with
  | zero =>
    intro h b R hk hR K
    have hk : h = 10 := by omega
    subst hk
    have hR : b = R := hR
    subst hR
    refine Ev.iload dX3_possibleOunces_31 rfl ?_
    refine Ev.bipush (v := 9) dX3_possibleOunces_33 (by decide) ?_
    refine Ev.icmp_gt 100 dX3_possibleOunces_35 (by decide) (fun h35 => ?_) (fun h35 => ?_)
    · exact K
    · exact absurd (lp_lt (x := 9) (N := 9) rfl (by omega) (by omega)) h35
  | succ n ih =>
    intro h b R hk hR K
    refine Ev.iload dX3_possibleOunces_31 rfl ?_
    refine Ev.bipush (v := 9) dX3_possibleOunces_33 (by decide) ?_
    refine Ev.icmp_gt 100 dX3_possibleOunces_35 (by decide) (fun h35 => ?_) (fun h35 => ?_)
    · exact absurd h35 (lp_gt (x := 9) (N := 9) rfl (by omega) (by omega))
    refine Ev.aload_0 dX3_possibleOunces_38 rfl ?_
    refine Ev.getf cf3 1 (by decide) wf_X3_15 dX3_possibleOunces_39 rfl rfl ?_
    refine Ev.iload dX3_possibleOunces_42 rfl ?_
    refine Ev.aldn dX3_possibleOunces_44 rfl (by omega) (by decide) ?_
    refine Ev.iload_2 dX3_possibleOunces_45 rfl ?_
    refine Ev.icmp_ne 100 dX3_possibleOunces_46 (by decide) (fun h46 => ?_) (fun h46 => ?_)
    · exact absurd hwi h46
    refine Ev.aload_1 dX3_possibleOunces_49 rfl ?_
    refine Ev.iload_2 dX3_possibleOunces_50 rfl ?_
    refine Ev.iload dX3_possibleOunces_51 rfl ?_
    refine Ev.aload_0 dX3_possibleOunces_53 rfl ?_
    refine Ev.getf cf3 2 (by decide) wf_X3_19 dX3_possibleOunces_54 rfl rfl ?_
    refine Ev.iload dX3_possibleOunces_57 rfl ?_
    refine Ev.aldn dX3_possibleOunces_59 rfl (by omega) (by decide) ?_
    refine kp_X0_holdIfOunces [6, 7, 8, 9, 10, 11, 12] (e_X0_holdIfOunces ok hw _ _) dX3_possibleOunces_60 wl_X3_37 rfl (Nat.le_of_ble_eq_true rfl) rfl (by decide) ⟨rfl, rfl⟩ rfl ?_
    refine Ev.aload_0 dX3_possibleOunces_63 rfl ?_
    refine Ev.getf cf3 3 (by decide) wf_X3_22 dX3_possibleOunces_64 rfl rfl ?_
    refine Ev.iload dX3_possibleOunces_67 rfl ?_
    refine Ev.aldn dX3_possibleOunces_69 rfl (by omega) (by decide) ?_
    refine kn_X4_liftsAt (e_X4_liftsAt _ _) dX3_possibleOunces_70 (fun D cy s h => h.2.2.2.2.2.2.2.2) (Nat.le_of_ble_eq_true rfl) ?_
    refine Ev.aload_0 dX3_possibleOunces_73 rfl ?_
    refine Ev.getf cf3 4 (by decide) wf_X3_25 dX3_possibleOunces_74 rfl rfl ?_
    refine Ev.iload dX3_possibleOunces_77 rfl ?_
    refine Ev.zaldn dX3_possibleOunces_79 rfl (by omega) (by decide) ?_
    refine Ev.icmp_eq 94 dX3_possibleOunces_80 (by decide) (fun h80 => ?_) (fun h80 => ?_)
    · first | refine Ev.incn5 dX3_possibleOunces_94 rfl ?_ | refine Ev.inc5 dX3_possibleOunces_94 rfl ?_
      refine Ev.goto 31 dX3_possibleOunces_97 (by decide) ?_
      exact ih (h + 1) _ R (by omega) (by rw [← hR, poI]; simp [*]) K
    refine Ev.iload_3 dX3_possibleOunces_83 rfl ?_
    refine Ev.iconst (v := 1) dX3_possibleOunces_84 (by decide) ?_
    refine Ev.iload dX3_possibleOunces_85 rfl ?_
    refine Ev.iconst (v := 1) dX3_possibleOunces_87 (by decide) ?_
    refine Ev.isub dX3_possibleOunces_88 ?_
    refine Ev.ishl dX3_possibleOunces_89 ?_
    refine Ev.iconst (v := -1) dX3_possibleOunces_90 (by decide) ?_
    refine Ev.ixor dX3_possibleOunces_91 ?_
    refine Ev.iand dX3_possibleOunces_92 ?_
    refine Ev.ist3 dX3_possibleOunces_93 rfl ?_
    first | refine Ev.incn5 dX3_possibleOunces_94 rfl ?_ | refine Ev.inc5 dX3_possibleOunces_94 rfl ?_
    refine Ev.goto 31 dX3_possibleOunces_97 (by decide) ?_
    exact ih (h + 1) _ R (by omega) (by rw [← hR, poI]; simp [*]) K

set_option maxHeartbeats 4000000 in
set_option maxRecDepth 100000 in
theorem e_po_out {d : Nat} {s l : Nat → Int32} {SF LF : Nat → Nat → Int32} {V N K w : Nat} (ok : LOK l LF V N) (hw : w < N) (hK : s 0 = nI K) (h8 : K ≤ 8) {Q : Option Value → List Ce → Prop} : ∀ (n i : Nat) (b R : Int32) (x : Option Value), lok [some (.ref 0), some (.ref 6), some (.int (nI w)), some (.int b), some (.int (nI i)), x] 5 = true → i + n = K → poF (vC LF) SF N w n i b = R → (∀ x : Option Value, Ev (d + 3) yX3_possibleOunces cX3_possibleOunces (some .int) 106 [some (.ref 0), some (.ref 6), some (.int (nI w)), some (.int R), some (.int (nI K)), x] [] (seenLandW s SF l LF) Q) → Ev (d + 3) yX3_possibleOunces cX3_possibleOunces (some .int) 19 [some (.ref 0), some (.ref 6), some (.int (nI w)), some (.int b), some (.int (nI i)), x] [] (seenLandW s SF l LF) Q := by
  intro n
  induction n with
  | zero =>
    intro i b R x hx hk hR Kh
    have hk : i = K := by omega
    subst hk
    have hR : b = R := hR
    subst hR
    refine Ev.iload dX3_possibleOunces_19 rfl ?_
    refine Ev.aload_0 dX3_possibleOunces_21 rfl ?_
    refine Ev.getf cf3 0 (by decide) wf_X3_9 dX3_possibleOunces_22 rfl rfl ?_
    refine Ev.icmp_ge 106 dX3_possibleOunces_25 (by decide) (fun h25 => ?_) (fun h25 => ?_)
    · exact Kh _
    · exact absurd (lp_le hK (by omega) (by omega)) h25
  | succ n ih =>
    intro i b R x hx hk hR Kh
    refine Ev.iload dX3_possibleOunces_19 rfl ?_
    refine Ev.aload_0 dX3_possibleOunces_21 rfl ?_
    refine Ev.getf cf3 0 (by decide) wf_X3_9 dX3_possibleOunces_22 rfl rfl ?_
    refine Ev.icmp_ge 106 dX3_possibleOunces_25 (by decide) (fun h25 => ?_) (fun h25 => ?_)
    · exact absurd h25 (lp_ge hK (by omega) (by omega))
    refine Ev.iconst (v := 1) dX3_possibleOunces_28 (by decide) ?_
    refine Ev.ist5 dX3_possibleOunces_29 rfl ?_
    by_cases hwi : SF 1 i = nI w
    · refine e_po_in ok hw (by omega) hwi 9 1 b _ (by omega) rfl ?_
      first | refine Ev.incn4 dX3_possibleOunces_100 rfl ?_ | refine Ev.inc4 dX3_possibleOunces_100 rfl ?_
      refine Ev.goto 19 dX3_possibleOunces_103 (by decide) ?_
      exact ih (i + 1) _ R _ rfl (by omega) (by rw [← hR, poF, if_pos hwi]) Kh
    · refine Ev.iload dX3_possibleOunces_31 rfl ?_
      refine Ev.bipush (v := 9) dX3_possibleOunces_33 (by decide) ?_
      refine Ev.icmp_gt 100 dX3_possibleOunces_35 (by decide) (fun h35 => ?_) (fun h35 => ?_)
      · exact absurd h35 (by decide)
      refine Ev.aload_0 dX3_possibleOunces_38 rfl ?_
      refine Ev.getf cf3 1 (by decide) wf_X3_15 dX3_possibleOunces_39 rfl rfl ?_
      refine Ev.iload dX3_possibleOunces_42 rfl ?_
      refine Ev.aldn dX3_possibleOunces_44 rfl (by omega) (by decide) ?_
      refine Ev.iload_2 dX3_possibleOunces_45 rfl ?_
      refine Ev.icmp_ne 100 dX3_possibleOunces_46 (by decide) (fun h46 => ?_) (fun h46 => ?_)
      · first | refine Ev.incn4 dX3_possibleOunces_100 rfl ?_ | refine Ev.inc4 dX3_possibleOunces_100 rfl ?_
        refine Ev.goto 19 dX3_possibleOunces_103 (by decide) ?_
        exact ih (i + 1) _ R _ rfl (by omega) (by rw [← hR, poF, if_neg hwi]) Kh
      · exact absurd h46 hwi

set_option maxHeartbeats 4000000 in
set_option maxRecDepth 100000 in
theorem e_X3_possibleOunces {d : Nat} {s l : Nat → Int32} {SF LF : Nat → Nat → Int32} {V N K w : Nat} (ok : LOK l LF V N) (hw : w < N) (hK : s 0 = nI K) (h8 : K ≤ 8)  : Ev (d + 3) yX3_possibleOunces cX3_possibleOunces (some .int) 0 [some (.ref 0), some (.ref 6), some (.int (nI w)), none, none, none] [] (seenLandW s SF l LF) (Is (some (.int (po (vC LF) SF N K w))) (seenLandW s SF l LF)) := by
  have hw5 : w < 5 := by have := ok.2.2.2.1; omega
  refine Ev.sipush (v := 511) dX3_possibleOunces_0 (by decide) ?_
  refine Ev.ist3 dX3_possibleOunces_3 rfl ?_
  refine Ev.aload_1 dX3_possibleOunces_4 rfl ?_
  refine Ev.getf cf0 5 (by decide) wf_X3_32 dX3_possibleOunces_5 rfl rfl ?_
  refine Ev.iload_2 dX3_possibleOunces_8 rfl ?_
  refine Ev.aldn dX3_possibleOunces_9 rfl (by omega) (by decide) ?_
  refine Ev.iconst (v := -1) dX3_possibleOunces_10 (by decide) ?_
  refine Ev.icmp_ne 16 dX3_possibleOunces_11 (by decide) (fun h11 => ?_) (fun h11 => ?_)
  · rw [show po (vC LF) SF N K w = poF (vC LF) SF N w K 0 511 from if_neg h11]
    refine Ev.iconst (v := 0) dX3_possibleOunces_16 (by decide) ?_
    refine Ev.ist4 dX3_possibleOunces_17 rfl ?_
    exact e_po_out ok hw hK h8 K 0 _ _ _ rfl (by omega) rfl (fun x => Ev.iload_3 dX3_possibleOunces_106 rfl (Ev.iret dX3_possibleOunces_107 ⟨rfl, rfl⟩))
  rw [show po (vC LF) SF N K w = 511 from if_pos h11]
  refine Ev.iload_3 dX3_possibleOunces_14 rfl ?_
  refine Ev.iret dX3_possibleOunces_15 ?_
  exact ⟨rfl, rfl⟩

set_option maxHeartbeats 4000000 in
set_option maxRecDepth 100000 in
theorem e_fh_loop {d : Nat} {s l : Nat → Int32} {LF : Nat → Nat → Int32} {V N w : Nat} (ok : LOK l LF V N) (hw : w < N) {side : Int32} {Q : Option Value → List Ce → Prop}  : ∀ (n : Nat) (h : Nat) (SF R : Nat → Nat → Int32), h + n = 10 → fhF (vC LF) N w side n h SF = R → Ev (d + 3) yX3_fillHolds cX3_fillHolds none 31 [some (.ref 0), some (.ref 6), some (.int (nI w)), some (.int side), some (.int (nI 10))] [] (seenLandW s R l LF) Q → Ev (d + 3) yX3_fillHolds cX3_fillHolds none 3 [some (.ref 0), some (.ref 6), some (.int (nI w)), some (.int side), some (.int (nI h))] [] (seenLandW s SF l LF) Q := by
  intro n
  induction n with
  | zero =>
    intro h SF R hk hR K
    have hk : h = 10 := by omega
    subst hk
    have hR : SF = R := hR
    subst hR
    refine Ev.iload dX3_fillHolds_3 rfl ?_
    refine Ev.bipush (v := 9) dX3_fillHolds_5 (by decide) ?_
    refine Ev.icmp_gt 31 dX3_fillHolds_7 (by decide) (fun h7 => ?_) (fun h7 => ?_)
    · exact K
    · exact absurd (lp_lt (x := 9) (N := 9) rfl (by omega) (by omega)) h7
  | succ n ih =>
    intro h SF R hk hR K
    refine Ev.iload dX3_fillHolds_3 rfl ?_
    refine Ev.bipush (v := 9) dX3_fillHolds_5 (by decide) ?_
    refine Ev.icmp_gt 31 dX3_fillHolds_7 (by decide) (fun h7 => ?_) (fun h7 => ?_)
    · exact absurd h7 (lp_gt (x := 9) (N := 9) rfl (by omega) (by omega))
    refine Ev.aload_0 dX3_fillHolds_10 rfl ?_
    refine Ev.getf cf3 5 (by decide) wf_X3_29 dX3_fillHolds_11 rfl rfl ?_
    refine Ev.iload dX3_fillHolds_14 rfl ?_
    refine Ev.aload_1 dX3_fillHolds_16 rfl ?_
    refine Ev.iload_2 dX3_fillHolds_17 rfl ?_
    refine Ev.iload dX3_fillHolds_18 rfl ?_
    refine Ev.iload_3 dX3_fillHolds_20 rfl ?_
    refine kp_X0_holdIfOunces [6, 7, 8, 9, 10, 11, 12] (e_X0_holdIfOunces ok hw _ _) dX3_fillHolds_21 wl_X3_37 rfl (Nat.le_of_ble_eq_true rfl) rfl (by decide) ⟨rfl, rfl⟩ rfl ?_
    refine aw_seenLandW_5 dX3_fillHolds_24 (by omega) ?_
    first | refine Ev.incn4 dX3_fillHolds_25 rfl ?_ | refine Ev.inc4 dX3_fillHolds_25 rfl ?_
    refine Ev.goto 3 dX3_fillHolds_28 (by decide) ?_
    exact ih (h + 1) _ R (by omega) (by rw [← hR]; rfl) K

set_option maxHeartbeats 4000000 in
set_option maxRecDepth 100000 in
theorem e_X3_fillHolds {d : Nat} {s l : Nat → Int32} {SF LF : Nat → Nat → Int32} {V N w : Nat} (ok : LOK l LF V N) (hw : w < N) (side : Int32) : Ev (d + 3) yX3_fillHolds cX3_fillHolds none 0 [some (.ref 0), some (.ref 6), some (.int (nI w)), some (.int side), none] [] (seenLandW s SF l LF) (Is none (seenLandW s (fh (vC LF) N w side SF) l LF)) := by
  refine Ev.iconst (v := 1) dX3_fillHolds_0 (by decide) ?_
  refine Ev.ist4 dX3_fillHolds_1 rfl ?_
  exact e_fh_loop ok hw 9 1 _ _ (by omega) rfl (Ev.vret dX3_fillHolds_31 ⟨rfl, rfl⟩)

set_option maxHeartbeats 4000000 in
set_option maxRecDepth 100000 in
theorem e_lw_loop {d : Nat} {s l : Nat → Int32} {SF LF : Nat → Nat → Int32} {p force : Int32} {Q : Option Value → List Ce → Prop}  : ∀ (n : Nat) (h : Nat) (c R : Int32), h + n = 10 → lwF (SF 5) p force n h c = R → Ev (d + 1) yX3_leftAtWorst cX3_leftAtWorst (some .int) 47 [some (.ref 0), some (.int p), some (.int force), some (.int R), some (.int (nI 10))] [] (seenLandW s SF l LF) Q → Ev (d + 1) yX3_leftAtWorst cX3_leftAtWorst (some .int) 5 [some (.ref 0), some (.int p), some (.int force), some (.int c), some (.int (nI h))] [] (seenLandW s SF l LF) Q := by
  intro n
  induction n with
  | zero =>
    intro h c R hk hR K
    have hk : h = 10 := by omega
    subst hk
    have hR : c = R := hR
    subst hR
    refine Ev.iload dX3_leftAtWorst_5 rfl ?_
    refine Ev.bipush (v := 9) dX3_leftAtWorst_7 (by decide) ?_
    refine Ev.icmp_gt 47 dX3_leftAtWorst_9 (by decide) (fun h9 => ?_) (fun h9 => ?_)
    · exact K
    · exact absurd (lp_lt (x := 9) (N := 9) rfl (by omega) (by omega)) h9
  | succ n ih =>
    intro h c R hk hR K
    refine Ev.iload dX3_leftAtWorst_5 rfl ?_
    refine Ev.bipush (v := 9) dX3_leftAtWorst_7 (by decide) ?_
    refine Ev.icmp_gt 47 dX3_leftAtWorst_9 (by decide) (fun h9 => ?_) (fun h9 => ?_)
    · exact absurd h9 (lp_gt (x := 9) (N := 9) rfl (by omega) (by omega))
    refine Ev.iload_1 dX3_leftAtWorst_12 rfl ?_
    refine Ev.iload dX3_leftAtWorst_13 rfl ?_
    refine Ev.iconst (v := 1) dX3_leftAtWorst_15 (by decide) ?_
    refine Ev.isub dX3_leftAtWorst_16 ?_
    refine Ev.ishr dX3_leftAtWorst_17 ?_
    refine Ev.iconst (v := 1) dX3_leftAtWorst_18 (by decide) ?_
    refine Ev.iand dX3_leftAtWorst_19 ?_
    refine Ev.iconst (v := 1) dX3_leftAtWorst_20 (by decide) ?_
    refine Ev.icmp_ne 41 dX3_leftAtWorst_21 (by decide) (fun h21 => ?_) (fun h21 => ?_)
    · first | refine Ev.incn4 dX3_leftAtWorst_41 rfl ?_ | refine Ev.inc4 dX3_leftAtWorst_41 rfl ?_
      refine Ev.goto 5 dX3_leftAtWorst_44 (by decide) ?_
      exact ih (h + 1) _ R (by omega) (by rw [← hR, lwF]; simp [*]) K
    refine Ev.aload_0 dX3_leftAtWorst_24 rfl ?_
    refine Ev.getf cf3 5 (by decide) wf_X3_29 dX3_leftAtWorst_25 rfl rfl ?_
    refine Ev.iload dX3_leftAtWorst_28 rfl ?_
    refine Ev.aldn dX3_leftAtWorst_30 rfl (by omega) (by decide) ?_
    refine Ev.iload_2 dX3_leftAtWorst_31 rfl ?_
    refine kn_X4_liftsAt (e_X4_liftsAt _ _) dX3_leftAtWorst_32 (fun D cy s h => h.2.2.2.2.2.2.2.2) (Nat.le_of_ble_eq_true rfl) ?_
    refine Ev.if_eq 41 dX3_leftAtWorst_35 (by decide) (fun h35 => ?_) (fun h35 => ?_)
    · first | refine Ev.incn4 dX3_leftAtWorst_41 rfl ?_ | refine Ev.inc4 dX3_leftAtWorst_41 rfl ?_
      refine Ev.goto 5 dX3_leftAtWorst_44 (by decide) ?_
      exact ih (h + 1) _ R (by omega) (by rw [← hR, lwF]; simp [*]) K
    first | refine Ev.incn3 dX3_leftAtWorst_38 rfl ?_ | refine Ev.inc3 dX3_leftAtWorst_38 rfl ?_
    first | refine Ev.incn4 dX3_leftAtWorst_41 rfl ?_ | refine Ev.inc4 dX3_leftAtWorst_41 rfl ?_
    refine Ev.goto 5 dX3_leftAtWorst_44 (by decide) ?_
    exact ih (h + 1) _ R (by omega) (by rw [← hR, lwF]; simp [*]) K

set_option maxHeartbeats 4000000 in
set_option maxRecDepth 100000 in
theorem e_X3_leftAtWorst {d : Nat} {s l : Nat → Int32} {SF LF : Nat → Nat → Int32} (p force : Int32) : Ev (d + 1) yX3_leftAtWorst cX3_leftAtWorst (some .int) 0 [some (.ref 0), some (.int p), some (.int force), none, none] [] (seenLandW s SF l LF) (Is (some (.int (lw (SF 5) p force))) (seenLandW s SF l LF)) := by
  refine Ev.iconst (v := 0) dX3_leftAtWorst_0 (by decide) ?_
  refine Ev.ist3 dX3_leftAtWorst_1 rfl ?_
  refine Ev.iconst (v := 1) dX3_leftAtWorst_2 (by decide) ?_
  refine Ev.ist4 dX3_leftAtWorst_3 rfl ?_
  refine e_lw_loop 9 1 _ _ (by omega) rfl ?_
  refine Ev.iload_3 dX3_leftAtWorst_47 rfl ?_
  refine Ev.iload_1 dX3_leftAtWorst_48 rfl ?_
  refine k_J6_bitCount_0f7a4 (e_J6_bitCount_0f7a4 _) dX3_leftAtWorst_49 wl_X3_57 (Nat.le_of_ble_eq_true rfl) ?_
  refine Ev.iload_3 dX3_leftAtWorst_52 rfl ?_
  refine Ev.isub dX3_leftAtWorst_53 ?_
  refine Ev.mmax dX3_leftAtWorst_54 wl_X3_63 (Nat.le_of_ble_eq_true rfl) ?_
  refine Ev.iret dX3_leftAtWorst_57 ?_
  exact ⟨rfl, rfl⟩

set_option maxHeartbeats 4000000 in
set_option maxRecDepth 100000 in
theorem e_ww_in {d : Nat} {s l : Nat → Int32} {SF LF : Nat → Nat → Int32} {w : Nat} {p side : Int32} {Q : Option Value → List Ce → Prop} : ∀ (n f : Nat) (b fw : Int32) (R : Int32 × Int32) (x : Option Value), lok [some (.ref 0), some (.ref 6), some (.int (nI w)), some (.int p), some (.int b), some (.int fw), some (.int side), some (.int (nI f)), x] 8 = true → f + n = 100 → wwI (SF 5) p side n f b fw = R → (∀ x : Option Value, lok [some (.ref 0), some (.ref 6), some (.int (nI w)), some (.int p), some (.int R.1), some (.int R.2), some (.int side), some (.int (nI 100)), x] 8 = true → Ev (d + 4) yX3_windToWaitFor cX3_windToWaitFor (some .int) 93 [some (.ref 0), some (.ref 6), some (.int (nI w)), some (.int p), some (.int R.1), some (.int R.2), some (.int side), some (.int (nI 100)), x] [] (seenLandW s SF l LF) Q) → Ev (d + 4) yX3_windToWaitFor cX3_windToWaitFor (some .int) 50 [some (.ref 0), some (.ref 6), some (.int (nI w)), some (.int p), some (.int b), some (.int fw), some (.int side), some (.int (nI f)), x] [] (seenLandW s SF l LF) Q := by
  intro n
  induction n with
  | zero =>
    intro f b fw R x hx hk hR Kh
    have hk : f = 100 := by omega
    subst hk
    have hR : (b, fw) = R := hR
    subst hR
    refine Ev.iload dX3_windToWaitFor_50 rfl ?_
    refine Ev.bipush (v := 99) dX3_windToWaitFor_52 (by decide) ?_
    refine Ev.icmp_gt 93 dX3_windToWaitFor_54 (by decide) (fun h54 => ?_) (fun h54 => ?_)
    · exact Kh _ hx
    · exact absurd (lp_lt (x := 99) (N := 99) rfl (by omega) (by omega)) h54
  | succ n ih =>
    intro f b fw R x hx hk hR Kh
    refine Ev.iload dX3_windToWaitFor_50 rfl ?_
    refine Ev.bipush (v := 99) dX3_windToWaitFor_52 (by decide) ?_
    refine Ev.icmp_gt 93 dX3_windToWaitFor_54 (by decide) (fun h54 => ?_) (fun h54 => ?_)
    · exact absurd h54 (lp_gt (x := 99) (N := 99) rfl (by omega) (by omega))
    refine Ev.aload_0 dX3_windToWaitFor_57 rfl ?_
    refine Ev.iload_3 dX3_windToWaitFor_58 rfl ?_
    refine Ev.iload dX3_windToWaitFor_59 rfl ?_
    refine k_X3_leftAtWorst (e_X3_leftAtWorst _ _) dX3_windToWaitFor_61 wl_X3_53 rfl (Nat.le_of_ble_eq_true rfl) ?_
    refine Ev.ist8 dX3_windToWaitFor_64 rfl ?_
    refine Ev.iload dX3_windToWaitFor_66 rfl ?_
    refine Ev.iload dX3_windToWaitFor_68 rfl ?_
    refine Ev.icmp_ge 87 dX3_windToWaitFor_70 (by decide) (fun h70 => ?_) (fun h70 => ?_)
    · first | refine Ev.incn7 dX3_windToWaitFor_87 rfl ?_ | refine Ev.inc7 dX3_windToWaitFor_87 rfl ?_
      refine Ev.goto 50 dX3_windToWaitFor_90 (by decide) ?_
      exact ih (f + 1) _ _ R _ rfl (by omega) (by rw [← hR, wwI]; simp [*]) Kh
    refine Ev.iload dX3_windToWaitFor_73 rfl ?_
    refine Ev.ist5 dX3_windToWaitFor_75 rfl ?_
    refine Ev.bipush (v := 100) dX3_windToWaitFor_77 (by decide) ?_
    refine Ev.iload dX3_windToWaitFor_79 rfl ?_
    refine Ev.imul dX3_windToWaitFor_81 ?_
    refine Ev.iload dX3_windToWaitFor_82 rfl ?_
    refine Ev.iadd dX3_windToWaitFor_84 ?_
    refine Ev.ist4 dX3_windToWaitFor_85 rfl ?_
    first | refine Ev.incn7 dX3_windToWaitFor_87 rfl ?_ | refine Ev.inc7 dX3_windToWaitFor_87 rfl ?_
    refine Ev.goto 50 dX3_windToWaitFor_90 (by decide) ?_
    exact ih (f + 1) _ _ R _ rfl (by omega) (by rw [← hR, wwI]; simp [*]) Kh

set_option maxHeartbeats 4000000 in
set_option maxRecDepth 100000 in
theorem e_X3_windToWaitFor {d : Nat} {s l : Nat → Int32} {SF LF : Nat → Nat → Int32} {V N K w : Nat} (ok : LOK l LF V N) (hw : w < N) (hK : s 0 = nI K) (h8 : K ≤ 8)  : Ev (d + 4) yX3_windToWaitFor cX3_windToWaitFor (some .int) 0 [some (.ref 0), some (.ref 6), some (.int (nI w)), none, none, none, none, none, none] [] (seenLandW s SF l LF) (Is (some (.int (ww (vC LF) SF N K w))) (seenLandW s (wwS (vC LF) SF N K w) l LF)) := by
  have hw5 : w < 5 := by have := ok.2.2.2.1; omega
  refine Ev.aload_0 dX3_windToWaitFor_0 rfl ?_
  refine Ev.aload_1 dX3_windToWaitFor_1 rfl ?_
  refine Ev.iload_2 dX3_windToWaitFor_2 rfl ?_
  refine k_X3_possibleOunces (e_X3_possibleOunces ok hw hK h8) dX3_windToWaitFor_3 wl_X3_45 rfl (Nat.le_of_ble_eq_true rfl) ?_
  refine Ev.ist3 dX3_windToWaitFor_6 rfl ?_
  refine Ev.iload_3 dX3_windToWaitFor_7 rfl ?_
  refine Ev.if_eq 21 dX3_windToWaitFor_8 (by decide) (fun hz8 => ?_) (fun hz8 => ?_)
  · rw [show ww (vC LF) SF N K w = -1 from if_pos (Or.inl hz8), show wwS (vC LF) SF N K w = SF from if_pos (Or.inl hz8)]
    refine Ev.iconst (v := -1) dX3_windToWaitFor_21 (by decide) ?_
    refine Ev.iret dX3_windToWaitFor_22 ?_
    exact ⟨rfl, rfl⟩
  refine Ev.aload_1 dX3_windToWaitFor_11 rfl ?_
  refine Ev.getf cf0 5 (by decide) wf_X3_32 dX3_windToWaitFor_12 rfl rfl ?_
  refine Ev.iload_2 dX3_windToWaitFor_15 rfl ?_
  refine Ev.aldn dX3_windToWaitFor_16 rfl (by omega) (by decide) ?_
  refine Ev.iconst (v := -1) dX3_windToWaitFor_17 (by decide) ?_
  refine Ev.icmp_ne 23 dX3_windToWaitFor_18 (by decide) (fun h18 => ?_) (fun h18 => ?_)
  · have hcn : ¬ (po (vC LF) SF N K w = 0 ∨ (vC LF) 3 w = -1) := fun q => q.elim hz8 h18
    rw [show ww (vC LF) SF N K w = _ from if_neg hcn, show wwS (vC LF) SF N K w = _ from if_neg hcn]
    refine Ev.iconst (v := -1) dX3_windToWaitFor_23 (by decide) ?_
    refine Ev.ist4 dX3_windToWaitFor_24 rfl ?_
    refine Ev.bipush (v := 10) dX3_windToWaitFor_26 (by decide) ?_
    refine Ev.ist5 dX3_windToWaitFor_28 rfl ?_
    refine Ev.iconst (v := 0) dX3_windToWaitFor_30 (by decide) ?_
    refine Ev.ist6 dX3_windToWaitFor_31 rfl ?_
    refine Ev.iload dX3_windToWaitFor_33 rfl ?_
    refine Ev.iconst (v := 2) dX3_windToWaitFor_35 (by decide) ?_
    refine Ev.icmp_ge 99 dX3_windToWaitFor_36 (by decide) (fun h36 => ?_) (fun h36 => ?_)
    · exact absurd h36 (by decide)
    refine Ev.aload_0 dX3_windToWaitFor_39 rfl ?_
    refine Ev.aload_1 dX3_windToWaitFor_40 rfl ?_
    refine Ev.iload_2 dX3_windToWaitFor_41 rfl ?_
    refine Ev.iload dX3_windToWaitFor_42 rfl ?_
    refine k_X3_fillHolds (e_X3_fillHolds ok hw _) dX3_windToWaitFor_44 wl_X3_49 rfl (Nat.le_of_ble_eq_true rfl) ?_
    refine Ev.iconst (v := 0) dX3_windToWaitFor_47 (by decide) ?_
    refine Ev.ist7 dX3_windToWaitFor_48 rfl ?_
    refine e_ww_in 100 0 _ _ _ _ rfl (by omega) rfl (fun x hx => ?_)
    first | refine Ev.incn6 dX3_windToWaitFor_93 rfl ?_ | refine Ev.inc6 dX3_windToWaitFor_93 rfl ?_
    refine Ev.goto 33 dX3_windToWaitFor_96 (by decide) ?_
    refine Ev.iload dX3_windToWaitFor_33 rfl ?_
    refine Ev.iconst (v := 2) dX3_windToWaitFor_35 (by decide) ?_
    refine Ev.icmp_ge 99 dX3_windToWaitFor_36 (by decide) (fun h36 => ?_) (fun h36 => ?_)
    · exact absurd h36 (by decide)
    refine Ev.aload_0 dX3_windToWaitFor_39 rfl ?_
    refine Ev.aload_1 dX3_windToWaitFor_40 rfl ?_
    refine Ev.iload_2 dX3_windToWaitFor_41 rfl ?_
    refine Ev.iload dX3_windToWaitFor_42 rfl ?_
    refine k_X3_fillHolds (e_X3_fillHolds ok hw _) dX3_windToWaitFor_44 wl_X3_49 rfl (Nat.le_of_ble_eq_true rfl) ?_
    refine Ev.iconst (v := 0) dX3_windToWaitFor_47 (by decide) ?_
    refine Ev.ist7 dX3_windToWaitFor_48 rfl ?_
    refine e_ww_in 100 0 _ _ _ _ rfl (by omega) rfl (fun x hx => ?_)
    first | refine Ev.incn6 dX3_windToWaitFor_93 rfl ?_ | refine Ev.inc6 dX3_windToWaitFor_93 rfl ?_
    refine Ev.goto 33 dX3_windToWaitFor_96 (by decide) ?_
    refine Ev.iload dX3_windToWaitFor_33 rfl ?_
    refine Ev.iconst (v := 2) dX3_windToWaitFor_35 (by decide) ?_
    refine Ev.icmp_ge 99 dX3_windToWaitFor_36 (by decide) (fun h36 => ?_) (fun h36 => ?_)
    · refine Ev.iload dX3_windToWaitFor_99 rfl ?_
      refine Ev.iret dX3_windToWaitFor_101 ?_
      exact ⟨rfl, rfl⟩
    · exact absurd (by decide) h36
  rw [show ww (vC LF) SF N K w = -1 from if_pos (Or.inr h18), show wwS (vC LF) SF N K w = SF from if_pos (Or.inr h18)]
  refine Ev.iconst (v := -1) dX3_windToWaitFor_21 (by decide) ?_
  refine Ev.iret dX3_windToWaitFor_22 ?_
  exact ⟨rfl, rfl⟩
