/-- the six rows of a land: 0 bases, 1 kinds, 2 ounces, 3 homes, 4 places, 5 snows -/
def vC (LF : Nat → Nat → Int32) : Nat → Nat → Int32 := fun a => LF (a + 2)
def hldF (X : Nat → Nat → Int32) (left vv side : Int32) : Nat → Nat → Int32 → Int32
  | 0, _, acc => acc
  | n + 1, k, acc => hldF X left vv side n (k + 1) (if X 3 k = vv ∧ ¬ nI k = left then acc + bear (X 1 k) (X 2 k) (X 5 k) * lev (X 4 k) side else acc)
/-- holdBut -/
def hld (X : Nat → Nat → Int32) (N : Nat) (left : Int32) (v : Nat) (side : Int32) : Int32 := hldF X left (nI v) side N 0 (3 * X 0 v)

set_option maxHeartbeats 4000000 in
set_option maxRecDepth 100000 in
theorem e_holdBut_loop {d : Nat} {l : Nat → Int32} {LF : Nat → Nat → Int32} {N v : Nat} {left side : Int32} (hN : l 1 = nI N) (h5 : N ≤ 5) : ∀ (n k : Nat) (acc R : Int32), k + n = N → hldF (vC LF) left (nI v) side n k acc = R → Ev (d + 1) yX0_holdBut cX0_holdBut (some .int) 13 [some (.ref 0), some (.int left), some (.int (nI v)), some (.int side), some (.int acc), some (.int (nI k))] [] (landW l LF) (Is (some (.int R)) (landW l LF)) := by
  intro n
  induction n with
  | zero =>
    intro k acc R hk hR
    refine Ev.iload dX0_holdBut_13 rfl ?_
    refine Ev.aload_0 dX0_holdBut_15 rfl ?_
    refine Ev.getf cf0 1 (by decide) wf_X0_15 dX0_holdBut_16 rfl rfl ?_
    refine Ev.icmp_ge 86 dX0_holdBut_19 (by decide) (fun h19 => ?_) (fun h19 => ?_)
    · refine Ev.iload dX0_holdBut_86 rfl ?_
      refine Ev.iret dX0_holdBut_88 ?_
      exact ⟨by rw [← hR]; rfl, rfl⟩
    · exact absurd (lp_le hN (by omega) (by omega)) h19
  | succ n ih =>
    intro k acc R hk hR
    refine Ev.iload dX0_holdBut_13 rfl ?_
    refine Ev.aload_0 dX0_holdBut_15 rfl ?_
    refine Ev.getf cf0 1 (by decide) wf_X0_15 dX0_holdBut_16 rfl rfl ?_
    refine Ev.icmp_ge 86 dX0_holdBut_19 (by decide) (fun h19 => ?_) (fun h19 => ?_)
    · exact absurd h19 (lp_ge hN (by omega) (by omega))
    refine Ev.aload_0 dX0_holdBut_22 rfl ?_
    refine Ev.getf cf0 5 (by decide) wf_X0_28 dX0_holdBut_23 rfl rfl ?_
    refine Ev.iload dX0_holdBut_26 rfl ?_
    refine Ev.aldn dX0_holdBut_28 rfl (by omega) (by decide) ?_
    refine Ev.iload_2 dX0_holdBut_29 rfl ?_
    refine Ev.icmp_ne 80 dX0_holdBut_30 (by decide) (fun h30 => ?_) (fun h30 => ?_)
    · first | refine Ev.incn5 dX0_holdBut_80 rfl ?_ | refine Ev.inc5 dX0_holdBut_80 rfl ?_
      refine Ev.goto 13 dX0_holdBut_83 (by decide) ?_
      exact ih (k + 1) _ R (by omega) (by simpa [hldF, vC, *] using hR)
    refine Ev.iload dX0_holdBut_33 rfl ?_
    refine Ev.iload_1 dX0_holdBut_35 rfl ?_
    refine Ev.icmp_eq 80 dX0_holdBut_36 (by decide) (fun h36 => ?_) (fun h36 => ?_)
    · first | refine Ev.incn5 dX0_holdBut_80 rfl ?_ | refine Ev.inc5 dX0_holdBut_80 rfl ?_
      refine Ev.goto 13 dX0_holdBut_83 (by decide) ?_
      exact ih (k + 1) _ R (by omega) (by simpa [hldF, vC, *] using hR)
    refine Ev.iload dX0_holdBut_39 rfl ?_
    refine Ev.aload_0 dX0_holdBut_41 rfl ?_
    refine Ev.getf cf0 3 (by decide) wf_X0_22 dX0_holdBut_42 rfl rfl ?_
    refine Ev.iload dX0_holdBut_45 rfl ?_
    refine Ev.aldn dX0_holdBut_47 rfl (by omega) (by decide) ?_
    refine Ev.aload_0 dX0_holdBut_48 rfl ?_
    refine Ev.getf cf0 4 (by decide) wf_X0_25 dX0_holdBut_49 rfl rfl ?_
    refine Ev.iload dX0_holdBut_52 rfl ?_
    refine Ev.aldn dX0_holdBut_54 rfl (by omega) (by decide) ?_
    refine Ev.aload_0 dX0_holdBut_55 rfl ?_
    refine Ev.getf cf0 7 (by decide) wf_X0_34 dX0_holdBut_56 rfl rfl ?_
    refine Ev.iload dX0_holdBut_59 rfl ?_
    refine Ev.aldn dX0_holdBut_61 rfl (by omega) (by decide) ?_
    refine kn_X4_bearing (e_X4_bearing _ _ _) dX0_holdBut_62 (fun D cy s h => h.2.1) (Nat.le_of_ble_eq_true rfl) ?_
    refine Ev.aload_0 dX0_holdBut_65 rfl ?_
    refine Ev.getf cf0 6 (by decide) wf_X0_31 dX0_holdBut_66 rfl rfl ?_
    refine Ev.iload dX0_holdBut_69 rfl ?_
    refine Ev.aldn dX0_holdBut_71 rfl (by omega) (by decide) ?_
    refine Ev.iload_3 dX0_holdBut_72 rfl ?_
    refine kn_X4_leverage (e_X4_leverage _ _) dX0_holdBut_73 (fun D cy s h => h.2.2.1) (Nat.le_of_ble_eq_true rfl) ?_
    refine Ev.imul dX0_holdBut_76 ?_
    refine Ev.iadd dX0_holdBut_77 ?_
    refine Ev.ist4 dX0_holdBut_78 rfl ?_
    first | refine Ev.incn5 dX0_holdBut_80 rfl ?_ | refine Ev.inc5 dX0_holdBut_80 rfl ?_
    refine Ev.goto 13 dX0_holdBut_83 (by decide) ?_
    exact ih (k + 1) _ R (by omega) (by simpa [hldF, vC, *] using hR)

set_option maxHeartbeats 4000000 in
set_option maxRecDepth 100000 in
theorem e_X0_holdBut {d : Nat} {l : Nat → Int32} {LF : Nat → Nat → Int32} {N v : Nat} (left side : Int32) (hN : l 1 = nI N) (h5 : N ≤ 5) (hv : v < 4) : Ev (d + 1) yX0_holdBut cX0_holdBut (some .int) 0 [some (.ref 0), some (.int left), some (.int (nI v)), some (.int side), none, none] [] (landW l LF) (Is (some (.int (hld (vC LF) N left v side))) (landW l LF)) := by
  refine Ev.iconst (v := 3) dX0_holdBut_0 (by decide) ?_
  refine Ev.aload_0 dX0_holdBut_1 rfl ?_
  refine Ev.getf cf0 2 (by decide) wf_X0_18 dX0_holdBut_2 rfl rfl ?_
  refine Ev.iload_2 dX0_holdBut_5 rfl ?_
  refine Ev.aldn dX0_holdBut_6 rfl (by omega) (by decide) ?_
  refine Ev.imul dX0_holdBut_7 ?_
  refine Ev.ist4 dX0_holdBut_8 rfl ?_
  refine Ev.iconst (v := 0) dX0_holdBut_10 (by decide) ?_
  refine Ev.ist5 dX0_holdBut_11 rfl ?_
  exact e_holdBut_loop hN h5 N 0 _ _ (by omega) rfl
