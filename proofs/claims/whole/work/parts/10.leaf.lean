/-! the class's own static leaves -/
def bear (k o s : Int32) : Int32 := if k = 1 then 2 * o else if k = 3 then o + s else if k = 4 then 100 else o
def lev (p side : Int32) : Int32 := if side = 0 then 5 - p else p + 1
def zb (p : Prop) [Decidable p] : Int32 := if p then 1 else 0
theorem zb_t {p : Prop} [Decidable p] (h : p) : zb p = 1 := if_pos h
theorem zb_f {p : Prop} [Decidable p] (h : ¬ p) : zb p = 0 := if_neg h
def lifs (hold force : Int32) : Int32 := zb (hold < 5 * force)
def stb (hold : Int32) : Int32 := if hold / 5 < 99 then hold / 5 else 99
theorem ne_of_nle {a b : Int32} (h : ¬ b ≤ a) : a < b := by
  rw [Int32.lt_iff_toInt_lt]; rw [Int32.le_iff_toInt_le] at h; omega
theorem nlt_of_le {a b : Int32} (h : b ≤ a) : ¬ a < b := by
  rw [Int32.lt_iff_toInt_lt]; rw [Int32.le_iff_toInt_le] at h; omega

set_option maxHeartbeats 4000000 in
set_option maxRecDepth 100000 in
theorem e_X4_bearing {d : Nat} {w : List Ce} (k o s : Int32) : Ev d yX4_bearing cX4_bearing (some .int) 0 [some (.int k), some (.int o), some (.int s)] [] w (Is (some (.int (bear k o s))) w) := by
  refine Ev.iload_0 dX4_bearing_0 rfl ?_
  by_cases hs1_1 : k = 1
  · subst hs1_1
    refine Ev.tableIn 32 dX4_bearing_1 (by decide) (by decide) rfl (by decide) ?_
    refine Ev.iconst (v := 2) dX4_bearing_32 (by decide) ?_
    refine Ev.iload_1 dX4_bearing_33 rfl ?_
    refine Ev.imul dX4_bearing_34 ?_
    refine Ev.iret dX4_bearing_35 ?_
    exact ⟨by simp [bear, *], rfl⟩
  by_cases hs1_2 : k = 2
  · subst hs1_2
    refine Ev.tableIn 43 dX4_bearing_1 (by decide) (by decide) rfl (by decide) ?_
    refine Ev.iload_1 dX4_bearing_43 rfl ?_
    refine Ev.iret dX4_bearing_44 ?_
    exact ⟨by simp [bear, *], rfl⟩
  by_cases hs1_3 : k = 3
  · subst hs1_3
    refine Ev.tableIn 36 dX4_bearing_1 (by decide) (by decide) rfl (by decide) ?_
    refine Ev.iload_1 dX4_bearing_36 rfl ?_
    refine Ev.iload_2 dX4_bearing_37 rfl ?_
    refine Ev.iadd dX4_bearing_38 ?_
    refine Ev.iret dX4_bearing_39 ?_
    exact ⟨by simp [bear, *], rfl⟩
  by_cases hs1_4 : k = 4
  · subst hs1_4
    refine Ev.tableIn 40 dX4_bearing_1 (by decide) (by decide) rfl (by decide) ?_
    refine Ev.bipush (v := 100) dX4_bearing_40 (by decide) ?_
    refine Ev.iret dX4_bearing_42 ?_
    exact ⟨by simp [bear, *], rfl⟩
  refine Ev.tableOut 43 dX4_bearing_1 (by have q1 := lv_neT hs1_1 (a := 1) (by decide); have q2 := lv_neT hs1_2 (a := 2) (by decide); have q3 := lv_neT hs1_3 (a := 3) (by decide); have q4 := lv_neT hs1_4 (a := 4) (by decide); omega) (by decide) ?_
  refine Ev.iload_1 dX4_bearing_43 rfl ?_
  refine Ev.iret dX4_bearing_44 ?_
  exact ⟨by simp [bear, *], rfl⟩

set_option maxHeartbeats 4000000 in
set_option maxRecDepth 100000 in
theorem e_X4_leverage {d : Nat} {w : List Ce} (p side : Int32) : Ev d yX4_leverage cX4_leverage (some .int) 0 [some (.int p), some (.int side)] [] w (Is (some (.int (lev p side))) w) := by
  refine Ev.iload_1 dX4_leverage_0 rfl ?_
  refine Ev.if_ne 10 dX4_leverage_1 (by decide) (fun h1 => ?_) (fun h1 => ?_)
  · refine Ev.iload_0 dX4_leverage_10 rfl ?_
    refine Ev.iconst (v := 1) dX4_leverage_11 (by decide) ?_
    refine Ev.iadd dX4_leverage_12 ?_
    refine Ev.iret dX4_leverage_13 ?_
    exact ⟨by simp [lev, *], rfl⟩
  refine Ev.iconst (v := 5) dX4_leverage_4 (by decide) ?_
  refine Ev.iload_0 dX4_leverage_5 rfl ?_
  refine Ev.isub dX4_leverage_6 ?_
  refine Ev.goto 13 dX4_leverage_7 (by decide) ?_
  refine Ev.iret dX4_leverage_13 ?_
  exact ⟨by simp [lev, *], rfl⟩

set_option maxHeartbeats 4000000 in
set_option maxRecDepth 100000 in
theorem e_X4_liftsAt {d : Nat} {w : List Ce} (a b : Int32) : Ev d yX4_liftsAt cX4_liftsAt (some .boolean) 0 [some (.int a), some (.int b)] [] w (Is (some (.int (lifs a b))) w) := by
  refine Ev.iload_0 dX4_liftsAt_0 rfl ?_
  refine Ev.iconst (v := 5) dX4_liftsAt_1 (by decide) ?_
  refine Ev.iload_1 dX4_liftsAt_2 rfl ?_
  refine Ev.imul dX4_liftsAt_3 ?_
  refine Ev.icmp_ge 11 dX4_liftsAt_4 (by decide) (fun h4 => ?_) (fun h4 => ?_)
  · rw [show lifs a b = 0 from zb_f (nlt_of_le h4)]
    refine Ev.iconst (v := 0) dX4_liftsAt_11 (by decide) ?_
    refine Ev.zret dX4_liftsAt_12 (by decide) ?_
    exact ⟨rfl, rfl⟩
  rw [show lifs a b = 1 from zb_t (ne_of_nle h4)]
  refine Ev.iconst (v := 1) dX4_liftsAt_7 (by decide) ?_
  refine Ev.goto 12 dX4_liftsAt_8 (by decide) ?_
  refine Ev.zret dX4_liftsAt_12 (by decide) ?_
  exact ⟨rfl, rfl⟩

set_option maxHeartbeats 4000000 in
set_option maxRecDepth 100000 in
theorem e_X4_standBy {d : Nat} {w : List Ce} (a : Int32) : Ev (d + 1) yX4_standBy cX4_standBy (some .int) 0 [some (.int a)] [] w (Is (some (.int (stb a))) w) := by
  refine Ev.bipush (v := 99) dX4_standBy_0 (by decide) ?_
  refine Ev.iload_0 dX4_standBy_2 rfl ?_
  refine Ev.iconst (v := 5) dX4_standBy_3 (by decide) ?_
  refine Ev.idiv dX4_standBy_4 (by decide) ?_
  refine Ev.mmin dX4_standBy_5 wl_X4_250 (Nat.le_of_ble_eq_true rfl) ?_
  refine Ev.iret dX4_standBy_8 ?_
  exact ⟨rfl, rfl⟩
