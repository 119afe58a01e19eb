def mv (LF : Nat → Nat → Int32) (w : Nat) (v p : Int32) : Nat → Nat → Int32 := up2 (up2 (up2 LF 5 w v) 6 w p) 7 w 0
def sld (l : Nat → Int32) (LF : Nat → Nat → Int32) (w : Nat) (step : Int32) : (Nat → Int32) × (Nat → Nat → Int32) := if LF 6 w + step < 0 ∨ ¬ LF 6 w + step ≤ 4 then (upd l 10 (l 10 + 1), mv LF w (-1) (-1)) else (l, up2 LF 6 w (LF 6 w + step))
def wth1 (LF : Nat → Nat → Int32) (w : Nat) : Nat → Nat → Int32 := if LF 3 w = 2 ∧ ¬ LF 4 w ≤ 1 then up2 LF 4 w (LF 4 w - 1) else LF
def wth2 (LF : Nat → Nat → Int32) (w : Nat) : Nat → Nat → Int32 := if LF 3 w = 3 ∧ ¬ 3 ≤ LF 7 w then up2 LF 7 w (LF 7 w + 1) else LF
def wth (LF : Nat → Nat → Int32) (w : Nat) : Nat → Nat → Int32 := if LF 5 w = -1 then LF else wth2 (wth1 LF w) w
def lbF (X : Nat → Nat → Int32) (N : Nat) (side force : Int32) : Nat → Nat → Int32 → Int32
  | 0, _, acc => acc
  | n + 1, v, acc => lbF X N side force n (v + 1) (if lifs (hld X N (-1) v side) force = 0 then acc else acc ||| ((1 : Int32) <<< (nI v &&& 31)))
def wdF (bits step : Int32) : Nat → Nat → (Nat → Int32) → (Nat → Nat → Int32) → (Nat → Int32) × (Nat → Nat → Int32)
  | 0, _, l, LF => (l, LF)
  | n + 1, k, l, LF => if LF 5 k = -1 ∨ ¬ (bits >>> (LF 5 k &&& 31)) &&& 1 = 1 then wdF bits step n (k + 1) l (wth LF k) else wdF bits step n (k + 1) (sld l LF k step).1 (wth (sld l LF k step).2 k)
def stp (side : Int32) : Int32 := if side = 0 then 1 else -1
/-- takeWind: the villages that lift, the land behind it -/
def tkB (LF : Nat → Nat → Int32) (V N : Nat) (side force : Int32) : Int32 := lbF (vC LF) N side force V 0 0
def tkS (l : Nat → Int32) (LF : Nat → Nat → Int32) (V N : Nat) (side force : Int32) : (Nat → Int32) × (Nat → Nat → Int32) := wdF (tkB LF V N side force) (stp side) N 0 l LF
def tkL (l : Nat → Int32) (LF : Nat → Nat → Int32) (V N : Nat) (side force : Int32) : Nat → Int32 := upd (upd (tkS l LF V N side force).1 8 ((tkS l LF V N side force).1 8 + 1)) 9 ((tkS l LF V N side force).1 9 + bitc (tkB LF V N side force))
theorem sld_1 (l : Nat → Int32) (LF : Nat → Nat → Int32) (w : Nat) (step : Int32) : (sld l LF w step).1 1 = l 1 := by
  unfold sld; split <;> simp [upd]
def clrF : Nat → Nat → (Nat → Nat → Int32) → Nat → Nat → Int32
  | 0, _, LF => LF
  | n + 1, k, LF => clrF n (k + 1) (up2 LF 7 k 0)
def cpB (L2 : Nat → Nat → Int32) : Nat → Nat → (Nat → Nat → Int32) → Nat → Nat → Int32
  | 0, _, LF => LF
  | n + 1, k, LF => cpB L2 n (k + 1) (up2 LF 2 k (L2 2 k))
def cpW (L2 : Nat → Nat → Int32) : Nat → Nat → (Nat → Nat → Int32) → Nat → Nat → Int32
  | 0, _, LF => LF
  | n + 1, k, LF => cpW L2 n (k + 1) (up2 (up2 (up2 (up2 (up2 LF 3 k (L2 3 k)) 4 k (L2 4 k)) 5 k (L2 5 k)) 6 k (L2 6 k)) 7 k (L2 7 k))
def clL (l : Nat → Int32) (nv nw : Int32) : Nat → Int32 := upd (upd (upd (upd (upd l 0 (jmax 0 (jmin 4 nv))) 1 (jmax 0 (jmin 5 nw))) 8 0) 9 0) 10 0
def cpL (l l2 : Nat → Int32) : Nat → Int32 := upd (upd (upd (upd (upd l 0 (l2 0)) 1 (l2 1)) 8 (l2 8)) 9 (l2 9)) 10 (l2 10)

set_option maxHeartbeats 4000000 in
set_option maxRecDepth 100000 in
theorem e_X0_moveTo {d : Nat} {l : Nat → Int32} {LF : Nat → Nat → Int32} {w : Nat} (hw : w < 5) (v p : Int32) : Ev d yX0_moveTo cX0_moveTo none 0 [some (.ref 0), some (.int (nI w)), some (.int v), some (.int p)] [] (landW l LF) (Is none (landW l (mv LF w v p))) := by
  refine Ev.aload_0 dX0_moveTo_0 rfl ?_
  refine Ev.getf cf0 5 (by decide) wf_X0_28 dX0_moveTo_1 rfl rfl ?_
  refine Ev.iload_1 dX0_moveTo_4 rfl ?_
  refine Ev.iload_2 dX0_moveTo_5 rfl ?_
  refine aw_landW_4 dX0_moveTo_6 (by omega) ?_
  refine Ev.aload_0 dX0_moveTo_7 rfl ?_
  refine Ev.getf cf0 6 (by decide) wf_X0_31 dX0_moveTo_8 rfl rfl ?_
  refine Ev.iload_1 dX0_moveTo_11 rfl ?_
  refine Ev.iload_3 dX0_moveTo_12 rfl ?_
  refine aw_landW_5 dX0_moveTo_13 (by omega) ?_
  refine Ev.aload_0 dX0_moveTo_14 rfl ?_
  refine Ev.getf cf0 7 (by decide) wf_X0_34 dX0_moveTo_15 rfl rfl ?_
  refine Ev.iload_1 dX0_moveTo_18 rfl ?_
  refine Ev.iconst (v := 0) dX0_moveTo_19 (by decide) ?_
  refine aw_landW_6 dX0_moveTo_20 (by omega) ?_
  refine Ev.vret dX0_moveTo_21 ?_
  exact ⟨rfl, rfl⟩

set_option maxHeartbeats 4000000 in
set_option maxRecDepth 100000 in
theorem e_X0_slide {d : Nat} {l : Nat → Int32} {LF : Nat → Nat → Int32} {w : Nat} (hw : w < 5) (step : Int32) : Ev (d + 1) yX0_slide cX0_slide none 0 [some (.ref 0), some (.int (nI w)), some (.int step), none] [] (landW l LF) (Is none (landW (sld l LF w step).1 (sld l LF w step).2)) := by
  refine Ev.aload_0 dX0_slide_0 rfl ?_
  refine Ev.getf cf0 6 (by decide) wf_X0_31 dX0_slide_1 rfl rfl ?_
  refine Ev.iload_1 dX0_slide_4 rfl ?_
  refine Ev.aldn dX0_slide_5 rfl (by omega) (by decide) ?_
  refine Ev.iload_2 dX0_slide_6 rfl ?_
  refine Ev.iadd dX0_slide_7 ?_
  refine Ev.ist3 dX0_slide_8 rfl ?_
  refine Ev.iload_3 dX0_slide_9 rfl ?_
  refine Ev.if_lt 18 dX0_slide_10 (by decide) (fun h10 => ?_) (fun h10 => ?_)
  · refine Ev.aload_0 dX0_slide_18 rfl ?_
    refine Ev.iload_1 dX0_slide_19 rfl ?_
    refine Ev.iconst (v := -1) dX0_slide_20 (by decide) ?_
    refine Ev.iconst (v := -1) dX0_slide_21 (by decide) ?_
    refine k_X0_moveTo (e_X0_moveTo hw (-1) (-1)) dX0_slide_22 wl_X0_109 rfl (Nat.le_of_ble_eq_true rfl) ?_
    refine Ev.aload_0 dX0_slide_25 rfl ?_
    refine Ev.dup dX0_slide_26 rfl ?_
    refine Ev.getf cf0 10 (by decide) wf_X0_43 dX0_slide_27 rfl rfl ?_
    refine Ev.iconst (v := 1) dX0_slide_30 (by decide) ?_
    refine Ev.iadd dX0_slide_31 ?_
    refine pw_landW_0_10 dX0_slide_32 wf_X0_43 ?_
    refine Ev.goto 45 dX0_slide_35 (by decide) ?_
    refine Ev.vret dX0_slide_45 ?_
    exact ⟨rfl, by simp [sld, *]⟩
  refine Ev.iload_3 dX0_slide_13 rfl ?_
  refine Ev.iconst (v := 4) dX0_slide_14 (by decide) ?_
  refine Ev.icmp_le 38 dX0_slide_15 (by decide) (fun h15 => ?_) (fun h15 => ?_)
  · refine Ev.aload_0 dX0_slide_38 rfl ?_
    refine Ev.getf cf0 6 (by decide) wf_X0_31 dX0_slide_39 rfl rfl ?_
    refine Ev.iload_1 dX0_slide_42 rfl ?_
    refine Ev.iload_3 dX0_slide_43 rfl ?_
    refine aw_landW_5 dX0_slide_44 (by omega) ?_
    refine Ev.vret dX0_slide_45 ?_
    exact ⟨rfl, by simp [sld, *]⟩
  refine Ev.aload_0 dX0_slide_18 rfl ?_
  refine Ev.iload_1 dX0_slide_19 rfl ?_
  refine Ev.iconst (v := -1) dX0_slide_20 (by decide) ?_
  refine Ev.iconst (v := -1) dX0_slide_21 (by decide) ?_
  refine k_X0_moveTo (e_X0_moveTo hw (-1) (-1)) dX0_slide_22 wl_X0_109 rfl (Nat.le_of_ble_eq_true rfl) ?_
  refine Ev.aload_0 dX0_slide_25 rfl ?_
  refine Ev.dup dX0_slide_26 rfl ?_
  refine Ev.getf cf0 10 (by decide) wf_X0_43 dX0_slide_27 rfl rfl ?_
  refine Ev.iconst (v := 1) dX0_slide_30 (by decide) ?_
  refine Ev.iadd dX0_slide_31 ?_
  refine pw_landW_0_10 dX0_slide_32 wf_X0_43 ?_
  refine Ev.goto 45 dX0_slide_35 (by decide) ?_
  refine Ev.vret dX0_slide_45 ?_
  exact ⟨rfl, by simp [sld, *]⟩

set_option maxHeartbeats 4000000 in
set_option maxRecDepth 100000 in
theorem e_X0_weather {d : Nat} {l : Nat → Int32} {LF : Nat → Nat → Int32} {w : Nat} (hw : w < 5) : Ev d yX0_weather cX0_weather none 0 [some (.ref 0), some (.int (nI w))] [] (landW l LF) (Is none (landW l (wth LF w))) := by
  refine Ev.aload_0 dX0_weather_0 rfl ?_
  refine Ev.getf cf0 5 (by decide) wf_X0_28 dX0_weather_1 rfl rfl ?_
  refine Ev.iload_1 dX0_weather_4 rfl ?_
  refine Ev.aldn dX0_weather_5 rfl (by omega) (by decide) ?_
  refine Ev.iconst (v := -1) dX0_weather_6 (by decide) ?_
  refine Ev.icmp_ne 11 dX0_weather_7 (by decide) (fun h7 => ?_) (fun h7 => ?_)
  · rw [show wth LF w = wth2 (wth1 LF w) w from if_neg h7]
    refine Ev.aload_0 dX0_weather_11 rfl ?_
    refine Ev.getf cf0 3 (by decide) wf_X0_22 dX0_weather_12 rfl rfl ?_
    refine Ev.iload_1 dX0_weather_15 rfl ?_
    refine Ev.aldn dX0_weather_16 rfl (by omega) (by decide) ?_
    refine Ev.iconst (v := 2) dX0_weather_17 (by decide) ?_
    refine Ev.icmp_ne 41 dX0_weather_18 (by decide) (fun h18 => ?_) (fun h18 => ?_)
    · rw [show wth1 LF w = LF from if_neg (fun q => h18 q.1)]
      refine Ev.aload_0 dX0_weather_41 rfl ?_
      refine Ev.getf cf0 3 (by decide) wf_X0_22 dX0_weather_42 rfl rfl ?_
      refine Ev.iload_1 dX0_weather_45 rfl ?_
      refine Ev.aldn dX0_weather_46 rfl (by omega) (by decide) ?_
      refine Ev.iconst (v := 3) dX0_weather_47 (by decide) ?_
      refine Ev.icmp_ne 71 dX0_weather_48 (by decide) (fun h48 => ?_) (fun h48 => ?_)
      · rw [show wth2 _ w = _ from if_neg (fun q => h48 q.1)]
        refine Ev.vret dX0_weather_71 ?_
        exact ⟨rfl, rfl⟩
      refine Ev.aload_0 dX0_weather_51 rfl ?_
      refine Ev.getf cf0 7 (by decide) wf_X0_34 dX0_weather_52 rfl rfl ?_
      refine Ev.iload_1 dX0_weather_55 rfl ?_
      refine Ev.aldn dX0_weather_56 rfl (by omega) (by decide) ?_
      refine Ev.iconst (v := 3) dX0_weather_57 (by decide) ?_
      refine Ev.icmp_ge 71 dX0_weather_58 (by decide) (fun h58 => ?_) (fun h58 => ?_)
      · rw [show wth2 _ w = _ from if_neg (fun q => q.2 h58)]
        refine Ev.vret dX0_weather_71 ?_
        exact ⟨rfl, rfl⟩
      rw [show wth2 _ w = up2 _ 7 w (_ + 1) from if_pos ⟨h48, h58⟩]
      refine Ev.aload_0 dX0_weather_61 rfl ?_
      refine Ev.getf cf0 7 (by decide) wf_X0_34 dX0_weather_62 rfl rfl ?_
      refine Ev.iload_1 dX0_weather_65 rfl ?_
      refine Ev.dup2 dX0_weather_66 rfl rfl ?_
      refine Ev.aldn dX0_weather_67 rfl (by omega) (by decide) ?_
      refine Ev.iconst (v := 1) dX0_weather_68 (by decide) ?_
      refine Ev.iadd dX0_weather_69 ?_
      refine aw_landW_6 dX0_weather_70 (by omega) ?_
      refine Ev.vret dX0_weather_71 ?_
      exact ⟨rfl, rfl⟩
    refine Ev.aload_0 dX0_weather_21 rfl ?_
    refine Ev.getf cf0 4 (by decide) wf_X0_25 dX0_weather_22 rfl rfl ?_
    refine Ev.iload_1 dX0_weather_25 rfl ?_
    refine Ev.aldn dX0_weather_26 rfl (by omega) (by decide) ?_
    refine Ev.iconst (v := 1) dX0_weather_27 (by decide) ?_
    refine Ev.icmp_le 41 dX0_weather_28 (by decide) (fun h28 => ?_) (fun h28 => ?_)
    · rw [show wth1 LF w = LF from if_neg (fun q => q.2 h28)]
      refine Ev.aload_0 dX0_weather_41 rfl ?_
      refine Ev.getf cf0 3 (by decide) wf_X0_22 dX0_weather_42 rfl rfl ?_
      refine Ev.iload_1 dX0_weather_45 rfl ?_
      refine Ev.aldn dX0_weather_46 rfl (by omega) (by decide) ?_
      refine Ev.iconst (v := 3) dX0_weather_47 (by decide) ?_
      refine Ev.icmp_ne 71 dX0_weather_48 (by decide) (fun h48 => ?_) (fun h48 => ?_)
      · rw [show wth2 _ w = _ from if_neg (fun q => h48 q.1)]
        refine Ev.vret dX0_weather_71 ?_
        exact ⟨rfl, rfl⟩
      refine Ev.aload_0 dX0_weather_51 rfl ?_
      refine Ev.getf cf0 7 (by decide) wf_X0_34 dX0_weather_52 rfl rfl ?_
      refine Ev.iload_1 dX0_weather_55 rfl ?_
      refine Ev.aldn dX0_weather_56 rfl (by omega) (by decide) ?_
      refine Ev.iconst (v := 3) dX0_weather_57 (by decide) ?_
      refine Ev.icmp_ge 71 dX0_weather_58 (by decide) (fun h58 => ?_) (fun h58 => ?_)
      · rw [show wth2 _ w = _ from if_neg (fun q => q.2 h58)]
        refine Ev.vret dX0_weather_71 ?_
        exact ⟨rfl, rfl⟩
      rw [show wth2 _ w = up2 _ 7 w (_ + 1) from if_pos ⟨h48, h58⟩]
      refine Ev.aload_0 dX0_weather_61 rfl ?_
      refine Ev.getf cf0 7 (by decide) wf_X0_34 dX0_weather_62 rfl rfl ?_
      refine Ev.iload_1 dX0_weather_65 rfl ?_
      refine Ev.dup2 dX0_weather_66 rfl rfl ?_
      refine Ev.aldn dX0_weather_67 rfl (by omega) (by decide) ?_
      refine Ev.iconst (v := 1) dX0_weather_68 (by decide) ?_
      refine Ev.iadd dX0_weather_69 ?_
      refine aw_landW_6 dX0_weather_70 (by omega) ?_
      refine Ev.vret dX0_weather_71 ?_
      exact ⟨rfl, rfl⟩
    rw [show wth1 LF w = up2 LF 4 w (LF 4 w - 1) from if_pos ⟨h18, h28⟩]
    refine Ev.aload_0 dX0_weather_31 rfl ?_
    refine Ev.getf cf0 4 (by decide) wf_X0_25 dX0_weather_32 rfl rfl ?_
    refine Ev.iload_1 dX0_weather_35 rfl ?_
    refine Ev.dup2 dX0_weather_36 rfl rfl ?_
    refine Ev.aldn dX0_weather_37 rfl (by omega) (by decide) ?_
    refine Ev.iconst (v := 1) dX0_weather_38 (by decide) ?_
    refine Ev.isub dX0_weather_39 ?_
    refine aw_landW_3 dX0_weather_40 (by omega) ?_
    refine Ev.aload_0 dX0_weather_41 rfl ?_
    refine Ev.getf cf0 3 (by decide) wf_X0_22 dX0_weather_42 rfl rfl ?_
    refine Ev.iload_1 dX0_weather_45 rfl ?_
    refine Ev.aldn dX0_weather_46 rfl (by omega) (by decide) ?_
    refine Ev.iconst (v := 3) dX0_weather_47 (by decide) ?_
    refine Ev.icmp_ne 71 dX0_weather_48 (by decide) (fun h48 => ?_) (fun h48 => ?_)
    · rw [show wth2 _ w = _ from if_neg (fun q => h48 q.1)]
      refine Ev.vret dX0_weather_71 ?_
      exact ⟨rfl, rfl⟩
    refine Ev.aload_0 dX0_weather_51 rfl ?_
    refine Ev.getf cf0 7 (by decide) wf_X0_34 dX0_weather_52 rfl rfl ?_
    refine Ev.iload_1 dX0_weather_55 rfl ?_
    refine Ev.aldn dX0_weather_56 rfl (by omega) (by decide) ?_
    refine Ev.iconst (v := 3) dX0_weather_57 (by decide) ?_
    refine Ev.icmp_ge 71 dX0_weather_58 (by decide) (fun h58 => ?_) (fun h58 => ?_)
    · rw [show wth2 _ w = _ from if_neg (fun q => q.2 h58)]
      refine Ev.vret dX0_weather_71 ?_
      exact ⟨rfl, rfl⟩
    rw [show wth2 _ w = up2 _ 7 w (_ + 1) from if_pos ⟨h48, h58⟩]
    refine Ev.aload_0 dX0_weather_61 rfl ?_
    refine Ev.getf cf0 7 (by decide) wf_X0_34 dX0_weather_62 rfl rfl ?_
    refine Ev.iload_1 dX0_weather_65 rfl ?_
    refine Ev.dup2 dX0_weather_66 rfl rfl ?_
    refine Ev.aldn dX0_weather_67 rfl (by omega) (by decide) ?_
    refine Ev.iconst (v := 1) dX0_weather_68 (by decide) ?_
    refine Ev.iadd dX0_weather_69 ?_
    refine aw_landW_6 dX0_weather_70 (by omega) ?_
    refine Ev.vret dX0_weather_71 ?_
    exact ⟨rfl, rfl⟩
  rw [show wth LF w = LF from if_pos h7]
  refine Ev.vret dX0_weather_10 ?_
  exact ⟨rfl, rfl⟩

set_option maxHeartbeats 4000000 in
set_option maxRecDepth 100000 in
theorem e_takeWind_l1 {d : Nat} {l : Nat → Int32} {LF : Nat → Nat → Int32} {Q : Option Value → List Ce → Prop} {V N : Nat} (ok : LOK l LF V N) {side force : Int32} : ∀ (n : Nat) (k : Nat) (acc R : Int32) (x : Option Value), k + n = V → lbF (vC LF) N side force n k acc = R → Ev (d + 2) yX0_takeWind cX0_takeWind (some .int) 42 [some (.ref 0), some (.int side), some (.int force), some (.int R), some (.int (nI V)), x] [] (landW l LF) Q → Ev (d + 2) yX0_takeWind cX0_takeWind (some .int) 5 [some (.ref 0), some (.int side), some (.int force), some (.int acc), some (.int (nI k)), x] [] (landW l LF) Q := by
  intro n
  induction n with
  | zero =>
    intro k acc R x hk hR K
    have hk : k = V := by omega
    subst hk
    have hR : acc = R := hR
    subst hR
    refine Ev.iload dX0_takeWind_5 rfl ?_
    refine Ev.aload_0 dX0_takeWind_7 rfl ?_
    refine Ev.getf cf0 0 (by decide) wf_X0_9 dX0_takeWind_8 rfl rfl ?_
    refine Ev.icmp_ge 42 dX0_takeWind_11 (by decide) (fun h11 => ?_) (fun h11 => ?_)
    · exact K
    · exact absurd (lp_le ok.1 (by omega) (by have := ok.2.2.1; omega)) h11
  | succ n ih =>
    intro k acc R x hk hR K
    refine Ev.iload dX0_takeWind_5 rfl ?_
    refine Ev.aload_0 dX0_takeWind_7 rfl ?_
    refine Ev.getf cf0 0 (by decide) wf_X0_9 dX0_takeWind_8 rfl rfl ?_
    refine Ev.icmp_ge 42 dX0_takeWind_11 (by decide) (fun h11 => ?_) (fun h11 => ?_)
    · exact absurd h11 (lp_ge ok.1 (by omega) (by have := ok.2.2.1; omega))
    refine Ev.aload_0 dX0_takeWind_14 rfl ?_
    refine Ev.iconst (v := -1) dX0_takeWind_15 (by decide) ?_
    refine Ev.iload dX0_takeWind_16 rfl ?_
    refine Ev.iload_1 dX0_takeWind_18 rfl ?_
    refine k_X0_holdBut (e_X0_holdBut (-1) side ok.2.1 ok.2.2.2.1 (by have := ok.2.2.1; omega)) dX0_takeWind_19 wl_X0_62 rfl (Nat.le_of_ble_eq_true rfl) ?_
    refine Ev.iload_2 dX0_takeWind_22 rfl ?_
    refine kn_X4_liftsAt (e_X4_liftsAt _ _) dX0_takeWind_23 (fun D cy s h => h.2.2.2.2.1) (Nat.le_of_ble_eq_true rfl) ?_
    refine Ev.if_eq 36 dX0_takeWind_26 (by decide) (fun h26 => ?_) (fun h26 => ?_)
    · first | refine Ev.incn4 dX0_takeWind_36 rfl ?_ | refine Ev.inc4 dX0_takeWind_36 rfl ?_
      refine Ev.goto 5 dX0_takeWind_39 (by decide) ?_
      exact ih (k + 1) _ R x (by omega) (by rw [← hR, lbF]; simp [*]) K
    refine Ev.iload_3 dX0_takeWind_29 rfl ?_
    refine Ev.iconst (v := 1) dX0_takeWind_30 (by decide) ?_
    refine Ev.iload dX0_takeWind_31 rfl ?_
    refine Ev.ishl dX0_takeWind_33 ?_
    refine Ev.ior dX0_takeWind_34 ?_
    refine Ev.ist3 dX0_takeWind_35 rfl ?_
    first | refine Ev.incn4 dX0_takeWind_36 rfl ?_ | refine Ev.inc4 dX0_takeWind_36 rfl ?_
    refine Ev.goto 5 dX0_takeWind_39 (by decide) ?_
    exact ih (k + 1) _ R x (by omega) (by rw [← hR, lbF]; simp [*]) K

set_option maxHeartbeats 4000000 in
set_option maxRecDepth 100000 in
theorem e_takeWind_l2 {d : Nat} {Q : Option Value → List Ce → Prop} {N : Nat} (h5 : N ≤ 5) {side force bits step : Int32} : ∀ (n : Nat) (k : Nat) (l : Nat → Int32) (LF : Nat → Nat → Int32) (S : (Nat → Int32) × (Nat → Nat → Int32)), l 1 = nI N → k + n = N → wdF bits step n k l LF = S → Ev (d + 2) yX0_takeWind cX0_takeWind (some .int) 111 [some (.ref 0), some (.int side), some (.int force), some (.int bits), some (.int step), some (.int (nI N))] [] (landW S.1 S.2) Q → Ev (d + 2) yX0_takeWind cX0_takeWind (some .int) 56 [some (.ref 0), some (.int side), some (.int force), some (.int bits), some (.int step), some (.int (nI k))] [] (landW l LF) Q := by
  intro n
  induction n with
  | zero =>
    intro k l LF S hN hk hR K
    have hk : k = N := by omega
    subst hk
    have hR : (l, LF) = S := hR
    subst hR
    refine Ev.iload dX0_takeWind_56 rfl ?_
    refine Ev.aload_0 dX0_takeWind_58 rfl ?_
    refine Ev.getf cf0 1 (by decide) wf_X0_15 dX0_takeWind_59 rfl rfl ?_
    refine Ev.icmp_ge 111 dX0_takeWind_62 (by decide) (fun h62 => ?_) (fun h62 => ?_)
    · exact K
    · exact absurd (lp_le hN (by omega) (by omega)) h62
  | succ n ih =>
    intro k l LF S hN hk hR K
    refine Ev.iload dX0_takeWind_56 rfl ?_
    refine Ev.aload_0 dX0_takeWind_58 rfl ?_
    refine Ev.getf cf0 1 (by decide) wf_X0_15 dX0_takeWind_59 rfl rfl ?_
    refine Ev.icmp_ge 111 dX0_takeWind_62 (by decide) (fun h62 => ?_) (fun h62 => ?_)
    · exact absurd h62 (lp_ge hN (by omega) (by omega))
    refine Ev.aload_0 dX0_takeWind_65 rfl ?_
    refine Ev.getf cf0 5 (by decide) wf_X0_28 dX0_takeWind_66 rfl rfl ?_
    refine Ev.iload dX0_takeWind_69 rfl ?_
    refine Ev.aldn dX0_takeWind_71 rfl (by omega) (by decide) ?_
    refine Ev.iconst (v := -1) dX0_takeWind_72 (by decide) ?_
    refine Ev.icmp_eq 99 dX0_takeWind_73 (by decide) (fun h73 => ?_) (fun h73 => ?_)
    · have e2 : wdF bits step (n + 1) k l LF = wdF bits step n (k + 1) l (wth LF k) := if_pos (Or.inl h73)
      refine Ev.aload_0 dX0_takeWind_99 rfl ?_
      refine Ev.iload dX0_takeWind_100 rfl ?_
      refine k_X0_weather (e_X0_weather (by omega)) dX0_takeWind_102 wl_X0_105 rfl (Nat.le_of_ble_eq_true rfl) ?_
      first | refine Ev.incn5 dX0_takeWind_105 rfl ?_ | refine Ev.inc5 dX0_takeWind_105 rfl ?_
      refine Ev.goto 56 dX0_takeWind_108 (by decide) ?_
      exact ih (k + 1) _ _ S (by first | exact hN | (rw [sld_1]; exact hN)) (by omega) (by rw [← hR, e2]) K
    refine Ev.iload_3 dX0_takeWind_76 rfl ?_
    refine Ev.aload_0 dX0_takeWind_77 rfl ?_
    refine Ev.getf cf0 5 (by decide) wf_X0_28 dX0_takeWind_78 rfl rfl ?_
    refine Ev.iload dX0_takeWind_81 rfl ?_
    refine Ev.aldn dX0_takeWind_83 rfl (by omega) (by decide) ?_
    refine Ev.ishr dX0_takeWind_84 ?_
    refine Ev.iconst (v := 1) dX0_takeWind_85 (by decide) ?_
    refine Ev.iand dX0_takeWind_86 ?_
    refine Ev.iconst (v := 1) dX0_takeWind_87 (by decide) ?_
    refine Ev.icmp_ne 99 dX0_takeWind_88 (by decide) (fun h88 => ?_) (fun h88 => ?_)
    · have e2 : wdF bits step (n + 1) k l LF = wdF bits step n (k + 1) l (wth LF k) := if_pos (Or.inr h88)
      refine Ev.aload_0 dX0_takeWind_99 rfl ?_
      refine Ev.iload dX0_takeWind_100 rfl ?_
      refine k_X0_weather (e_X0_weather (by omega)) dX0_takeWind_102 wl_X0_105 rfl (Nat.le_of_ble_eq_true rfl) ?_
      first | refine Ev.incn5 dX0_takeWind_105 rfl ?_ | refine Ev.inc5 dX0_takeWind_105 rfl ?_
      refine Ev.goto 56 dX0_takeWind_108 (by decide) ?_
      exact ih (k + 1) _ _ S (by first | exact hN | (rw [sld_1]; exact hN)) (by omega) (by rw [← hR, e2]) K
    have e2 : wdF bits step (n + 1) k l LF = wdF bits step n (k + 1) (sld l LF k step).1 (wth (sld l LF k step).2 k) := if_neg (fun q => q.elim h73 (fun z => z h88))
    refine Ev.aload_0 dX0_takeWind_91 rfl ?_
    refine Ev.iload dX0_takeWind_92 rfl ?_
    refine Ev.iload dX0_takeWind_94 rfl ?_
    refine k_X0_slide (e_X0_slide (by omega) step) dX0_takeWind_96 wl_X0_101 rfl (Nat.le_of_ble_eq_true rfl) ?_
    refine Ev.aload_0 dX0_takeWind_99 rfl ?_
    refine Ev.iload dX0_takeWind_100 rfl ?_
    refine k_X0_weather (e_X0_weather (by omega)) dX0_takeWind_102 wl_X0_105 rfl (Nat.le_of_ble_eq_true rfl) ?_
    first | refine Ev.incn5 dX0_takeWind_105 rfl ?_ | refine Ev.inc5 dX0_takeWind_105 rfl ?_
    refine Ev.goto 56 dX0_takeWind_108 (by decide) ?_
    exact ih (k + 1) _ _ S (by first | exact hN | (rw [sld_1]; exact hN)) (by omega) (by rw [← hR, e2]) K

set_option maxHeartbeats 4000000 in
set_option maxRecDepth 100000 in
theorem e_X0_takeWind {d : Nat} {l : Nat → Int32} {LF : Nat → Nat → Int32} {V N : Nat} (ok : LOK l LF V N) (side force : Int32) : Ev (d + 2) yX0_takeWind cX0_takeWind (some .int) 0 [some (.ref 0), some (.int side), some (.int force), none, none, none] [] (landW l LF) (Is (some (.int (bitc (tkB LF V N side force)))) (landW (tkL l LF V N side force) (tkS l LF V N side force).2)) := by
  refine Ev.iconst (v := 0) dX0_takeWind_0 (by decide) ?_
  refine Ev.ist3 dX0_takeWind_1 rfl ?_
  refine Ev.iconst (v := 0) dX0_takeWind_2 (by decide) ?_
  refine Ev.ist4 dX0_takeWind_3 rfl ?_
  refine e_takeWind_l1 ok V 0 _ (tkB LF V N side force) _ (by omega) rfl ?_
  refine Ev.iload_1 dX0_takeWind_42 rfl ?_
  refine Ev.if_ne 50 dX0_takeWind_43 (by decide) (fun h43 => ?_) (fun h43 => ?_)
  · have es : stp side = -1 := if_neg h43
    refine Ev.iconst (v := -1) dX0_takeWind_50 (by decide) ?_
    refine Ev.ist4 dX0_takeWind_51 rfl ?_
    refine Ev.iconst (v := 0) dX0_takeWind_53 (by decide) ?_
    refine Ev.ist5 dX0_takeWind_54 rfl ?_
    refine e_takeWind_l2 ok.2.2.2.1 N 0 l LF (tkS l LF V N side force) ok.2.1 (by omega) (by rw [tkS, es]) ?_
    refine Ev.iload_3 dX0_takeWind_111 rfl ?_
    refine k_J6_bitCount_0f7a4 (e_J6_bitCount_0f7a4 _) dX0_takeWind_112 wl_X0_92 (Nat.le_of_ble_eq_true rfl) ?_
    refine Ev.ist5 dX0_takeWind_115 rfl ?_
    refine Ev.aload_0 dX0_takeWind_117 rfl ?_
    refine Ev.dup dX0_takeWind_118 rfl ?_
    refine Ev.getf cf0 8 (by decide) wf_X0_37 dX0_takeWind_119 rfl rfl ?_
    refine Ev.iconst (v := 1) dX0_takeWind_122 (by decide) ?_
    refine Ev.iadd dX0_takeWind_123 ?_
    refine pw_landW_0_8 dX0_takeWind_124 wf_X0_37 ?_
    refine Ev.aload_0 dX0_takeWind_127 rfl ?_
    refine Ev.dup dX0_takeWind_128 rfl ?_
    refine Ev.getf cf0 9 (by decide) wf_X0_40 dX0_takeWind_129 rfl rfl ?_
    refine Ev.iload dX0_takeWind_132 rfl ?_
    refine Ev.iadd dX0_takeWind_134 ?_
    refine pw_landW_0_9 dX0_takeWind_135 wf_X0_40 ?_
    refine Ev.iload dX0_takeWind_138 rfl ?_
    refine Ev.iret dX0_takeWind_140 ?_
    exact ⟨rfl, rfl⟩
  have es : stp side = 1 := if_pos h43
  refine Ev.iconst (v := 1) dX0_takeWind_46 (by decide) ?_
  refine Ev.goto 51 dX0_takeWind_47 (by decide) ?_
  refine Ev.ist4 dX0_takeWind_51 rfl ?_
  refine Ev.iconst (v := 0) dX0_takeWind_53 (by decide) ?_
  refine Ev.ist5 dX0_takeWind_54 rfl ?_
  refine e_takeWind_l2 ok.2.2.2.1 N 0 l LF (tkS l LF V N side force) ok.2.1 (by omega) (by rw [tkS, es]) ?_
  refine Ev.iload_3 dX0_takeWind_111 rfl ?_
  refine k_J6_bitCount_0f7a4 (e_J6_bitCount_0f7a4 _) dX0_takeWind_112 wl_X0_92 (Nat.le_of_ble_eq_true rfl) ?_
  refine Ev.ist5 dX0_takeWind_115 rfl ?_
  refine Ev.aload_0 dX0_takeWind_117 rfl ?_
  refine Ev.dup dX0_takeWind_118 rfl ?_
  refine Ev.getf cf0 8 (by decide) wf_X0_37 dX0_takeWind_119 rfl rfl ?_
  refine Ev.iconst (v := 1) dX0_takeWind_122 (by decide) ?_
  refine Ev.iadd dX0_takeWind_123 ?_
  refine pw_landW_0_8 dX0_takeWind_124 wf_X0_37 ?_
  refine Ev.aload_0 dX0_takeWind_127 rfl ?_
  refine Ev.dup dX0_takeWind_128 rfl ?_
  refine Ev.getf cf0 9 (by decide) wf_X0_40 dX0_takeWind_129 rfl rfl ?_
  refine Ev.iload dX0_takeWind_132 rfl ?_
  refine Ev.iadd dX0_takeWind_134 ?_
  refine pw_landW_0_9 dX0_takeWind_135 wf_X0_40 ?_
  refine Ev.iload dX0_takeWind_138 rfl ?_
  refine Ev.iret dX0_takeWind_140 ?_
  exact ⟨rfl, rfl⟩

set_option maxHeartbeats 4000000 in
set_option maxRecDepth 100000 in
theorem e_clear_loop {d : Nat} {l : Nat → Int32} {a b : Int32} {Q : Option Value → List Ce → Prop}  : ∀ (n : Nat) (k : Nat) (LF R : Nat → Nat → Int32), k + n = 5 → clrF n k LF = R → Ev (d + 1) yX0_clear cX0_clear none 46 [some (.ref 0), some (.int a), some (.int b), some (.int (nI 5))] [] (landW l R) Q → Ev (d + 1) yX0_clear cX0_clear none 28 [some (.ref 0), some (.int a), some (.int b), some (.int (nI k))] [] (landW l LF) Q := by
  intro n
  induction n with
  | zero =>
    intro k LF R hk hR K
    have hk : k = 5 := by omega
    subst hk
    have hR : LF = R := hR
    subst hR
    refine Ev.iload_3 dX0_clear_28 rfl ?_
    refine Ev.iconst (v := 5) dX0_clear_29 (by decide) ?_
    refine Ev.icmp_ge 46 dX0_clear_30 (by decide) (fun h30 => ?_) (fun h30 => ?_)
    · exact K
    · exact absurd (lp_le (x := 5) (N := 5) rfl (by omega) (by omega)) h30
  | succ n ih =>
    intro k LF R hk hR K
    refine Ev.iload_3 dX0_clear_28 rfl ?_
    refine Ev.iconst (v := 5) dX0_clear_29 (by decide) ?_
    refine Ev.icmp_ge 46 dX0_clear_30 (by decide) (fun h30 => ?_) (fun h30 => ?_)
    · exact absurd h30 (lp_ge (x := 5) (N := 5) rfl (by omega) (by omega))
    refine Ev.aload_0 dX0_clear_33 rfl ?_
    refine Ev.getf cf0 7 (by decide) wf_X0_34 dX0_clear_34 rfl rfl ?_
    refine Ev.iload_3 dX0_clear_37 rfl ?_
    refine Ev.iconst (v := 0) dX0_clear_38 (by decide) ?_
    refine aw_landW_6 dX0_clear_39 (by omega) ?_
    first | refine Ev.incn3 dX0_clear_40 rfl ?_ | refine Ev.inc3 dX0_clear_40 rfl ?_
    refine Ev.goto 28 dX0_clear_43 (by decide) ?_
    exact ih (k + 1) _ R (by omega) (by rw [← hR]; rfl) K

set_option maxHeartbeats 4000000 in
set_option maxRecDepth 100000 in
theorem e_X0_clear {d : Nat} {l : Nat → Int32} {LF : Nat → Nat → Int32} (a b : Int32) : Ev (d + 1) yX0_clear cX0_clear none 0 [some (.ref 0), some (.int a), some (.int b), none] [] (landW l LF) (Is none (landW (clL l a b) (clrF 5 0 LF))) := by
  refine Ev.aload_0 dX0_clear_0 rfl ?_
  refine Ev.iconst (v := 0) dX0_clear_1 (by decide) ?_
  refine Ev.iconst (v := 4) dX0_clear_2 (by decide) ?_
  refine Ev.iload_1 dX0_clear_3 rfl ?_
  refine Ev.mmin dX0_clear_4 wl_X0_46 (Nat.le_of_ble_eq_true rfl) ?_
  refine Ev.mmax dX0_clear_7 wl_X0_52 (Nat.le_of_ble_eq_true rfl) ?_
  refine pw_landW_0_0 dX0_clear_10 wf_X0_9 ?_
  refine Ev.aload_0 dX0_clear_13 rfl ?_
  refine Ev.iconst (v := 0) dX0_clear_14 (by decide) ?_
  refine Ev.iconst (v := 5) dX0_clear_15 (by decide) ?_
  refine Ev.iload_2 dX0_clear_16 rfl ?_
  refine Ev.mmin dX0_clear_17 wl_X0_46 (Nat.le_of_ble_eq_true rfl) ?_
  refine Ev.mmax dX0_clear_20 wl_X0_52 (Nat.le_of_ble_eq_true rfl) ?_
  refine pw_landW_0_1 dX0_clear_23 wf_X0_15 ?_
  refine Ev.iconst (v := 0) dX0_clear_26 (by decide) ?_
  refine Ev.ist3 dX0_clear_27 rfl ?_
  refine e_clear_loop 5 0 LF _ (by omega) rfl ?_
  refine Ev.aload_0 dX0_clear_46 rfl ?_
  refine Ev.iconst (v := 0) dX0_clear_47 (by decide) ?_
  refine pw_landW_0_8 dX0_clear_48 wf_X0_37 ?_
  refine Ev.aload_0 dX0_clear_51 rfl ?_
  refine Ev.iconst (v := 0) dX0_clear_52 (by decide) ?_
  refine pw_landW_0_9 dX0_clear_53 wf_X0_40 ?_
  refine Ev.aload_0 dX0_clear_56 rfl ?_
  refine Ev.iconst (v := 0) dX0_clear_57 (by decide) ?_
  refine pw_landW_0_10 dX0_clear_58 wf_X0_43 ?_
  refine Ev.vret dX0_clear_61 ?_
  exact ⟨rfl, rfl⟩

set_option maxHeartbeats 4000000 in
set_option maxRecDepth 100000 in
theorem e_copyL_1 {d : Nat} {l l2 : Nat → Int32} {L2 : Nat → Nat → Int32} {Q : Option Value → List Ce → Prop}  : ∀ (n : Nat) (k : Nat) (LF R : Nat → Nat → Int32), k + n = 4 → cpB L2 n k LF = R → Ev d yX0_copyFrom cX0_copyFrom none 41 [some (.ref 0), some (.ref 7), some (.int (nI 4))] [] (landLandW l R l2 L2) Q → Ev d yX0_copyFrom cX0_copyFrom none 18 [some (.ref 0), some (.ref 7), some (.int (nI k))] [] (landLandW l LF l2 L2) Q := by
  intro n
  induction n with
  | zero =>
    intro k LF R hk hR K
    have hk : k = 4 := by omega
    subst hk
    have hR : LF = R := hR
    subst hR
    refine Ev.iload_2 dX0_copyFrom_18 rfl ?_
    refine Ev.iconst (v := 4) dX0_copyFrom_19 (by decide) ?_
    refine Ev.icmp_ge 41 dX0_copyFrom_20 (by decide) (fun h20 => ?_) (fun h20 => ?_)
    · exact K
    · exact absurd (lp_le (x := 4) (N := 4) rfl (by omega) (by omega)) h20
  | succ n ih =>
    intro k LF R hk hR K
    refine Ev.iload_2 dX0_copyFrom_18 rfl ?_
    refine Ev.iconst (v := 4) dX0_copyFrom_19 (by decide) ?_
    refine Ev.icmp_ge 41 dX0_copyFrom_20 (by decide) (fun h20 => ?_) (fun h20 => ?_)
    · exact absurd h20 (lp_ge (x := 4) (N := 4) rfl (by omega) (by omega))
    refine Ev.aload_0 dX0_copyFrom_23 rfl ?_
    refine Ev.getf cf0 2 (by decide) wf_X0_18 dX0_copyFrom_24 rfl rfl ?_
    refine Ev.iload_2 dX0_copyFrom_27 rfl ?_
    refine Ev.aload_1 dX0_copyFrom_28 rfl ?_
    refine Ev.getf cf0 2 (by decide) wf_X0_18 dX0_copyFrom_29 rfl rfl ?_
    refine Ev.iload_2 dX0_copyFrom_32 rfl ?_
    refine Ev.aldn dX0_copyFrom_33 rfl (by omega) (by decide) ?_
    refine aw_landLandW_1 dX0_copyFrom_34 (by omega) ?_
    first | refine Ev.incn2 dX0_copyFrom_35 rfl ?_ | refine Ev.inc2 dX0_copyFrom_35 rfl ?_
    refine Ev.goto 18 dX0_copyFrom_38 (by decide) ?_
    exact ih (k + 1) _ R (by omega) (by rw [← hR]; rfl) K

set_option maxHeartbeats 4000000 in
set_option maxRecDepth 100000 in
theorem e_copyL_2 {d : Nat} {l l2 : Nat → Int32} {L2 : Nat → Nat → Int32} {Q : Option Value → List Ce → Prop}  : ∀ (n : Nat) (k : Nat) (LF R : Nat → Nat → Int32), k + n = 5 → cpW L2 n k LF = R → Ev d yX0_copyFrom cX0_copyFrom none 114 [some (.ref 0), some (.ref 7), some (.int (nI 5))] [] (landLandW l R l2 L2) Q → Ev d yX0_copyFrom cX0_copyFrom none 43 [some (.ref 0), some (.ref 7), some (.int (nI k))] [] (landLandW l LF l2 L2) Q := by
  intro n
  induction n with
  | zero =>
    intro k LF R hk hR K
    have hk : k = 5 := by omega
    subst hk
    have hR : LF = R := hR
    subst hR
    refine Ev.iload_2 dX0_copyFrom_43 rfl ?_
    refine Ev.iconst (v := 5) dX0_copyFrom_44 (by decide) ?_
    refine Ev.icmp_ge 114 dX0_copyFrom_45 (by decide) (fun h45 => ?_) (fun h45 => ?_)
    · exact K
    · exact absurd (lp_le (x := 5) (N := 5) rfl (by omega) (by omega)) h45
  | succ n ih =>
    intro k LF R hk hR K
    refine Ev.iload_2 dX0_copyFrom_43 rfl ?_
    refine Ev.iconst (v := 5) dX0_copyFrom_44 (by decide) ?_
    refine Ev.icmp_ge 114 dX0_copyFrom_45 (by decide) (fun h45 => ?_) (fun h45 => ?_)
    · exact absurd h45 (lp_ge (x := 5) (N := 5) rfl (by omega) (by omega))
    refine Ev.aload_0 dX0_copyFrom_48 rfl ?_
    refine Ev.getf cf0 3 (by decide) wf_X0_22 dX0_copyFrom_49 rfl rfl ?_
    refine Ev.iload_2 dX0_copyFrom_52 rfl ?_
    refine Ev.aload_1 dX0_copyFrom_53 rfl ?_
    refine Ev.getf cf0 3 (by decide) wf_X0_22 dX0_copyFrom_54 rfl rfl ?_
    refine Ev.iload_2 dX0_copyFrom_57 rfl ?_
    refine Ev.aldn dX0_copyFrom_58 rfl (by omega) (by decide) ?_
    refine aw_landLandW_2 dX0_copyFrom_59 (by omega) ?_
    refine Ev.aload_0 dX0_copyFrom_60 rfl ?_
    refine Ev.getf cf0 4 (by decide) wf_X0_25 dX0_copyFrom_61 rfl rfl ?_
    refine Ev.iload_2 dX0_copyFrom_64 rfl ?_
    refine Ev.aload_1 dX0_copyFrom_65 rfl ?_
    refine Ev.getf cf0 4 (by decide) wf_X0_25 dX0_copyFrom_66 rfl rfl ?_
    refine Ev.iload_2 dX0_copyFrom_69 rfl ?_
    refine Ev.aldn dX0_copyFrom_70 rfl (by omega) (by decide) ?_
    refine aw_landLandW_3 dX0_copyFrom_71 (by omega) ?_
    refine Ev.aload_0 dX0_copyFrom_72 rfl ?_
    refine Ev.getf cf0 5 (by decide) wf_X0_28 dX0_copyFrom_73 rfl rfl ?_
    refine Ev.iload_2 dX0_copyFrom_76 rfl ?_
    refine Ev.aload_1 dX0_copyFrom_77 rfl ?_
    refine Ev.getf cf0 5 (by decide) wf_X0_28 dX0_copyFrom_78 rfl rfl ?_
    refine Ev.iload_2 dX0_copyFrom_81 rfl ?_
    refine Ev.aldn dX0_copyFrom_82 rfl (by omega) (by decide) ?_
    refine aw_landLandW_4 dX0_copyFrom_83 (by omega) ?_
    refine Ev.aload_0 dX0_copyFrom_84 rfl ?_
    refine Ev.getf cf0 6 (by decide) wf_X0_31 dX0_copyFrom_85 rfl rfl ?_
    refine Ev.iload_2 dX0_copyFrom_88 rfl ?_
    refine Ev.aload_1 dX0_copyFrom_89 rfl ?_
    refine Ev.getf cf0 6 (by decide) wf_X0_31 dX0_copyFrom_90 rfl rfl ?_
    refine Ev.iload_2 dX0_copyFrom_93 rfl ?_
    refine Ev.aldn dX0_copyFrom_94 rfl (by omega) (by decide) ?_
    refine aw_landLandW_5 dX0_copyFrom_95 (by omega) ?_
    refine Ev.aload_0 dX0_copyFrom_96 rfl ?_
    refine Ev.getf cf0 7 (by decide) wf_X0_34 dX0_copyFrom_97 rfl rfl ?_
    refine Ev.iload_2 dX0_copyFrom_100 rfl ?_
    refine Ev.aload_1 dX0_copyFrom_101 rfl ?_
    refine Ev.getf cf0 7 (by decide) wf_X0_34 dX0_copyFrom_102 rfl rfl ?_
    refine Ev.iload_2 dX0_copyFrom_105 rfl ?_
    refine Ev.aldn dX0_copyFrom_106 rfl (by omega) (by decide) ?_
    refine aw_landLandW_6 dX0_copyFrom_107 (by omega) ?_
    first | refine Ev.incn2 dX0_copyFrom_108 rfl ?_ | refine Ev.inc2 dX0_copyFrom_108 rfl ?_
    refine Ev.goto 43 dX0_copyFrom_111 (by decide) ?_
    exact ih (k + 1) _ R (by omega) (by rw [← hR]; rfl) K

set_option maxHeartbeats 4000000 in
set_option maxRecDepth 100000 in
theorem e_X0_copyFrom {d : Nat} {l l2 : Nat → Int32} {LF L2 : Nat → Nat → Int32}  : Ev d yX0_copyFrom cX0_copyFrom none 0 [some (.ref 0), some (.ref 7), none] [] (landLandW l LF l2 L2) (Is none (landLandW (cpL l l2) (cpW L2 5 0 (cpB L2 4 0 LF)) l2 L2)) := by
  refine Ev.aload_0 dX0_copyFrom_0 rfl ?_
  refine Ev.aload_1 dX0_copyFrom_1 rfl ?_
  refine Ev.getf cf0 0 (by decide) wf_X0_9 dX0_copyFrom_2 rfl rfl ?_
  refine pw_landLandW_0_0 dX0_copyFrom_5 wf_X0_9 ?_
  refine Ev.aload_0 dX0_copyFrom_8 rfl ?_
  refine Ev.aload_1 dX0_copyFrom_9 rfl ?_
  refine Ev.getf cf0 1 (by decide) wf_X0_15 dX0_copyFrom_10 rfl rfl ?_
  refine pw_landLandW_0_1 dX0_copyFrom_13 wf_X0_15 ?_
  refine Ev.iconst (v := 0) dX0_copyFrom_16 (by decide) ?_
  refine Ev.ist2 dX0_copyFrom_17 rfl ?_
  refine e_copyL_1 4 0 LF _ (by omega) rfl ?_
  refine Ev.iconst (v := 0) dX0_copyFrom_41 (by decide) ?_
  refine Ev.ist2 dX0_copyFrom_42 rfl ?_
  refine e_copyL_2 5 0 _ _ (by omega) rfl ?_
  refine Ev.aload_0 dX0_copyFrom_114 rfl ?_
  refine Ev.aload_1 dX0_copyFrom_115 rfl ?_
  refine Ev.getf cf0 8 (by decide) wf_X0_37 dX0_copyFrom_116 rfl rfl ?_
  refine pw_landLandW_0_8 dX0_copyFrom_119 wf_X0_37 ?_
  refine Ev.aload_0 dX0_copyFrom_122 rfl ?_
  refine Ev.aload_1 dX0_copyFrom_123 rfl ?_
  refine Ev.getf cf0 9 (by decide) wf_X0_40 dX0_copyFrom_124 rfl rfl ?_
  refine pw_landLandW_0_9 dX0_copyFrom_127 wf_X0_40 ?_
  refine Ev.aload_0 dX0_copyFrom_130 rfl ?_
  refine Ev.aload_1 dX0_copyFrom_131 rfl ?_
  refine Ev.getf cf0 10 (by decide) wf_X0_43 dX0_copyFrom_132 rfl rfl ?_
  refine pw_landLandW_0_10 dX0_copyFrom_135 wf_X0_43 ?_
  refine Ev.vret dX0_copyFrom_138 ?_
  exact ⟨rfl, rfl⟩
