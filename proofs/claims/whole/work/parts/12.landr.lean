def LOK (l : Nat → Int32) (LF : Nat → Nat → Int32) (V N : Nat) : Prop := l 0 = nI V ∧ l 1 = nI N ∧ V ≤ 4 ∧ N ≤ 5 ∧ ∀ k, k < N → LF 5 k = -1 ∨ ∃ v, v < V ∧ LF 5 k = nI v
def jmin (a b : Int32) : Int32 := if b < a then b else a
def jmax (a b : Int32) : Int32 := if a < b then b else a
/-- holdIfOunces -/
def hio (X : Nat → Nat → Int32) (N w : Nat) (heavy side : Int32) : Int32 := if X 3 w = -1 then 0 else hld X N (nI w) (X 3 w).toNatClampNeg side + bear (X 1 w) heavy (X 5 w) * lev (X 4 w) side
def hip (X : Nat → Nat → Int32) (N w v : Nat) (p side : Int32) : Int32 := hld X N (nI w) v side + bear (X 1 w) (X 2 w) 0 * lev p side
def lst (X : Nat → Nat → Int32) (N v : Nat) : Int32 := stb (jmin (hld X N (-1) v 0) (hld X N (-1) v 1))
def loaF (X : Nat → Nat → Int32) (N : Nat) : Nat → Nat → Int32 → Int32
  | 0, _, acc => acc
  | n + 1, v, acc => loaF X N n (v + 1) (jmin acc (lst X N v))
def loa (X : Nat → Nat → Int32) (V N : Nat) : Int32 := loaF X N V 0 99
def lip (X : Nat → Nat → Int32) (N w v : Nat) (p : Int32) : Int32 := stb (jmin (hip X N w v p 0) (hip X N w v p 1))
def bpF (X : Nat → Nat → Int32) (N w v : Nat) : Nat → Nat → Int32 → Int32 → Int32
  | 0, _, b, _ => b
  | n + 1, p, b, g => if lip X N w v (nI p) ≤ g then bpF X N w v n (p + 1) b g else bpF X N w v n (p + 1) (nI p) (lip X N w v (nI p))
def bp (X : Nat → Nat → Int32) (N w v : Nat) : Int32 := bpF X N w v 5 0 0 (-1)
def lmF (X : Nat → Nat → Int32) (N w : Nat) : Nat → Nat → Int32 → Int32
  | 0, _, acc => acc
  | n + 1, v, acc => lmF X N w n (v + 1) (if nI v = X 3 w then acc else jmin acc (lst X N v))
def lm (X : Nat → Nat → Int32) (V N w : Nat) : Int32 := lmF X N w V 0 (stb (jmin (hio X N w (X 2 w + 1) 0) (hio X N w (X 2 w + 1) 1)))
def bmF (X : Nat → Nat → Int32) (V N : Nat) : Nat → Nat → Int32 → Int32 → Int32
  | 0, _, b, _ => b
  | n + 1, w, b, g => if X 3 w = -1 ∨ 9 ≤ X 2 w ∨ lm X V N w ≤ g then bmF X V N n (w + 1) b g else bmF X V N n (w + 1) (nI w) (lm X V N w)
def bm (X : Nat → Nat → Int32) (V N : Nat) : Int32 := bmF X V N N 0 (-1) (loa X V N)
def hwF (X : Nat → Nat → Int32) (N : Nat) (side : Int32) : Nat → Nat → Int32 → Int32
  | 0, _, acc => acc
  | n + 1, v, acc => hwF X N side n (v + 1) (jmin acc (stb (hld X N (-1) v side)))
def hw (X : Nat → Nat → Int32) (V N : Nat) : Int32 := 0 + (hwF X N 0 V 0 9 + 1) + (hwF X N 1 V 0 9 + 1)
def wiF (X : Nat → Nat → Int32) (vv : Int32) : Nat → Nat → Int32 → Int32
  | 0, _, acc => acc
  | n + 1, k, acc => wiF X vv n (k + 1) (if X 3 k = vv then acc ||| ((1 : Int32) <<< (nI k &&& 31)) else acc)
def wi (X : Nat → Nat → Int32) (N : Nat) (vv : Int32) : Int32 := wiF X vv N 0 0
def ozF (X : Nat → Nat → Int32) (vv : Int32) : Nat → Nat → Int32 → Int32
  | 0, _, acc => acc
  | n + 1, k, acc => ozF X vv n (k + 1) (if X 3 k = vv then acc + X 2 k else acc)
def oz (X : Nat → Nat → Int32) (N : Nat) (vv : Int32) : Int32 := ozF X vv N 0 0
def oaF (X : Nat → Nat → Int32) : Nat → Nat → Int32 → Int32
  | 0, _, acc => acc
  | n + 1, k, acc => oaF X n (k + 1) (acc + X 2 k)
def oa (X : Nat → Nat → Int32) (N : Nat) : Int32 := oaF X N 0 0
def ushr (a b : Int32) : Int32 := (a.toUInt32 >>> (b.toUInt32 &&& Int32.toUInt32 31)).toInt32
def bc1 (i : Int32) : Int32 := i - (ushr i 1 &&& 1431655765)
def bc2 (i : Int32) : Int32 := (i &&& 858993459) + (ushr i 2 &&& 858993459)
def bc3 (i : Int32) : Int32 := (i + ushr i 4) &&& 252645135
def bc4 (i : Int32) : Int32 := i + ushr i 8
def bc5 (i : Int32) : Int32 := i + ushr i 16
/-- Integer.bitCount -/
def bitc (i : Int32) : Int32 := bc5 (bc4 (bc3 (bc2 (bc1 i)))) &&& 63

set_option maxHeartbeats 4000000 in
set_option maxRecDepth 100000 in
theorem e_J6_bitCount_0f7a4 {d : Nat} {w : List Ce} (i : Int32) : Ev d yJ6_bitCount_0f7a4 cJ6_bitCount_0f7a4 (some .int) 0 [some (.int i)] [] w (Is (some (.int (bitc i))) w) := by
  refine Ev.iload_0 dJ6_bitCount_0f7a4_0 rfl ?_
  refine Ev.iload_0 dJ6_bitCount_0f7a4_1 rfl ?_
  refine Ev.iconst (v := 1) dJ6_bitCount_0f7a4_2 (by decide) ?_
  refine Ev.iushr dJ6_bitCount_0f7a4_3 rfl ?_
  refine Ev.ldcw wk_J6_265 dJ6_bitCount_0f7a4_4 ?_
  refine Ev.iand dJ6_bitCount_0f7a4_7 ?_
  refine Ev.isub dJ6_bitCount_0f7a4_8 ?_
  refine Ev.ist0 dJ6_bitCount_0f7a4_9 rfl ?_
  refine Ev.iload_0 dJ6_bitCount_0f7a4_10 rfl ?_
  refine Ev.ldcw wk_J6_266 dJ6_bitCount_0f7a4_11 ?_
  refine Ev.iand dJ6_bitCount_0f7a4_14 ?_
  refine Ev.iload_0 dJ6_bitCount_0f7a4_15 rfl ?_
  refine Ev.iconst (v := 2) dJ6_bitCount_0f7a4_16 (by decide) ?_
  refine Ev.iushr dJ6_bitCount_0f7a4_17 rfl ?_
  refine Ev.ldcw wk_J6_266 dJ6_bitCount_0f7a4_18 ?_
  refine Ev.iand dJ6_bitCount_0f7a4_21 ?_
  refine Ev.iadd dJ6_bitCount_0f7a4_22 ?_
  refine Ev.ist0 dJ6_bitCount_0f7a4_23 rfl ?_
  refine Ev.iload_0 dJ6_bitCount_0f7a4_24 rfl ?_
  refine Ev.iload_0 dJ6_bitCount_0f7a4_25 rfl ?_
  refine Ev.iconst (v := 4) dJ6_bitCount_0f7a4_26 (by decide) ?_
  refine Ev.iushr dJ6_bitCount_0f7a4_27 rfl ?_
  refine Ev.iadd dJ6_bitCount_0f7a4_28 ?_
  refine Ev.ldcw wk_J6_267 dJ6_bitCount_0f7a4_29 ?_
  refine Ev.iand dJ6_bitCount_0f7a4_32 ?_
  refine Ev.ist0 dJ6_bitCount_0f7a4_33 rfl ?_
  refine Ev.iload_0 dJ6_bitCount_0f7a4_34 rfl ?_
  refine Ev.iload_0 dJ6_bitCount_0f7a4_35 rfl ?_
  refine Ev.bipush (v := 8) dJ6_bitCount_0f7a4_36 (by decide) ?_
  refine Ev.iushr dJ6_bitCount_0f7a4_38 rfl ?_
  refine Ev.iadd dJ6_bitCount_0f7a4_39 ?_
  refine Ev.ist0 dJ6_bitCount_0f7a4_40 rfl ?_
  refine Ev.iload_0 dJ6_bitCount_0f7a4_41 rfl ?_
  refine Ev.iload_0 dJ6_bitCount_0f7a4_42 rfl ?_
  refine Ev.bipush (v := 16) dJ6_bitCount_0f7a4_43 (by decide) ?_
  refine Ev.iushr dJ6_bitCount_0f7a4_45 rfl ?_
  refine Ev.iadd dJ6_bitCount_0f7a4_46 ?_
  refine Ev.ist0 dJ6_bitCount_0f7a4_47 rfl ?_
  refine Ev.iload_0 dJ6_bitCount_0f7a4_48 rfl ?_
  refine Ev.bipush (v := 63) dJ6_bitCount_0f7a4_49 (by decide) ?_
  refine Ev.iand dJ6_bitCount_0f7a4_51 ?_
  refine Ev.iret dJ6_bitCount_0f7a4_52 ?_
  exact ⟨rfl, rfl⟩

set_option maxHeartbeats 4000000 in
set_option maxRecDepth 100000 in
theorem e_X0_holdIfOunces {d : Nat} {l : Nat → Int32} {LF : Nat → Nat → Int32} {V N : Nat} (ok : LOK l LF V N) {w : Nat} (hw : w < N) (heavy side : Int32) : Ev (d + 2) yX0_holdIfOunces cX0_holdIfOunces (some .int) 0 [some (.ref 0), some (.int (nI w)), some (.int heavy), some (.int side), none, none] [] (landW l LF) (Is (some (.int (hio (vC LF) N w heavy side))) (landW l LF)) := by
  refine Ev.aload_0 dX0_holdIfOunces_0 rfl ?_
  refine Ev.getf cf0 5 (by decide) wf_X0_28 dX0_holdIfOunces_1 rfl rfl ?_
  refine Ev.iload_1 dX0_holdIfOunces_4 rfl ?_
  refine Ev.aldn dX0_holdIfOunces_5 rfl (by have := ok.2.2.2.1; omega) (by decide) ?_
  refine Ev.ist4 dX0_holdIfOunces_6 rfl ?_
  refine Ev.iload dX0_holdIfOunces_8 rfl ?_
  refine Ev.iconst (v := -1) dX0_holdIfOunces_10 (by decide) ?_
  refine Ev.icmp_ne 16 dX0_holdIfOunces_11 (by decide) (fun h11 => ?_) (fun h11 => ?_)
  · obtain ⟨v, hv4, hv⟩ := (ok.2.2.2.2 w hw).resolve_left h11
    have hw5 : w < 5 := by have := ok.2.2.2.1; omega
    have h4 := ok.2.2.1
    have eR : hio (vC LF) N w heavy side = hld (vC LF) N (nI w) v side + bear (LF 3 w) heavy (LF 7 w) * lev (LF 6 w) side := by
      unfold hio
      rw [if_neg (show ¬ vC LF 3 w = -1 from h11), show vC LF 3 w = nI v from hv, nI_clamp (by omega)]
      rfl
    rw [eR, hv]
    refine Ev.aload_0 dX0_holdIfOunces_16 rfl ?_
    refine Ev.getf cf0 3 (by decide) wf_X0_22 dX0_holdIfOunces_17 rfl rfl ?_
    refine Ev.iload_1 dX0_holdIfOunces_20 rfl ?_
    refine Ev.aldn dX0_holdIfOunces_21 rfl (by omega) (by decide) ?_
    refine Ev.iload_2 dX0_holdIfOunces_22 rfl ?_
    refine Ev.aload_0 dX0_holdIfOunces_23 rfl ?_
    refine Ev.getf cf0 7 (by decide) wf_X0_34 dX0_holdIfOunces_24 rfl rfl ?_
    refine Ev.iload_1 dX0_holdIfOunces_27 rfl ?_
    refine Ev.aldn dX0_holdIfOunces_28 rfl (by omega) (by decide) ?_
    refine kn_X4_bearing (e_X4_bearing _ _ _) dX0_holdIfOunces_29 (fun D cy s h => h.2.1) (Nat.le_of_ble_eq_true rfl) ?_
    refine Ev.ist5 dX0_holdIfOunces_32 rfl ?_
    refine Ev.aload_0 dX0_holdIfOunces_34 rfl ?_
    refine Ev.iload_1 dX0_holdIfOunces_35 rfl ?_
    refine Ev.iload dX0_holdIfOunces_36 rfl ?_
    refine Ev.iload_3 dX0_holdIfOunces_38 rfl ?_
    refine k_X0_holdBut (e_X0_holdBut (nI w) side ok.2.1 ok.2.2.2.1 (by omega)) dX0_holdIfOunces_39 wl_X0_62 rfl (Nat.le_of_ble_eq_true rfl) ?_
    refine Ev.iload dX0_holdIfOunces_42 rfl ?_
    refine Ev.aload_0 dX0_holdIfOunces_44 rfl ?_
    refine Ev.getf cf0 6 (by decide) wf_X0_31 dX0_holdIfOunces_45 rfl rfl ?_
    refine Ev.iload_1 dX0_holdIfOunces_48 rfl ?_
    refine Ev.aldn dX0_holdIfOunces_49 rfl (by omega) (by decide) ?_
    refine Ev.iload_3 dX0_holdIfOunces_50 rfl ?_
    refine kn_X4_leverage (e_X4_leverage _ _) dX0_holdIfOunces_51 (fun D cy s h => h.2.2.1) (Nat.le_of_ble_eq_true rfl) ?_
    refine Ev.imul dX0_holdIfOunces_54 ?_
    refine Ev.iadd dX0_holdIfOunces_55 ?_
    refine Ev.iret dX0_holdIfOunces_56 ?_
    exact ⟨rfl, rfl⟩
  rw [show hio (vC LF) N w heavy side = 0 from if_pos h11]
  refine Ev.iconst (v := 0) dX0_holdIfOunces_14 (by decide) ?_
  refine Ev.iret dX0_holdIfOunces_15 ?_
  exact ⟨rfl, rfl⟩

set_option maxHeartbeats 4000000 in
set_option maxRecDepth 100000 in
theorem e_X0_holdIfPut {d : Nat} {l : Nat → Int32} {LF : Nat → Nat → Int32} {V N : Nat} (ok : LOK l LF V N) {w v : Nat} (hw : w < N) (hv : v < V) (p side : Int32) : Ev (d + 2) yX0_holdIfPut cX0_holdIfPut (some .int) 0 [some (.ref 0), some (.int (nI w)), some (.int (nI v)), some (.int p), some (.int side), none] [] (landW l LF) (Is (some (.int (hip (vC LF) N w v p side))) (landW l LF)) := by
  have hw5 : w < 5 := by have := ok.2.2.2.1; omega
  have h4 := ok.2.2.1
  refine Ev.aload_0 dX0_holdIfPut_0 rfl ?_
  refine Ev.getf cf0 3 (by decide) wf_X0_22 dX0_holdIfPut_1 rfl rfl ?_
  refine Ev.iload_1 dX0_holdIfPut_4 rfl ?_
  refine Ev.aldn dX0_holdIfPut_5 rfl (by omega) (by decide) ?_
  refine Ev.aload_0 dX0_holdIfPut_6 rfl ?_
  refine Ev.getf cf0 4 (by decide) wf_X0_25 dX0_holdIfPut_7 rfl rfl ?_
  refine Ev.iload_1 dX0_holdIfPut_10 rfl ?_
  refine Ev.aldn dX0_holdIfPut_11 rfl (by omega) (by decide) ?_
  refine Ev.iconst (v := 0) dX0_holdIfPut_12 (by decide) ?_
  refine kn_X4_bearing (e_X4_bearing _ _ _) dX0_holdIfPut_13 (fun D cy s h => h.2.1) (Nat.le_of_ble_eq_true rfl) ?_
  refine Ev.ist5 dX0_holdIfPut_16 rfl ?_
  refine Ev.aload_0 dX0_holdIfPut_18 rfl ?_
  refine Ev.iload_1 dX0_holdIfPut_19 rfl ?_
  refine Ev.iload_2 dX0_holdIfPut_20 rfl ?_
  refine Ev.iload dX0_holdIfPut_21 rfl ?_
  refine k_X0_holdBut (e_X0_holdBut (nI w) side ok.2.1 ok.2.2.2.1 (by omega)) dX0_holdIfPut_23 wl_X0_62 rfl (Nat.le_of_ble_eq_true rfl) ?_
  refine Ev.iload dX0_holdIfPut_26 rfl ?_
  refine Ev.iload_3 dX0_holdIfPut_28 rfl ?_
  refine Ev.iload dX0_holdIfPut_29 rfl ?_
  refine kn_X4_leverage (e_X4_leverage _ _) dX0_holdIfPut_31 (fun D cy s h => h.2.2.1) (Nat.le_of_ble_eq_true rfl) ?_
  refine Ev.imul dX0_holdIfPut_34 ?_
  refine Ev.iadd dX0_holdIfPut_35 ?_
  refine Ev.iret dX0_holdIfPut_36 ?_
  exact ⟨rfl, rfl⟩

set_option maxHeartbeats 4000000 in
set_option maxRecDepth 100000 in
theorem e_X0_leastOf {d : Nat} {l : Nat → Int32} {LF : Nat → Nat → Int32} {V N : Nat} (ok : LOK l LF V N) {v : Nat} (hv : v < V) : Ev (d + 2) yX0_leastOf cX0_leastOf (some .int) 0 [some (.ref 0), some (.int (nI v))] [] (landW l LF) (Is (some (.int (lst (vC LF) N v))) (landW l LF)) := by
  have h4 := ok.2.2.1
  refine Ev.aload_0 dX0_leastOf_0 rfl ?_
  refine Ev.iconst (v := -1) dX0_leastOf_1 (by decide) ?_
  refine Ev.iload_1 dX0_leastOf_2 rfl ?_
  refine Ev.iconst (v := 0) dX0_leastOf_3 (by decide) ?_
  refine k_X0_holdBut (e_X0_holdBut (-1) 0 ok.2.1 ok.2.2.2.1 (by omega)) dX0_leastOf_4 wl_X0_62 rfl (Nat.le_of_ble_eq_true rfl) ?_
  refine Ev.aload_0 dX0_leastOf_7 rfl ?_
  refine Ev.iconst (v := -1) dX0_leastOf_8 (by decide) ?_
  refine Ev.iload_1 dX0_leastOf_9 rfl ?_
  refine Ev.iconst (v := 1) dX0_leastOf_10 (by decide) ?_
  refine k_X0_holdBut (e_X0_holdBut (-1) 1 ok.2.1 ok.2.2.2.1 (by omega)) dX0_leastOf_11 wl_X0_62 rfl (Nat.le_of_ble_eq_true rfl) ?_
  refine Ev.mmin dX0_leastOf_14 wl_X0_46 (Nat.le_of_ble_eq_true rfl) ?_
  refine kn_X4_standBy (e_X4_standBy _) dX0_leastOf_17 (fun D cy s h => h.2.2.2.1) (Nat.le_of_ble_eq_true rfl) ?_
  refine Ev.iret dX0_leastOf_20 ?_
  exact ⟨rfl, rfl⟩

set_option maxHeartbeats 4000000 in
set_option maxRecDepth 100000 in
theorem e_leastOfAll_loop {d : Nat} {l : Nat → Int32} {LF : Nat → Nat → Int32} {V N : Nat} (ok : LOK l LF V N)  : ∀ (n k : Nat) (acc R : Int32), k + n = V → loaF (vC LF) N n k acc = R → Ev (d + 3) yX0_leastOfAll cX0_leastOfAll (some .int) 5 [some (.ref 0), some (.int acc), some (.int (nI k))] [] (landW l LF) (Is (some (.int (R))) (landW l LF)) := by
  intro n
  induction n with
  | zero =>
    intro k acc R hk hR
    refine Ev.iload_2 dX0_leastOfAll_5 rfl ?_
    refine Ev.aload_0 dX0_leastOfAll_6 rfl ?_
    refine Ev.getf cf0 0 (by decide) wf_X0_9 dX0_leastOfAll_7 rfl rfl ?_
    refine Ev.icmp_ge 29 dX0_leastOfAll_10 (by decide) (fun h10 => ?_) (fun h10 => ?_)
    · refine Ev.iload_1 dX0_leastOfAll_29 rfl ?_
      refine Ev.iret dX0_leastOfAll_30 ?_
      exact ⟨by rw [← hR]; rfl, rfl⟩
    · exact absurd (lp_le ok.1 (by omega) (by have := ok.2.2.1; omega)) h10
  | succ n ih =>
    intro k acc R hk hR
    refine Ev.iload_2 dX0_leastOfAll_5 rfl ?_
    refine Ev.aload_0 dX0_leastOfAll_6 rfl ?_
    refine Ev.getf cf0 0 (by decide) wf_X0_9 dX0_leastOfAll_7 rfl rfl ?_
    refine Ev.icmp_ge 29 dX0_leastOfAll_10 (by decide) (fun h10 => ?_) (fun h10 => ?_)
    · exact absurd h10 (lp_ge ok.1 (by omega) (by have := ok.2.2.1; omega))
    refine Ev.iload_1 dX0_leastOfAll_13 rfl ?_
    refine Ev.aload_0 dX0_leastOfAll_14 rfl ?_
    refine Ev.iload_2 dX0_leastOfAll_15 rfl ?_
    refine k_X0_leastOf (e_X0_leastOf ok (by omega)) dX0_leastOfAll_16 wl_X0_69 rfl (Nat.le_of_ble_eq_true rfl) ?_
    refine Ev.mmin dX0_leastOfAll_19 wl_X0_46 (Nat.le_of_ble_eq_true rfl) ?_
    refine Ev.ist1 dX0_leastOfAll_22 rfl ?_
    first | refine Ev.incn2 dX0_leastOfAll_23 rfl ?_ | refine Ev.inc2 dX0_leastOfAll_23 rfl ?_
    refine Ev.goto 5 dX0_leastOfAll_26 (by decide) ?_
    exact ih (k + 1) _ R (by omega) (by rw [← hR]; rfl)

set_option maxHeartbeats 4000000 in
set_option maxRecDepth 100000 in
theorem e_X0_leastOfAll {d : Nat} {l : Nat → Int32} {LF : Nat → Nat → Int32} {V N : Nat} (ok : LOK l LF V N)  : Ev (d + 3) yX0_leastOfAll cX0_leastOfAll (some .int) 0 [some (.ref 0), none, none] [] (landW l LF) (Is (some (.int (loa (vC LF) V N))) (landW l LF)) := by
  refine Ev.bipush (v := 99) dX0_leastOfAll_0 (by decide) ?_
  refine Ev.ist1 dX0_leastOfAll_2 rfl ?_
  refine Ev.iconst (v := 0) dX0_leastOfAll_3 (by decide) ?_
  refine Ev.ist2 dX0_leastOfAll_4 rfl ?_
  exact e_leastOfAll_loop ok V 0 _ _ (by omega) rfl

set_option maxHeartbeats 4000000 in
set_option maxRecDepth 100000 in
theorem e_X0_leastIfPut {d : Nat} {l : Nat → Int32} {LF : Nat → Nat → Int32} {V N : Nat} (ok : LOK l LF V N) {w v : Nat} (hw : w < N) (hv : v < V) (p : Int32) : Ev (d + 3) yX0_leastIfPut cX0_leastIfPut (some .int) 0 [some (.ref 0), some (.int (nI w)), some (.int (nI v)), some (.int p)] [] (landW l LF) (Is (some (.int (lip (vC LF) N w v p))) (landW l LF)) := by
  refine Ev.aload_0 dX0_leastIfPut_0 rfl ?_
  refine Ev.iload_1 dX0_leastIfPut_1 rfl ?_
  refine Ev.iload_2 dX0_leastIfPut_2 rfl ?_
  refine Ev.iload_3 dX0_leastIfPut_3 rfl ?_
  refine Ev.iconst (v := 0) dX0_leastIfPut_4 (by decide) ?_
  refine k_X0_holdIfPut (e_X0_holdIfPut ok hw hv p 0) dX0_leastIfPut_5 wl_X0_72 rfl (Nat.le_of_ble_eq_true rfl) ?_
  refine Ev.aload_0 dX0_leastIfPut_8 rfl ?_
  refine Ev.iload_1 dX0_leastIfPut_9 rfl ?_
  refine Ev.iload_2 dX0_leastIfPut_10 rfl ?_
  refine Ev.iload_3 dX0_leastIfPut_11 rfl ?_
  refine Ev.iconst (v := 1) dX0_leastIfPut_12 (by decide) ?_
  refine k_X0_holdIfPut (e_X0_holdIfPut ok hw hv p 1) dX0_leastIfPut_13 wl_X0_72 rfl (Nat.le_of_ble_eq_true rfl) ?_
  refine Ev.mmin dX0_leastIfPut_16 wl_X0_46 (Nat.le_of_ble_eq_true rfl) ?_
  refine kn_X4_standBy (e_X4_standBy _) dX0_leastIfPut_19 (fun D cy s h => h.2.2.2.1) (Nat.le_of_ble_eq_true rfl) ?_
  refine Ev.iret dX0_leastIfPut_22 ?_
  exact ⟨rfl, rfl⟩

set_option maxHeartbeats 4000000 in
set_option maxRecDepth 100000 in
theorem e_bestPlace_loop {d : Nat} {l : Nat → Int32} {LF : Nat → Nat → Int32} {V N : Nat} (ok : LOK l LF V N) {w v : Nat} (hw : w < N) (hv : v < V) : ∀ (n p : Nat) (b gr R : Int32) (x : Option Value), p + n = 5 → lok [some (.ref 0), some (.int (nI w)), some (.int (nI v)), some (.int b), some (.int gr), some (.int (nI p)), x] 6 = true → bpF (vC LF) N w v n p b gr = R → Ev (d + 4) yX0_bestPlace cX0_bestPlace (some .int) 8 [some (.ref 0), some (.int (nI w)), some (.int (nI v)), some (.int b), some (.int gr), some (.int (nI p)), x] [] (landW l LF) (Is (some (.int (R))) (landW l LF)) := by
  intro n
  induction n with
  | zero =>
    intro p b gr R x hk hx hR
    refine Ev.iload dX0_bestPlace_8 rfl ?_
    refine Ev.iconst (v := 4) dX0_bestPlace_10 (by decide) ?_
    refine Ev.icmp_gt 44 dX0_bestPlace_11 (by decide) (fun h11 => ?_) (fun h11 => ?_)
    · refine Ev.iload_3 dX0_bestPlace_44 rfl ?_
      refine Ev.iret dX0_bestPlace_45 ?_
      exact ⟨by rw [← hR]; rfl, rfl⟩
    · exact absurd (lp_lt (x := 4) (N := 4) rfl (by omega) (by omega)) h11
  | succ n ih =>
    intro p b gr R x hk hx hR
    refine Ev.iload dX0_bestPlace_8 rfl ?_
    refine Ev.iconst (v := 4) dX0_bestPlace_10 (by decide) ?_
    refine Ev.icmp_gt 44 dX0_bestPlace_11 (by decide) (fun h11 => ?_) (fun h11 => ?_)
    · exact absurd h11 (lp_gt (x := 4) (N := 4) rfl (by omega) (by omega))
    refine Ev.aload_0 dX0_bestPlace_14 rfl ?_
    refine Ev.iload_1 dX0_bestPlace_15 rfl ?_
    refine Ev.iload_2 dX0_bestPlace_16 rfl ?_
    refine Ev.iload dX0_bestPlace_17 rfl ?_
    refine k_X0_leastIfPut (e_X0_leastIfPut ok hw hv _) dX0_bestPlace_19 wl_X0_76 rfl (Nat.le_of_ble_eq_true rfl) ?_
    refine Ev.ist6 dX0_bestPlace_22 rfl ?_
    refine Ev.iload dX0_bestPlace_24 rfl ?_
    refine Ev.iload dX0_bestPlace_26 rfl ?_
    refine Ev.icmp_le 38 dX0_bestPlace_28 (by decide) (fun h28 => ?_) (fun h28 => ?_)
    · first | refine Ev.incn5 dX0_bestPlace_38 rfl ?_ | refine Ev.inc5 dX0_bestPlace_38 rfl ?_
      refine Ev.goto 8 dX0_bestPlace_41 (by decide) ?_
      exact ih (p + 1) _ _ R _ (by omega) rfl (by simpa [bpF, h28] using hR)
    refine Ev.iload dX0_bestPlace_31 rfl ?_
    refine Ev.ist4 dX0_bestPlace_33 rfl ?_
    refine Ev.iload dX0_bestPlace_35 rfl ?_
    refine Ev.ist3 dX0_bestPlace_37 rfl ?_
    first | refine Ev.incn5 dX0_bestPlace_38 rfl ?_ | refine Ev.inc5 dX0_bestPlace_38 rfl ?_
    refine Ev.goto 8 dX0_bestPlace_41 (by decide) ?_
    exact ih (p + 1) _ _ R _ (by omega) rfl (by simpa [bpF, h28] using hR)

set_option maxHeartbeats 4000000 in
set_option maxRecDepth 100000 in
theorem e_X0_bestPlace {d : Nat} {l : Nat → Int32} {LF : Nat → Nat → Int32} {V N : Nat} (ok : LOK l LF V N) {w v : Nat} (hw : w < N) (hv : v < V) : Ev (d + 4) yX0_bestPlace cX0_bestPlace (some .int) 0 [some (.ref 0), some (.int (nI w)), some (.int (nI v)), none, none, none, none] [] (landW l LF) (Is (some (.int (bp (vC LF) N w v))) (landW l LF)) := by
  refine Ev.iconst (v := 0) dX0_bestPlace_0 (by decide) ?_
  refine Ev.ist3 dX0_bestPlace_1 rfl ?_
  refine Ev.iconst (v := -1) dX0_bestPlace_2 (by decide) ?_
  refine Ev.ist4 dX0_bestPlace_3 rfl ?_
  refine Ev.iconst (v := 0) dX0_bestPlace_5 (by decide) ?_
  refine Ev.ist5 dX0_bestPlace_6 rfl ?_
  exact e_bestPlace_loop ok hw hv 5 0 _ _ _ _ (by omega) rfl rfl

set_option maxHeartbeats 4000000 in
set_option maxRecDepth 100000 in
theorem e_leastMended_loop {d : Nat} {l : Nat → Int32} {LF : Nat → Nat → Int32} {V N : Nat} (ok : LOK l LF V N) {w : Nat} (hw : w < N) (he : Int32) : ∀ (n k : Nat) (acc R : Int32), k + n = V → lmF (vC LF) N w n k acc = R → Ev (d + 3) yX0_leastOfAllIfMended cX0_leastOfAllIfMended (some .int) 33 [some (.ref 0), some (.int (nI w)), some (.int he), some (.int acc), some (.int (nI k))] [] (landW l LF) (Is (some (.int (R))) (landW l LF)) := by
  intro n
  induction n with
  | zero =>
    intro k acc R hk hR
    refine Ev.iload dX0_leastOfAllIfMended_33 rfl ?_
    refine Ev.aload_0 dX0_leastOfAllIfMended_35 rfl ?_
    refine Ev.getf cf0 0 (by decide) wf_X0_9 dX0_leastOfAllIfMended_36 rfl rfl ?_
    refine Ev.icmp_ge 70 dX0_leastOfAllIfMended_39 (by decide) (fun h39 => ?_) (fun h39 => ?_)
    · refine Ev.iload_3 dX0_leastOfAllIfMended_70 rfl ?_
      refine Ev.iret dX0_leastOfAllIfMended_71 ?_
      exact ⟨by rw [← hR]; rfl, rfl⟩
    · exact absurd (lp_le ok.1 (by omega) (by have := ok.2.2.1; omega)) h39
  | succ n ih =>
    intro k acc R hk hR
    refine Ev.iload dX0_leastOfAllIfMended_33 rfl ?_
    refine Ev.aload_0 dX0_leastOfAllIfMended_35 rfl ?_
    refine Ev.getf cf0 0 (by decide) wf_X0_9 dX0_leastOfAllIfMended_36 rfl rfl ?_
    refine Ev.icmp_ge 70 dX0_leastOfAllIfMended_39 (by decide) (fun h39 => ?_) (fun h39 => ?_)
    · exact absurd h39 (lp_ge ok.1 (by omega) (by have := ok.2.2.1; omega))
    refine Ev.iload dX0_leastOfAllIfMended_42 rfl ?_
    refine Ev.aload_0 dX0_leastOfAllIfMended_44 rfl ?_
    refine Ev.getf cf0 5 (by decide) wf_X0_28 dX0_leastOfAllIfMended_45 rfl rfl ?_
    refine Ev.iload_1 dX0_leastOfAllIfMended_48 rfl ?_
    refine Ev.aldn dX0_leastOfAllIfMended_49 rfl (by have := ok.2.2.2.1; omega) (by decide) ?_
    refine Ev.icmp_eq 64 dX0_leastOfAllIfMended_50 (by decide) (fun h50 => ?_) (fun h50 => ?_)
    · first | refine Ev.incn4 dX0_leastOfAllIfMended_64 rfl ?_ | refine Ev.inc4 dX0_leastOfAllIfMended_64 rfl ?_
      refine Ev.goto 33 dX0_leastOfAllIfMended_67 (by decide) ?_
      exact ih (k + 1) _ R (by omega) (by rw [← hR, lmF]; simp [vC, jmin, *])
    refine Ev.iload_3 dX0_leastOfAllIfMended_53 rfl ?_
    refine Ev.aload_0 dX0_leastOfAllIfMended_54 rfl ?_
    refine Ev.iload dX0_leastOfAllIfMended_55 rfl ?_
    refine k_X0_leastOf (e_X0_leastOf ok (by omega)) dX0_leastOfAllIfMended_57 wl_X0_69 rfl (Nat.le_of_ble_eq_true rfl) ?_
    refine Ev.mmin dX0_leastOfAllIfMended_60 wl_X0_46 (Nat.le_of_ble_eq_true rfl) ?_
    refine Ev.ist3 dX0_leastOfAllIfMended_63 rfl ?_
    first | refine Ev.incn4 dX0_leastOfAllIfMended_64 rfl ?_ | refine Ev.inc4 dX0_leastOfAllIfMended_64 rfl ?_
    refine Ev.goto 33 dX0_leastOfAllIfMended_67 (by decide) ?_
    exact ih (k + 1) _ R (by omega) (by rw [← hR, lmF]; simp [vC, jmin, *])

set_option maxHeartbeats 4000000 in
set_option maxRecDepth 100000 in
theorem e_X0_leastOfAllIfMended {d : Nat} {l : Nat → Int32} {LF : Nat → Nat → Int32} {V N : Nat} (ok : LOK l LF V N) {w : Nat} (hw : w < N) : Ev (d + 3) yX0_leastOfAllIfMended cX0_leastOfAllIfMended (some .int) 0 [some (.ref 0), some (.int (nI w)), none, none, none] [] (landW l LF) (Is (some (.int (lm (vC LF) V N w))) (landW l LF)) := by
  refine Ev.aload_0 dX0_leastOfAllIfMended_0 rfl ?_
  refine Ev.getf cf0 4 (by decide) wf_X0_25 dX0_leastOfAllIfMended_1 rfl rfl ?_
  refine Ev.iload_1 dX0_leastOfAllIfMended_4 rfl ?_
  refine Ev.aldn dX0_leastOfAllIfMended_5 rfl (by have := ok.2.2.2.1; omega) (by decide) ?_
  refine Ev.iconst (v := 1) dX0_leastOfAllIfMended_6 (by decide) ?_
  refine Ev.iadd dX0_leastOfAllIfMended_7 ?_
  refine Ev.ist2 dX0_leastOfAllIfMended_8 rfl ?_
  refine Ev.aload_0 dX0_leastOfAllIfMended_9 rfl ?_
  refine Ev.iload_1 dX0_leastOfAllIfMended_10 rfl ?_
  refine Ev.iload_2 dX0_leastOfAllIfMended_11 rfl ?_
  refine Ev.iconst (v := 0) dX0_leastOfAllIfMended_12 (by decide) ?_
  refine k_X0_holdIfOunces (e_X0_holdIfOunces ok hw _ 0) dX0_leastOfAllIfMended_13 wl_X0_79 rfl (Nat.le_of_ble_eq_true rfl) ?_
  refine Ev.aload_0 dX0_leastOfAllIfMended_16 rfl ?_
  refine Ev.iload_1 dX0_leastOfAllIfMended_17 rfl ?_
  refine Ev.iload_2 dX0_leastOfAllIfMended_18 rfl ?_
  refine Ev.iconst (v := 1) dX0_leastOfAllIfMended_19 (by decide) ?_
  refine k_X0_holdIfOunces (e_X0_holdIfOunces ok hw _ 1) dX0_leastOfAllIfMended_20 wl_X0_79 rfl (Nat.le_of_ble_eq_true rfl) ?_
  refine Ev.mmin dX0_leastOfAllIfMended_23 wl_X0_46 (Nat.le_of_ble_eq_true rfl) ?_
  refine kn_X4_standBy (e_X4_standBy _) dX0_leastOfAllIfMended_26 (fun D cy s h => h.2.2.2.1) (Nat.le_of_ble_eq_true rfl) ?_
  refine Ev.ist3 dX0_leastOfAllIfMended_29 rfl ?_
  refine Ev.iconst (v := 0) dX0_leastOfAllIfMended_30 (by decide) ?_
  refine Ev.ist4 dX0_leastOfAllIfMended_31 rfl ?_
  exact e_leastMended_loop ok hw _ V 0 _ _ (by omega) rfl

set_option maxHeartbeats 4000000 in
set_option maxRecDepth 100000 in
theorem e_bestToMend_loop {d : Nat} {l : Nat → Int32} {LF : Nat → Nat → Int32} {V N : Nat} (ok : LOK l LF V N)  : ∀ (n k : Nat) (b gr R : Int32) (x : Option Value), k + n = N → bmF (vC LF) V N n k b gr = R → Ev (d + 4) yX0_bestToMend cX0_bestToMend (some .int) 9 [some (.ref 0), some (.int b), some (.int gr), some (.int (nI k)), x] [] (landW l LF) (Is (some (.int (R))) (landW l LF)) := by
  intro n
  induction n with
  | zero =>
    intro k b gr R x hk hR
    refine Ev.iload_3 dX0_bestToMend_9 rfl ?_
    refine Ev.aload_0 dX0_bestToMend_10 rfl ?_
    refine Ev.getf cf0 1 (by decide) wf_X0_15 dX0_bestToMend_11 rfl rfl ?_
    refine Ev.icmp_ge 62 dX0_bestToMend_14 (by decide) (fun h14 => ?_) (fun h14 => ?_)
    · refine Ev.iload_1 dX0_bestToMend_62 rfl ?_
      refine Ev.iret dX0_bestToMend_63 ?_
      exact ⟨by rw [← hR]; rfl, rfl⟩
    · exact absurd (lp_le ok.2.1 (by omega) (by have := ok.2.2.2.1; omega)) h14
  | succ n ih =>
    intro k b gr R x hk hR
    refine Ev.iload_3 dX0_bestToMend_9 rfl ?_
    refine Ev.aload_0 dX0_bestToMend_10 rfl ?_
    refine Ev.getf cf0 1 (by decide) wf_X0_15 dX0_bestToMend_11 rfl rfl ?_
    refine Ev.icmp_ge 62 dX0_bestToMend_14 (by decide) (fun h14 => ?_) (fun h14 => ?_)
    · exact absurd h14 (lp_ge ok.2.1 (by omega) (by have := ok.2.2.2.1; omega))
    refine Ev.aload_0 dX0_bestToMend_17 rfl ?_
    refine Ev.getf cf0 5 (by decide) wf_X0_28 dX0_bestToMend_18 rfl rfl ?_
    refine Ev.iload_3 dX0_bestToMend_21 rfl ?_
    refine Ev.aldn dX0_bestToMend_22 rfl (by have := ok.2.2.2.1; omega) (by decide) ?_
    refine Ev.iconst (v := -1) dX0_bestToMend_23 (by decide) ?_
    refine Ev.icmp_eq 56 dX0_bestToMend_24 (by decide) (fun h24 => ?_) (fun h24 => ?_)
    · first | refine Ev.incn3 dX0_bestToMend_56 rfl ?_ | refine Ev.inc3 dX0_bestToMend_56 rfl ?_
      refine Ev.goto 9 dX0_bestToMend_59 (by decide) ?_
      exact ih (k + 1) _ _ R _ (by omega) (by rw [← hR, bmF]; simp [vC, *])
    refine Ev.aload_0 dX0_bestToMend_27 rfl ?_
    refine Ev.getf cf0 4 (by decide) wf_X0_25 dX0_bestToMend_28 rfl rfl ?_
    refine Ev.iload_3 dX0_bestToMend_31 rfl ?_
    refine Ev.aldn dX0_bestToMend_32 rfl (by have := ok.2.2.2.1; omega) (by decide) ?_
    refine Ev.bipush (v := 9) dX0_bestToMend_33 (by decide) ?_
    refine Ev.icmp_ge 56 dX0_bestToMend_35 (by decide) (fun h35 => ?_) (fun h35 => ?_)
    · first | refine Ev.incn3 dX0_bestToMend_56 rfl ?_ | refine Ev.inc3 dX0_bestToMend_56 rfl ?_
      refine Ev.goto 9 dX0_bestToMend_59 (by decide) ?_
      exact ih (k + 1) _ _ R _ (by omega) (by rw [← hR, bmF]; simp [vC, *])
    refine Ev.aload_0 dX0_bestToMend_38 rfl ?_
    refine Ev.iload_3 dX0_bestToMend_39 rfl ?_
    refine k_X0_leastOfAllIfMended (e_X0_leastOfAllIfMended ok (by omega)) dX0_bestToMend_40 wl_X0_86 rfl (Nat.le_of_ble_eq_true rfl) ?_
    refine Ev.ist4 dX0_bestToMend_43 rfl ?_
    refine Ev.iload dX0_bestToMend_45 rfl ?_
    refine Ev.iload_2 dX0_bestToMend_47 rfl ?_
    refine Ev.icmp_le 56 dX0_bestToMend_48 (by decide) (fun h48 => ?_) (fun h48 => ?_)
    · first | refine Ev.incn3 dX0_bestToMend_56 rfl ?_ | refine Ev.inc3 dX0_bestToMend_56 rfl ?_
      refine Ev.goto 9 dX0_bestToMend_59 (by decide) ?_
      exact ih (k + 1) _ _ R _ (by omega) (by rw [← hR, bmF]; simp [vC, *])
    refine Ev.iload dX0_bestToMend_51 rfl ?_
    refine Ev.ist2 dX0_bestToMend_53 rfl ?_
    refine Ev.iload_3 dX0_bestToMend_54 rfl ?_
    refine Ev.ist1 dX0_bestToMend_55 rfl ?_
    first | refine Ev.incn3 dX0_bestToMend_56 rfl ?_ | refine Ev.inc3 dX0_bestToMend_56 rfl ?_
    refine Ev.goto 9 dX0_bestToMend_59 (by decide) ?_
    exact ih (k + 1) _ _ R _ (by omega) (by rw [← hR, bmF]; simp [vC, *])

set_option maxHeartbeats 4000000 in
set_option maxRecDepth 100000 in
theorem e_X0_bestToMend {d : Nat} {l : Nat → Int32} {LF : Nat → Nat → Int32} {V N : Nat} (ok : LOK l LF V N)  : Ev (d + 4) yX0_bestToMend cX0_bestToMend (some .int) 0 [some (.ref 0), none, none, none, none] [] (landW l LF) (Is (some (.int (bm (vC LF) V N))) (landW l LF)) := by
  refine Ev.iconst (v := -1) dX0_bestToMend_0 (by decide) ?_
  refine Ev.ist1 dX0_bestToMend_1 rfl ?_
  refine Ev.aload_0 dX0_bestToMend_2 rfl ?_
  refine k_X0_leastOfAll (e_X0_leastOfAll ok) dX0_bestToMend_3 wl_X0_82 rfl (Nat.le_of_ble_eq_true rfl) ?_
  refine Ev.ist2 dX0_bestToMend_6 rfl ?_
  refine Ev.iconst (v := 0) dX0_bestToMend_7 (by decide) ?_
  refine Ev.ist3 dX0_bestToMend_8 rfl ?_
  exact e_bestToMend_loop ok N 0 _ _ _ _ (by omega) rfl

set_option maxHeartbeats 4000000 in
set_option maxRecDepth 100000 in
theorem e_hourly_loop {d : Nat} {l : Nat → Int32} {LF : Nat → Nat → Int32} {V N : Nat} (ok : LOK l LF V N) {acc0 side : Int32} {Q : Option Value → List Ce → Prop} : ∀ (n k : Nat) (acc R : Int32), k + n = V → hwF (vC LF) N side n k acc = R → Ev (d + 2) yX0_hourlyWindsStood cX0_hourlyWindsStood (some .int) 46 [some (.ref 0), some (.int acc0), some (.int side), some (.int R), some (.int (nI V))] [] (landW l LF) Q → Ev (d + 2) yX0_hourlyWindsStood cX0_hourlyWindsStood (some .int) 15 [some (.ref 0), some (.int acc0), some (.int side), some (.int acc), some (.int (nI k))] [] (landW l LF) Q := by
  intro n
  induction n with
  | zero =>
    intro k acc R hk hR K
    have hk : k = V := by omega
    subst hk
    refine Ev.iload dX0_hourlyWindsStood_15 rfl ?_
    refine Ev.aload_0 dX0_hourlyWindsStood_17 rfl ?_
    refine Ev.getf cf0 0 (by decide) wf_X0_9 dX0_hourlyWindsStood_18 rfl rfl ?_
    refine Ev.icmp_ge 46 dX0_hourlyWindsStood_21 (by decide) (fun h21 => ?_) (fun h21 => ?_)
    · exact by rw [← hR] at K; exact K
    · exact absurd (lp_le ok.1 (by omega) (by have := ok.2.2.1; omega)) h21
  | succ n ih =>
    intro k acc R hk hR K
    refine Ev.iload dX0_hourlyWindsStood_15 rfl ?_
    refine Ev.aload_0 dX0_hourlyWindsStood_17 rfl ?_
    refine Ev.getf cf0 0 (by decide) wf_X0_9 dX0_hourlyWindsStood_18 rfl rfl ?_
    refine Ev.icmp_ge 46 dX0_hourlyWindsStood_21 (by decide) (fun h21 => ?_) (fun h21 => ?_)
    · exact absurd h21 (lp_ge ok.1 (by omega) (by have := ok.2.2.1; omega))
    refine Ev.iload_3 dX0_hourlyWindsStood_24 rfl ?_
    refine Ev.aload_0 dX0_hourlyWindsStood_25 rfl ?_
    refine Ev.iconst (v := -1) dX0_hourlyWindsStood_26 (by decide) ?_
    refine Ev.iload dX0_hourlyWindsStood_27 rfl ?_
    refine Ev.iload_2 dX0_hourlyWindsStood_29 rfl ?_
    refine k_X0_holdBut (e_X0_holdBut (-1) side ok.2.1 ok.2.2.2.1 (by have := ok.2.2.1; omega)) dX0_hourlyWindsStood_30 wl_X0_62 rfl (Nat.le_of_ble_eq_true rfl) ?_
    refine kn_X4_standBy (e_X4_standBy _) dX0_hourlyWindsStood_33 (fun D cy s h => h.2.2.2.1) (Nat.le_of_ble_eq_true rfl) ?_
    refine Ev.mmin dX0_hourlyWindsStood_36 wl_X0_46 (Nat.le_of_ble_eq_true rfl) ?_
    refine Ev.ist3 dX0_hourlyWindsStood_39 rfl ?_
    first | refine Ev.incn4 dX0_hourlyWindsStood_40 rfl ?_ | refine Ev.inc4 dX0_hourlyWindsStood_40 rfl ?_
    refine Ev.goto 15 dX0_hourlyWindsStood_43 (by decide) ?_
    exact ih (k + 1) _ R (by omega) (by rw [← hR]; rfl) K

set_option maxHeartbeats 4000000 in
set_option maxRecDepth 100000 in
theorem e_X0_hourlyWindsStood {d : Nat} {l : Nat → Int32} {LF : Nat → Nat → Int32} {V N : Nat} (ok : LOK l LF V N)  : Ev (d + 2) yX0_hourlyWindsStood cX0_hourlyWindsStood (some .int) 0 [some (.ref 0), none, none, none, none] [] (landW l LF) (Is (some (.int (hw (vC LF) V N))) (landW l LF)) := by
  refine Ev.iconst (v := 0) dX0_hourlyWindsStood_0 (by decide) ?_
  refine Ev.ist1 dX0_hourlyWindsStood_1 rfl ?_
  refine Ev.iconst (v := 0) dX0_hourlyWindsStood_2 (by decide) ?_
  refine Ev.ist2 dX0_hourlyWindsStood_3 rfl ?_
  refine Ev.iload_2 dX0_hourlyWindsStood_4 rfl ?_
  refine Ev.iconst (v := 2) dX0_hourlyWindsStood_5 (by decide) ?_
  refine Ev.icmp_ge 58 dX0_hourlyWindsStood_6 (by decide) (fun h6 => ?_) (fun h6 => ?_)
  · exact absurd h6 (by decide)
  refine Ev.bipush (v := 9) dX0_hourlyWindsStood_9 (by decide) ?_
  refine Ev.ist3 dX0_hourlyWindsStood_11 rfl ?_
  refine Ev.iconst (v := 0) dX0_hourlyWindsStood_12 (by decide) ?_
  refine Ev.ist4 dX0_hourlyWindsStood_13 rfl ?_
  refine e_hourly_loop ok V 0 _ _ (by omega) rfl ?_
  refine Ev.iload_1 dX0_hourlyWindsStood_46 rfl ?_
  refine Ev.iload_3 dX0_hourlyWindsStood_47 rfl ?_
  refine Ev.iconst (v := 1) dX0_hourlyWindsStood_48 (by decide) ?_
  refine Ev.iadd dX0_hourlyWindsStood_49 ?_
  refine Ev.iadd dX0_hourlyWindsStood_50 ?_
  refine Ev.ist1 dX0_hourlyWindsStood_51 rfl ?_
  first | refine Ev.incn2 dX0_hourlyWindsStood_52 rfl ?_ | refine Ev.inc2 dX0_hourlyWindsStood_52 rfl ?_
  refine Ev.goto 4 dX0_hourlyWindsStood_55 (by decide) ?_
  refine Ev.iload_2 dX0_hourlyWindsStood_4 rfl ?_
  refine Ev.iconst (v := 2) dX0_hourlyWindsStood_5 (by decide) ?_
  refine Ev.icmp_ge 58 dX0_hourlyWindsStood_6 (by decide) (fun h6 => ?_) (fun h6 => ?_)
  · exact absurd h6 (by decide)
  refine Ev.bipush (v := 9) dX0_hourlyWindsStood_9 (by decide) ?_
  refine Ev.ist3 dX0_hourlyWindsStood_11 rfl ?_
  refine Ev.iconst (v := 0) dX0_hourlyWindsStood_12 (by decide) ?_
  refine Ev.ist4 dX0_hourlyWindsStood_13 rfl ?_
  refine e_hourly_loop ok V 0 _ _ (by omega) rfl ?_
  refine Ev.iload_1 dX0_hourlyWindsStood_46 rfl ?_
  refine Ev.iload_3 dX0_hourlyWindsStood_47 rfl ?_
  refine Ev.iconst (v := 1) dX0_hourlyWindsStood_48 (by decide) ?_
  refine Ev.iadd dX0_hourlyWindsStood_49 ?_
  refine Ev.iadd dX0_hourlyWindsStood_50 ?_
  refine Ev.ist1 dX0_hourlyWindsStood_51 rfl ?_
  first | refine Ev.incn2 dX0_hourlyWindsStood_52 rfl ?_ | refine Ev.inc2 dX0_hourlyWindsStood_52 rfl ?_
  refine Ev.goto 4 dX0_hourlyWindsStood_55 (by decide) ?_
  refine Ev.iload_2 dX0_hourlyWindsStood_4 rfl ?_
  refine Ev.iconst (v := 2) dX0_hourlyWindsStood_5 (by decide) ?_
  refine Ev.icmp_ge 58 dX0_hourlyWindsStood_6 (by decide) (fun h6 => ?_) (fun h6 => ?_)
  · refine Ev.iload_1 dX0_hourlyWindsStood_58 rfl ?_
    refine Ev.iret dX0_hourlyWindsStood_59 ?_
    exact ⟨rfl, rfl⟩
  · exact absurd (by decide) h6

set_option maxHeartbeats 4000000 in
set_option maxRecDepth 100000 in
theorem e_wi_loop {d : Nat} {l : Nat → Int32} {LF : Nat → Nat → Int32} {V N : Nat} (ok : LOK l LF V N) {vv : Int32} : ∀ (n k : Nat) (acc R : Int32), k + n = N → wiF (vC LF) vv n k acc = R → Ev d yX0_weightsIn cX0_weightsIn (some .int) 4 [some (.ref 0), some (.int vv), some (.int acc), some (.int (nI k))] [] (landW l LF) (Is (some (.int (R))) (landW l LF)) := by
  intro n
  induction n with
  | zero =>
    intro k acc R hk hR
    refine Ev.iload_3 dX0_weightsIn_4 rfl ?_
    refine Ev.aload_0 dX0_weightsIn_5 rfl ?_
    refine Ev.getf cf0 1 (by decide) wf_X0_15 dX0_weightsIn_6 rfl rfl ?_
    refine Ev.icmp_ge 34 dX0_weightsIn_9 (by decide) (fun h9 => ?_) (fun h9 => ?_)
    · refine Ev.iload_2 dX0_weightsIn_34 rfl ?_
      refine Ev.iret dX0_weightsIn_35 ?_
      exact ⟨by rw [← hR]; rfl, rfl⟩
    · exact absurd (lp_le ok.2.1 (by omega) (by have := ok.2.2.2.1; omega)) h9
  | succ n ih =>
    intro k acc R hk hR
    refine Ev.iload_3 dX0_weightsIn_4 rfl ?_
    refine Ev.aload_0 dX0_weightsIn_5 rfl ?_
    refine Ev.getf cf0 1 (by decide) wf_X0_15 dX0_weightsIn_6 rfl rfl ?_
    refine Ev.icmp_ge 34 dX0_weightsIn_9 (by decide) (fun h9 => ?_) (fun h9 => ?_)
    · exact absurd h9 (lp_ge ok.2.1 (by omega) (by have := ok.2.2.2.1; omega))
    refine Ev.aload_0 dX0_weightsIn_12 rfl ?_
    refine Ev.getf cf0 5 (by decide) wf_X0_28 dX0_weightsIn_13 rfl rfl ?_
    refine Ev.iload_3 dX0_weightsIn_16 rfl ?_
    refine Ev.aldn dX0_weightsIn_17 rfl (by have := ok.2.2.2.1; omega) (by decide) ?_
    refine Ev.iload_1 dX0_weightsIn_18 rfl ?_
    refine Ev.icmp_ne 28 dX0_weightsIn_19 (by decide) (fun h19 => ?_) (fun h19 => ?_)
    · first | refine Ev.incn3 dX0_weightsIn_28 rfl ?_ | refine Ev.inc3 dX0_weightsIn_28 rfl ?_
      refine Ev.goto 4 dX0_weightsIn_31 (by decide) ?_
      exact ih (k + 1) _ R (by omega) (by simpa [wiF, vC, *] using hR)
    refine Ev.iload_2 dX0_weightsIn_22 rfl ?_
    refine Ev.iconst (v := 1) dX0_weightsIn_23 (by decide) ?_
    refine Ev.iload_3 dX0_weightsIn_24 rfl ?_
    refine Ev.ishl dX0_weightsIn_25 ?_
    refine Ev.ior dX0_weightsIn_26 ?_
    refine Ev.ist2 dX0_weightsIn_27 rfl ?_
    first | refine Ev.incn3 dX0_weightsIn_28 rfl ?_ | refine Ev.inc3 dX0_weightsIn_28 rfl ?_
    refine Ev.goto 4 dX0_weightsIn_31 (by decide) ?_
    exact ih (k + 1) _ R (by omega) (by simpa [wiF, vC, *] using hR)

set_option maxHeartbeats 4000000 in
set_option maxRecDepth 100000 in
theorem e_X0_weightsIn {d : Nat} {l : Nat → Int32} {LF : Nat → Nat → Int32} {V N : Nat} (ok : LOK l LF V N) (vv : Int32) : Ev d yX0_weightsIn cX0_weightsIn (some .int) 0 [some (.ref 0), some (.int vv), none, none] [] (landW l LF) (Is (some (.int (wi (vC LF) N vv))) (landW l LF)) := by
  refine Ev.iconst (v := 0) dX0_weightsIn_0 (by decide) ?_
  refine Ev.ist2 dX0_weightsIn_1 rfl ?_
  refine Ev.iconst (v := 0) dX0_weightsIn_2 (by decide) ?_
  refine Ev.ist3 dX0_weightsIn_3 rfl ?_
  exact e_wi_loop ok N 0 _ _ (by omega) rfl

set_option maxHeartbeats 4000000 in
set_option maxRecDepth 100000 in
theorem e_oz_loop {d : Nat} {l : Nat → Int32} {LF : Nat → Nat → Int32} {V N : Nat} (ok : LOK l LF V N) {vv : Int32} : ∀ (n k : Nat) (acc R : Int32), k + n = N → ozF (vC LF) vv n k acc = R → Ev d yX0_ouncesIn cX0_ouncesIn (some .int) 4 [some (.ref 0), some (.int vv), some (.int acc), some (.int (nI k))] [] (landW l LF) (Is (some (.int (R))) (landW l LF)) := by
  intro n
  induction n with
  | zero =>
    intro k acc R hk hR
    refine Ev.iload_3 dX0_ouncesIn_4 rfl ?_
    refine Ev.aload_0 dX0_ouncesIn_5 rfl ?_
    refine Ev.getf cf0 1 (by decide) wf_X0_15 dX0_ouncesIn_6 rfl rfl ?_
    refine Ev.icmp_ge 37 dX0_ouncesIn_9 (by decide) (fun h9 => ?_) (fun h9 => ?_)
    · refine Ev.iload_2 dX0_ouncesIn_37 rfl ?_
      refine Ev.iret dX0_ouncesIn_38 ?_
      exact ⟨by rw [← hR]; rfl, rfl⟩
    · exact absurd (lp_le ok.2.1 (by omega) (by have := ok.2.2.2.1; omega)) h9
  | succ n ih =>
    intro k acc R hk hR
    refine Ev.iload_3 dX0_ouncesIn_4 rfl ?_
    refine Ev.aload_0 dX0_ouncesIn_5 rfl ?_
    refine Ev.getf cf0 1 (by decide) wf_X0_15 dX0_ouncesIn_6 rfl rfl ?_
    refine Ev.icmp_ge 37 dX0_ouncesIn_9 (by decide) (fun h9 => ?_) (fun h9 => ?_)
    · exact absurd h9 (lp_ge ok.2.1 (by omega) (by have := ok.2.2.2.1; omega))
    refine Ev.aload_0 dX0_ouncesIn_12 rfl ?_
    refine Ev.getf cf0 5 (by decide) wf_X0_28 dX0_ouncesIn_13 rfl rfl ?_
    refine Ev.iload_3 dX0_ouncesIn_16 rfl ?_
    refine Ev.aldn dX0_ouncesIn_17 rfl (by have := ok.2.2.2.1; omega) (by decide) ?_
    refine Ev.iload_1 dX0_ouncesIn_18 rfl ?_
    refine Ev.icmp_ne 31 dX0_ouncesIn_19 (by decide) (fun h19 => ?_) (fun h19 => ?_)
    · first | refine Ev.incn3 dX0_ouncesIn_31 rfl ?_ | refine Ev.inc3 dX0_ouncesIn_31 rfl ?_
      refine Ev.goto 4 dX0_ouncesIn_34 (by decide) ?_
      exact ih (k + 1) _ R (by omega) (by simpa [ozF, vC, *] using hR)
    refine Ev.iload_2 dX0_ouncesIn_22 rfl ?_
    refine Ev.aload_0 dX0_ouncesIn_23 rfl ?_
    refine Ev.getf cf0 4 (by decide) wf_X0_25 dX0_ouncesIn_24 rfl rfl ?_
    refine Ev.iload_3 dX0_ouncesIn_27 rfl ?_
    refine Ev.aldn dX0_ouncesIn_28 rfl (by have := ok.2.2.2.1; omega) (by decide) ?_
    refine Ev.iadd dX0_ouncesIn_29 ?_
    refine Ev.ist2 dX0_ouncesIn_30 rfl ?_
    first | refine Ev.incn3 dX0_ouncesIn_31 rfl ?_ | refine Ev.inc3 dX0_ouncesIn_31 rfl ?_
    refine Ev.goto 4 dX0_ouncesIn_34 (by decide) ?_
    exact ih (k + 1) _ R (by omega) (by simpa [ozF, vC, *] using hR)

set_option maxHeartbeats 4000000 in
set_option maxRecDepth 100000 in
theorem e_X0_ouncesIn {d : Nat} {l : Nat → Int32} {LF : Nat → Nat → Int32} {V N : Nat} (ok : LOK l LF V N) (vv : Int32) : Ev d yX0_ouncesIn cX0_ouncesIn (some .int) 0 [some (.ref 0), some (.int vv), none, none] [] (landW l LF) (Is (some (.int (oz (vC LF) N vv))) (landW l LF)) := by
  refine Ev.iconst (v := 0) dX0_ouncesIn_0 (by decide) ?_
  refine Ev.ist2 dX0_ouncesIn_1 rfl ?_
  refine Ev.iconst (v := 0) dX0_ouncesIn_2 (by decide) ?_
  refine Ev.ist3 dX0_ouncesIn_3 rfl ?_
  exact e_oz_loop ok N 0 _ _ (by omega) rfl

set_option maxHeartbeats 4000000 in
set_option maxRecDepth 100000 in
theorem e_oa_loop {d : Nat} {l : Nat → Int32} {LF : Nat → Nat → Int32} {V N : Nat} (ok : LOK l LF V N)  : ∀ (n k : Nat) (acc R : Int32), k + n = N → oaF (vC LF) n k acc = R → Ev d yX0_ouncesOfAll cX0_ouncesOfAll (some .int) 4 [some (.ref 0), some (.int acc), some (.int (nI k))] [] (landW l LF) (Is (some (.int (R))) (landW l LF)) := by
  intro n
  induction n with
  | zero =>
    intro k acc R hk hR
    refine Ev.iload_2 dX0_ouncesOfAll_4 rfl ?_
    refine Ev.aload_0 dX0_ouncesOfAll_5 rfl ?_
    refine Ev.getf cf0 1 (by decide) wf_X0_15 dX0_ouncesOfAll_6 rfl rfl ?_
    refine Ev.icmp_ge 27 dX0_ouncesOfAll_9 (by decide) (fun h9 => ?_) (fun h9 => ?_)
    · refine Ev.iload_1 dX0_ouncesOfAll_27 rfl ?_
      refine Ev.iret dX0_ouncesOfAll_28 ?_
      exact ⟨by rw [← hR]; rfl, rfl⟩
    · exact absurd (lp_le ok.2.1 (by omega) (by have := ok.2.2.2.1; omega)) h9
  | succ n ih =>
    intro k acc R hk hR
    refine Ev.iload_2 dX0_ouncesOfAll_4 rfl ?_
    refine Ev.aload_0 dX0_ouncesOfAll_5 rfl ?_
    refine Ev.getf cf0 1 (by decide) wf_X0_15 dX0_ouncesOfAll_6 rfl rfl ?_
    refine Ev.icmp_ge 27 dX0_ouncesOfAll_9 (by decide) (fun h9 => ?_) (fun h9 => ?_)
    · exact absurd h9 (lp_ge ok.2.1 (by omega) (by have := ok.2.2.2.1; omega))
    refine Ev.iload_1 dX0_ouncesOfAll_12 rfl ?_
    refine Ev.aload_0 dX0_ouncesOfAll_13 rfl ?_
    refine Ev.getf cf0 4 (by decide) wf_X0_25 dX0_ouncesOfAll_14 rfl rfl ?_
    refine Ev.iload_2 dX0_ouncesOfAll_17 rfl ?_
    refine Ev.aldn dX0_ouncesOfAll_18 rfl (by have := ok.2.2.2.1; omega) (by decide) ?_
    refine Ev.iadd dX0_ouncesOfAll_19 ?_
    refine Ev.ist1 dX0_ouncesOfAll_20 rfl ?_
    first | refine Ev.incn2 dX0_ouncesOfAll_21 rfl ?_ | refine Ev.inc2 dX0_ouncesOfAll_21 rfl ?_
    refine Ev.goto 4 dX0_ouncesOfAll_24 (by decide) ?_
    exact ih (k + 1) _ R (by omega) (by rw [← hR]; rfl)

set_option maxHeartbeats 4000000 in
set_option maxRecDepth 100000 in
theorem e_X0_ouncesOfAll {d : Nat} {l : Nat → Int32} {LF : Nat → Nat → Int32} {V N : Nat} (ok : LOK l LF V N)  : Ev d yX0_ouncesOfAll cX0_ouncesOfAll (some .int) 0 [some (.ref 0), none, none] [] (landW l LF) (Is (some (.int (oa (vC LF) N))) (landW l LF)) := by
  refine Ev.iconst (v := 0) dX0_ouncesOfAll_0 (by decide) ?_
  refine Ev.ist1 dX0_ouncesOfAll_1 rfl ?_
  refine Ev.iconst (v := 0) dX0_ouncesOfAll_2 (by decide) ?_
  refine Ev.ist2 dX0_ouncesOfAll_3 rfl ?_
  exact e_oa_loop ok N 0 _ _ (by omega) rfl

set_option maxHeartbeats 4000000 in
set_option maxRecDepth 100000 in
theorem e_X0_weightsOnPlain {d : Nat} {l : Nat → Int32} {LF : Nat → Nat → Int32} {V N : Nat} (ok : LOK l LF V N)  : Ev (d + 1) yX0_weightsOnPlain cX0_weightsOnPlain (some .int) 0 [some (.ref 0)] [] (landW l LF) (Is (some (.int (bitc (wi (vC LF) N (-1))))) (landW l LF)) := by
  refine Ev.aload_0 dX0_weightsOnPlain_0 rfl ?_
  refine Ev.iconst (v := -1) dX0_weightsOnPlain_1 (by decide) ?_
  refine k_X0_weightsIn (e_X0_weightsIn ok (-1)) dX0_weightsOnPlain_2 wl_X0_89 rfl (Nat.le_of_ble_eq_true rfl) ?_
  refine k_J6_bitCount_0f7a4 (e_J6_bitCount_0f7a4 _) dX0_weightsOnPlain_5 wl_X0_92 (Nat.le_of_ble_eq_true rfl) ?_
  refine Ev.iret dX0_weightsOnPlain_8 ?_
  exact ⟨rfl, rfl⟩
