def fld (f : Nat → Int32) : Nat → Nat → Int64 → Int64
  | 0, _, h => h
  | n + 1, j, h => fld f n (j + 1) (mxd h (f j).toInt64)
def fl2 (p q : Nat → Int32) : Nat → Nat → Int64 → Int64
  | 0, _, h => h
  | n + 1, j, h => fl2 p q n (j + 1) (mxd (mxd h (p j).toInt64) (q j).toInt64)
def flw (f : Nat → Nat → Int32) : Nat → Nat → Int64 → Int64
  | 0, _, h => h
  | n + 1, w, h => flw f n (w + 1) (fld (f w) 8 0 h)
def flv (f p q : Nat → Nat → Int32) (N : Nat) : Nat → Nat → Int64 → Int64
  | 0, _, h => h
  | n + 1, v, h => flv f p q N n (v + 1) (fl2 (p v) (q v) N 0 (fld (f v) 8 0 h))
def wA (LF SF : Nat → Nat → Int32) (N K w j : Nat) : Int32 := if j = 0 then LF 3 w else if j = 1 then LF 4 w else if j = 2 then LF 5 w else if j = 3 then LF 6 w else if j = 4 then bear (LF 3 w) (LF 4 w) (LF 7 w) else if j = 5 then LF 7 w else if j = 6 then po (vC LF) SF N K w else ww (vC LF) SF N K w
def vA (LF : Nat → Nat → Int32) (N v j : Nat) : Int32 := if j = 0 then LF 2 v else if j = 1 then hld (vC LF) N (-1) v 0 else if j = 2 then hld (vC LF) N (-1) v 1 else if j = 3 then stb (hld (vC LF) N (-1) v 0) else if j = 4 then stb (hld (vC LF) N (-1) v 1) else if j = 5 then lst (vC LF) N v else if j = 6 then wi (vC LF) N (nI v) else oz (vC LF) N (nI v)
def cA (h pg l s : Nat → Int32) (LF : Nat → Nat → Int32) (V N j : Nat) : Int32 := if j = 0 then l 0 else if j = 1 then l 1 else if j = 2 then bitc (wi (vC LF) N (-1)) else if j = 3 then oa (vC LF) N else if j = 4 then (if V = 0 then 0 else loa (vC LF) V N) else if j = 5 then l 8 else if j = 6 then l 9 else if j = 7 then l 10 else if j = 8 then s 0 else if j = 9 then pg 1 else if j = 10 then h 8 else h 9
def dgT (LF : Nat → Nat → Int32) (V N : Nat) (x : Int64) : Int64 := if V = 0 then x else mxd (mxd (mxd x (bm (vC LF) V N).toInt64) (powF (iltF (hw (vC LF) V N) 20 19) 3 1).toInt64) (powF (iltF 20 (hw (vC LF) V N) 19) 3 1).toInt64
def dgC (h pg l s : Nat → Int32) (PF LF SF : Nat → Nat → Int32) (V N L K : Nat) : Int64 :=
  fld (cA h pg l s LF V N) 12 0 (fld (PF 0) L 0 (dgT LF V N (flv (fun v => vA LF N v) (fun v w => bp (vC LF) N w v) (fun v w => lip (vC LF) N w v (bp (vC LF) N w v)) N V 0 (flw (fun w => wA LF SF N K w) N 0 1163))))
theorem fhF_ne (X : Nat → Nat → Int32) (N w : Nat) (side : Int32) {a : Nat} (ha : a ≠ 5) : ∀ (n h : Nat) (SF : Nat → Nat → Int32), fhF X N w side n h SF a = SF a
  | 0, _, _ => rfl
  | n + 1, h, SF => by rw [fhF, fhF_ne X N w side ha n]; simp [up2, ha]
theorem wwS_ne (X SF : Nat → Nat → Int32) (N K w : Nat) {a : Nat} (ha : a ≠ 5) : wwS X SF N K w a = SF a := by
  unfold wwS
  split
  · rfl
  · rw [fh, fhF_ne _ _ _ _ ha, fh, fhF_ne _ _ _ _ ha]
theorem poF_congr {X SF SF0 : Nat → Nat → Int32} (N w : Nat) (h : ∀ a, a ≠ 5 → SF a = SF0 a) : ∀ (n i : Nat) (b : Int32), poF X SF N w n i b = poF X SF0 N w n i b
  | 0, _, _ => rfl
  | n + 1, i, b => by rw [poF, poF, poF_congr N w h n, h 1 (by decide), h 2 (by decide), h 3 (by decide), h 4 (by decide)]
theorem po_congr {X SF SF0 : Nat → Nat → Int32} (N K w : Nat) (h : ∀ a, a ≠ 5 → SF a = SF0 a) : po X SF N K w = po X SF0 N K w := by
  unfold po; rw [poF_congr N w h]
theorem fhF_5 (X : Nat → Nat → Int32) (N w : Nat) (side : Int32) : ∀ (n h : Nat) (SF : Nat → Nat → Int32) (j : Nat), fhF X N w side n h SF 5 j = if h ≤ j ∧ j < h + n then hio X N w (nI j) side else SF 5 j := by
  intro n
  induction n with
  | zero => intro h SF j; rw [if_neg (by omega)]; rfl
  | succ n ih =>
    intro h SF j
    rw [fhF, ih]
    by_cases h1 : h + 1 ≤ j ∧ j < h + 1 + n
    · rw [if_pos h1, if_pos (by omega)]
    · rw [if_neg h1]
      by_cases h2 : j = h
      · subst h2
        rw [if_pos (by omega)]
        simp [up2, upd]
      · rw [if_neg (by omega)]
        simp [up2, upd, h2]
theorem lwF_congr {hs hs0 : Nat → Int32} (p force : Int32) (hh : ∀ j, 1 ≤ j → j < 10 → hs j = hs0 j) : ∀ (n j : Nat) (c : Int32), 1 ≤ j → j + n ≤ 10 → lwF hs p force n j c = lwF hs0 p force n j c
  | 0, _, _, _, _ => rfl
  | n + 1, j, c, h1, h2 => by rw [lwF, lwF, hh j h1 (by omega), lwF_congr p force hh n (j + 1) _ (by omega) (by omega)]
theorem wwI_congr {hs hs0 : Nat → Int32} (p side : Int32) (hh : ∀ j, 1 ≤ j → j < 10 → hs j = hs0 j) : ∀ (n f : Nat) (b fw : Int32), wwI hs p side n f b fw = wwI hs0 p side n f b fw
  | 0, _, _, _ => rfl
  | n + 1, f, b, fw => by
    have e : lw hs p (nI f) = lw hs0 p (nI f) := by unfold lw; rw [lwF_congr p (nI f) hh 9 1 0 (by omega) (by omega)]
    rw [wwI, wwI, e, wwI_congr p side hh n, wwI_congr p side hh n]
theorem ww_congr {X SF SF0 : Nat → Nat → Int32} (N K w : Nat) (h : ∀ a, a ≠ 5 → SF a = SF0 a) : ww X SF N K w = ww X SF0 N K w := by
  unfold ww
  rw [po_congr N K w h]
  have e0 : ∀ j, 1 ≤ j → j < 10 → fh X N w 0 SF 5 j = fh X N w 0 SF0 5 j := fun j h1 h2 => by rw [fh, fh, fhF_5, fhF_5, if_pos (by omega), if_pos (by omega)]
  have e1 : ∀ j, 1 ≤ j → j < 10 → fh X N w 1 (fh X N w 0 SF) 5 j = fh X N w 1 (fh X N w 0 SF0) 5 j := fun j h1 h2 => by
    show fhF X N w 1 9 1 (fh X N w 0 SF) 5 j = fhF X N w 1 9 1 (fh X N w 0 SF0) 5 j
    rw [fhF_5, fhF_5, if_pos (by omega), if_pos (by omega)]
  rw [wwI_congr _ _ e0, wwI_congr _ _ e1]
theorem wA_congr {LF SF SF0 : Nat → Nat → Int32} (N K w j : Nat) (h : ∀ a, a ≠ 5 → SF a = SF0 a) : wA LF SF N K w j = wA LF SF0 N K w j := by
  unfold wA; rw [po_congr N K w h, ww_congr N K w h]

theorem c_weight_n {d : Nat} {h pg l s il is t k : Nat → Int32} {PF LF SF ILF ISF TF KF : Nat → Nat → Int32} {V N : Nat} (ok : LOK l LF V N) {K : Nat} (hK : s 0 = nI K) (h8 : K ≤ 8) {w : Nat} (hw : w < N) : ∀ (j : Nat), j < 8 → Ev (d + 5) yX4_weight cX4_weight (some .int) 0 [some (.ref 0), some (.int (nI w)), some (.int (nI j))] [] (clsW h pg PF l LF s SF il ILF is ISF t TF k KF) (Is (some (.int (wA LF SF N K w j))) (clsW h pg PF l LF s (if j = 7 then wwS (vC LF) SF N K w else SF) il ILF is ISF t TF k KF))
  | 0, _ => c_weight_0 ok hw
  | 1, _ => c_weight_1 ok hw
  | 2, _ => c_weight_2 ok hw
  | 3, _ => c_weight_3 ok hw
  | 4, _ => c_weight_4 ok hw
  | 5, _ => c_weight_5 ok hw
  | 6, _ => c_weight_6 ok hK h8 hw
  | 7, _ => c_weight_7 ok hK h8 hw
  | j + 8, h => absurd h (by omega)
theorem c_village_n {d : Nat} {h pg l s il is t k : Nat → Int32} {PF LF SF ILF ISF TF KF : Nat → Nat → Int32} {V N : Nat} (ok : LOK l LF V N) {v : Nat} (hv : v < V) : ∀ (j : Nat), j < 8 → Ev (d + 3) yX4_village cX4_village (some .int) 0 [some (.ref 0), some (.int (nI v)), some (.int (nI j))] [] (clsW h pg PF l LF s SF il ILF is ISF t TF k KF) (Is (some (.int (vA LF N v j))) (clsW h pg PF l LF s SF il ILF is ISF t TF k KF))
  | 0, _ => c_village_0 ok hv
  | 1, _ => c_village_1 ok hv
  | 2, _ => c_village_2 ok hv
  | 3, _ => c_village_3 ok hv
  | 4, _ => c_village_4 ok hv
  | 5, _ => c_village_5 ok hv
  | 6, _ => c_village_6 ok hv
  | 7, _ => c_village_7 ok hv
  | j + 8, h => absurd h (by omega)
theorem c_count_4n {d : Nat} {h pg l s il is t k : Nat → Int32} {PF LF SF ILF ISF TF KF : Nat → Nat → Int32} {V N : Nat} (ok : LOK l LF V N) : Ev (d + 4) yX4_count cX4_count (some .int) 0 [some (.ref 0), some (.int 4)] [] (clsW h pg PF l LF s SF il ILF is ISF t TF k KF) (Is (some (.int (if V = 0 then 0 else loa (vC LF) V N))) (clsW h pg PF l LF s SF il ILF is ISF t TF k KF)) := by
  by_cases hV : V = 0
  · subst hV
    exact c_count_4z ok
  · rw [if_neg hV]
    exact c_count_4 ok (by omega)
theorem c_count_n {d : Nat} {h pg l s il is t k : Nat → Int32} {PF LF SF ILF ISF TF KF : Nat → Nat → Int32} {V N : Nat} (ok : LOK l LF V N) : ∀ (j : Nat), j < 12 → Ev (d + 4) yX4_count cX4_count (some .int) 0 [some (.ref 0), some (.int (nI j))] [] (clsW h pg PF l LF s SF il ILF is ISF t TF k KF) (Is (some (.int (cA h pg l s LF V N j))) (clsW h pg PF l LF s SF il ILF is ISF t TF k KF))
  | 0, _ => c_count_0 ok
  | 1, _ => c_count_1 ok
  | 2, _ => c_count_2 ok
  | 3, _ => c_count_3 ok
  | 4, _ => c_count_4n ok
  | 5, _ => c_count_5 ok
  | 6, _ => c_count_6 ok
  | 7, _ => c_count_7 ok
  | 8, _ => c_count_8 ok
  | 9, _ => c_count_9 ok
  | 10, _ => c_count_10 ok
  | 11, _ => c_count_11 ok
  | j + 12, h => absurd h (by omega)
set_option maxHeartbeats 4000000 in
set_option maxRecDepth 100000 in
theorem c_dA_in {d : Nat} {h pg l s il is t k : Nat → Int32} {PF LF ILF ISF TF KF : Nat → Nat → Int32} {Q : Option Value → List Ce → Prop} {V N : Nat} (ok : LOK l LF V N) {K : Nat} (hK : s 0 = nI K) (h8 : K ≤ 8) {w : Nat} (hw : w < N) {SF0 : Nat → Nat → Int32} : ∀ (n j : Nat) (hh : Int64) (SF : Nat → Nat → Int32) (R : Int64), (∀ a, a ≠ 5 → SF a = SF0 a) → j + n = 8 → fld (wA LF SF0 N K w) n j hh = R → (∀ SF : Nat → Nat → Int32, (∀ a, a ≠ 5 → SF a = SF0 a) → Ev (d + 6) yX4_digest cX4_digest (some .long) 46 [some (.ref 0), some (.long (R)), none, some (.int (nI w)), some (.int (nI 8))] [] (clsW h pg PF l LF s SF il ILF is ISF t TF k KF) Q) → Ev (d + 6) yX4_digest cX4_digest (some .long) 20 [some (.ref 0), some (.long (hh)), none, some (.int (nI w)), some (.int (nI j))] [] (clsW h pg PF l LF s SF il ILF is ISF t TF k KF) Q := by
  intro n
  induction n with
  | zero =>
    intro j hh SF R hSF hk hR Kh
    have hk : j = 8 := by omega
    subst hk
    have hR : hh = R := hR
    subst hR
    refine Ev.iload dX4_digest_20 rfl ?_
    refine Ev.bipush (v := 7) dX4_digest_22 (by decide) ?_
    refine Ev.icmp_gt 46 dX4_digest_24 (by decide) (fun h24 => ?_) (fun h24 => ?_)
    · exact Kh _ hSF
    · exact absurd (lp_lt (x := 7) (N := 7) rfl (by omega) (by omega)) h24
  | succ n ih =>
    intro j hh SF R hSF hk hR Kh
    refine Ev.iload dX4_digest_20 rfl ?_
    refine Ev.bipush (v := 7) dX4_digest_22 (by decide) ?_
    refine Ev.icmp_gt 46 dX4_digest_24 (by decide) (fun h24 => ?_) (fun h24 => ?_)
    · exact absurd h24 (lp_gt (x := 7) (N := 7) rfl (by omega) (by omega))
    refine Ev.lload_1 dX4_digest_27 rfl ?_
    refine Ev.aload_0 dX4_digest_28 rfl ?_
    refine Ev.iload_3 dX4_digest_29 rfl ?_
    refine Ev.iload dX4_digest_30 rfl ?_
    refine k_X4_weight (c_weight_n ok hK h8 hw j (by omega)) dX4_digest_32 wl_X4_223 rfl (Nat.le_of_ble_eq_true rfl) ?_
    refine Ev.i2l dX4_digest_35 ?_
    refine k_X4_mixed (c_mxd _ _) dX4_digest_36 wl_X4_226 (Nat.le_of_ble_eq_true rfl) ?_
    refine Ev.lst1 dX4_digest_39 rfl ?_
    first | refine Ev.incn4 dX4_digest_40 rfl ?_ | refine Ev.inc4 dX4_digest_40 rfl ?_
    refine Ev.goto 20 dX4_digest_43 (by decide) ?_
    exact ih (j + 1) _ _ R (fun a ha => by split <;> first | exact hSF a ha | exact (wwS_ne _ _ _ _ _ ha).trans (hSF a ha)) (by omega) (by rw [← hR, fld, ← wA_congr N K w j hSF]) Kh

set_option maxHeartbeats 4000000 in
set_option maxRecDepth 100000 in
theorem c_dA_out {d : Nat} {h pg l s il is t k : Nat → Int32} {PF LF ILF ISF TF KF : Nat → Nat → Int32} {Q : Option Value → List Ce → Prop} {V N : Nat} (ok : LOK l LF V N) {K : Nat} (hK : s 0 = nI K) (h8 : K ≤ 8) {SF0 : Nat → Nat → Int32} : ∀ (n w : Nat) (hh : Int64) (SF : Nat → Nat → Int32) (R : Int64) (x : Option Value), lok [some (.ref 0), some (.long hh), none, some (.int (nI w)), x] 4 = true → (∀ a, a ≠ 5 → SF a = SF0 a) → w + n = N → flw (fun w => wA LF SF0 N K w) n w hh = R → (∀ (SF : Nat → Nat → Int32) (x : Option Value), (∀ a, a ≠ 5 → SF a = SF0 a) → Ev (d + 6) yX4_digest cX4_digest (some .long) 52 [some (.ref 0), some (.long (R)), none, some (.int (nI N)), x] [] (clsW h pg PF l LF s SF il ILF is ISF t TF k KF) Q) → Ev (d + 6) yX4_digest cX4_digest (some .long) 6 [some (.ref 0), some (.long (hh)), none, some (.int (nI w)), x] [] (clsW h pg PF l LF s SF il ILF is ISF t TF k KF) Q := by
  intro n
  induction n with
  | zero =>
    intro w hh SF R x hx hSF hk hR Kh
    have hk : w = N := by omega
    subst hk
    have hR : hh = R := hR
    subst hR
    refine Ev.iload_3 dX4_digest_6 rfl ?_
    refine Ev.aload_0 dX4_digest_7 rfl ?_
    refine Ev.getf cf4 1 (by decide) wf_X4_19 dX4_digest_8 rfl rfl ?_
    refine Ev.getf cf0 1 (by decide) wf_X4_206 dX4_digest_11 rfl rfl ?_
    refine Ev.icmp_ge 52 dX4_digest_14 (by decide) (fun h14 => ?_) (fun h14 => ?_)
    · exact Kh _ _ hSF
    · exact absurd (lp_le ok.2.1 (by omega) (by have := ok.2.2.2.1; omega)) h14
  | succ n ih =>
    intro w hh SF R x hx hSF hk hR Kh
    refine Ev.iload_3 dX4_digest_6 rfl ?_
    refine Ev.aload_0 dX4_digest_7 rfl ?_
    refine Ev.getf cf4 1 (by decide) wf_X4_19 dX4_digest_8 rfl rfl ?_
    refine Ev.getf cf0 1 (by decide) wf_X4_206 dX4_digest_11 rfl rfl ?_
    refine Ev.icmp_ge 52 dX4_digest_14 (by decide) (fun h14 => ?_) (fun h14 => ?_)
    · exact absurd h14 (lp_ge ok.2.1 (by omega) (by have := ok.2.2.2.1; omega))
    refine Ev.iconst (v := 0) dX4_digest_17 (by decide) ?_
    refine Ev.ist4 dX4_digest_18 rfl ?_
    refine c_dA_in ok hK h8 (by omega) 8 0 _ _ _ hSF (by omega) rfl (fun SF hSF => ?_)
    first | refine Ev.incn3 dX4_digest_46 rfl ?_ | refine Ev.inc3 dX4_digest_46 rfl ?_
    refine Ev.goto 6 dX4_digest_49 (by decide) ?_
    exact ih (w + 1) _ _ R _ rfl hSF (by omega) (by rw [← hR]; rfl) Kh

set_option maxHeartbeats 4000000 in
set_option maxRecDepth 100000 in
theorem c_dB_1 {d : Nat} {h pg l s il is t k : Nat → Int32} {PF LF SF ILF ISF TF KF : Nat → Nat → Int32} {Q : Option Value → List Ce → Prop} {V N : Nat} (ok : LOK l LF V N) {v : Nat} (hv : v < V)  : ∀ (n : Nat) (j : Nat) (hh R : Int64), j + n = 8 → fld (vA LF N v) n j hh = R → Ev (d + 6) yX4_digest cX4_digest (some .long) 94 [some (.ref 0), some (.long (R)), none, some (.int (nI v)), some (.int (nI 8))] [] (clsW h pg PF l LF s SF il ILF is ISF t TF k KF) Q → Ev (d + 6) yX4_digest cX4_digest (some .long) 68 [some (.ref 0), some (.long (hh)), none, some (.int (nI v)), some (.int (nI j))] [] (clsW h pg PF l LF s SF il ILF is ISF t TF k KF) Q := by
  intro n
  induction n with
  | zero =>
    intro j hh R hk hR K
    have hk : j = 8 := by omega
    subst hk
    have hR : hh = R := hR
    subst hR
    refine Ev.iload dX4_digest_68 rfl ?_
    refine Ev.bipush (v := 7) dX4_digest_70 (by decide) ?_
    refine Ev.icmp_gt 94 dX4_digest_72 (by decide) (fun h72 => ?_) (fun h72 => ?_)
    · exact K
    · exact absurd (lp_lt (x := 7) (N := 7) rfl (by omega) (by omega)) h72
  | succ n ih =>
    intro j hh R hk hR K
    refine Ev.iload dX4_digest_68 rfl ?_
    refine Ev.bipush (v := 7) dX4_digest_70 (by decide) ?_
    refine Ev.icmp_gt 94 dX4_digest_72 (by decide) (fun h72 => ?_) (fun h72 => ?_)
    · exact absurd h72 (lp_gt (x := 7) (N := 7) rfl (by omega) (by omega))
    refine Ev.lload_1 dX4_digest_75 rfl ?_
    refine Ev.aload_0 dX4_digest_76 rfl ?_
    refine Ev.iload_3 dX4_digest_77 rfl ?_
    refine Ev.iload dX4_digest_78 rfl ?_
    refine k_X4_village (c_village_n ok hv j (by omega)) dX4_digest_80 wl_X4_230 rfl (Nat.le_of_ble_eq_true rfl) ?_
    refine Ev.i2l dX4_digest_83 ?_
    refine k_X4_mixed (c_mxd _ _) dX4_digest_84 wl_X4_226 (Nat.le_of_ble_eq_true rfl) ?_
    refine Ev.lst1 dX4_digest_87 rfl ?_
    first | refine Ev.incn4 dX4_digest_88 rfl ?_ | refine Ev.inc4 dX4_digest_88 rfl ?_
    refine Ev.goto 68 dX4_digest_91 (by decide) ?_
    exact ih (j + 1) _ R (by omega) (by rw [← hR]; rfl) K

set_option maxHeartbeats 4000000 in
set_option maxRecDepth 100000 in
theorem c_dB_2 {d : Nat} {h pg l s il is t k : Nat → Int32} {PF LF SF ILF ISF TF KF : Nat → Nat → Int32} {Q : Option Value → List Ce → Prop} {V N : Nat} (ok : LOK l LF V N) {v : Nat} (hv : v < V)  : ∀ (n : Nat) (j : Nat) (hh R : Int64), j + n = N → fl2 (fun w => bp (vC LF) N w v) (fun w => lip (vC LF) N w v (bp (vC LF) N w v)) n j hh = R → Ev (d + 6) yX4_digest cX4_digest (some .long) 143 [some (.ref 0), some (.long (R)), none, some (.int (nI v)), some (.int (nI N))] [] (clsW h pg PF l LF s SF il ILF is ISF t TF k KF) Q → Ev (d + 6) yX4_digest cX4_digest (some .long) 97 [some (.ref 0), some (.long (hh)), none, some (.int (nI v)), some (.int (nI j))] [] (clsW h pg PF l LF s SF il ILF is ISF t TF k KF) Q := by
  intro n
  induction n with
  | zero =>
    intro j hh R hk hR K
    have hk : j = N := by omega
    subst hk
    have hR : hh = R := hR
    subst hR
    refine Ev.iload dX4_digest_97 rfl ?_
    refine Ev.aload_0 dX4_digest_99 rfl ?_
    refine Ev.getf cf4 1 (by decide) wf_X4_19 dX4_digest_100 rfl rfl ?_
    refine Ev.getf cf0 1 (by decide) wf_X4_206 dX4_digest_103 rfl rfl ?_
    refine Ev.icmp_ge 143 dX4_digest_106 (by decide) (fun h106 => ?_) (fun h106 => ?_)
    · exact K
    · exact absurd (lp_le ok.2.1 (by omega) (by have := ok.2.2.2.1; omega)) h106
  | succ n ih =>
    intro j hh R hk hR K
    refine Ev.iload dX4_digest_97 rfl ?_
    refine Ev.aload_0 dX4_digest_99 rfl ?_
    refine Ev.getf cf4 1 (by decide) wf_X4_19 dX4_digest_100 rfl rfl ?_
    refine Ev.getf cf0 1 (by decide) wf_X4_206 dX4_digest_103 rfl rfl ?_
    refine Ev.icmp_ge 143 dX4_digest_106 (by decide) (fun h106 => ?_) (fun h106 => ?_)
    · exact absurd h106 (lp_ge ok.2.1 (by omega) (by have := ok.2.2.2.1; omega))
    refine Ev.lload_1 dX4_digest_109 rfl ?_
    refine Ev.aload_0 dX4_digest_110 rfl ?_
    refine Ev.iload dX4_digest_111 rfl ?_
    refine Ev.iload_3 dX4_digest_113 rfl ?_
    refine Ev.iconst (v := 0) dX4_digest_114 (by decide) ?_
    refine k_X4_where (c_where_0 ok (by omega) hv) dX4_digest_115 wl_X4_233 rfl (Nat.le_of_ble_eq_true rfl) ?_
    refine Ev.i2l dX4_digest_118 ?_
    refine k_X4_mixed (c_mxd _ _) dX4_digest_119 wl_X4_226 (Nat.le_of_ble_eq_true rfl) ?_
    refine Ev.lst1 dX4_digest_122 rfl ?_
    refine Ev.lload_1 dX4_digest_123 rfl ?_
    refine Ev.aload_0 dX4_digest_124 rfl ?_
    refine Ev.iload dX4_digest_125 rfl ?_
    refine Ev.iload_3 dX4_digest_127 rfl ?_
    refine Ev.iconst (v := 1) dX4_digest_128 (by decide) ?_
    refine k_X4_where (c_where_1 ok (by omega) hv) dX4_digest_129 wl_X4_233 rfl (Nat.le_of_ble_eq_true rfl) ?_
    refine Ev.i2l dX4_digest_132 ?_
    refine k_X4_mixed (c_mxd _ _) dX4_digest_133 wl_X4_226 (Nat.le_of_ble_eq_true rfl) ?_
    refine Ev.lst1 dX4_digest_136 rfl ?_
    first | refine Ev.incn4 dX4_digest_137 rfl ?_ | refine Ev.inc4 dX4_digest_137 rfl ?_
    refine Ev.goto 97 dX4_digest_140 (by decide) ?_
    exact ih (j + 1) _ R (by omega) (by rw [← hR]; rfl) K

set_option maxHeartbeats 4000000 in
set_option maxRecDepth 100000 in
theorem c_dB_out {d : Nat} {h pg l s il is t k : Nat → Int32} {PF LF SF ILF ISF TF KF : Nat → Nat → Int32} {Q : Option Value → List Ce → Prop} {V N : Nat} (ok : LOK l LF V N) : ∀ (n v : Nat) (hh R : Int64) (x : Option Value), lok [some (.ref 0), some (.long hh), none, some (.int (nI v)), x] 4 = true → v + n = V → flv (fun v => vA LF N v) (fun v w => bp (vC LF) N w v) (fun v w => lip (vC LF) N w v (bp (vC LF) N w v)) N n v hh = R → (∀ x : Option Value, Ev (d + 6) yX4_digest cX4_digest (some .long) 149 [some (.ref 0), some (.long (R)), none, some (.int (nI V)), x] [] (clsW h pg PF l LF s SF il ILF is ISF t TF k KF) Q) → Ev (d + 6) yX4_digest cX4_digest (some .long) 54 [some (.ref 0), some (.long (hh)), none, some (.int (nI v)), x] [] (clsW h pg PF l LF s SF il ILF is ISF t TF k KF) Q := by
  intro n
  induction n with
  | zero =>
    intro v hh R x hx hk hR Kh
    have hk : v = V := by omega
    subst hk
    have hR : hh = R := hR
    subst hR
    refine Ev.iload_3 dX4_digest_54 rfl ?_
    refine Ev.aload_0 dX4_digest_55 rfl ?_
    refine Ev.getf cf4 1 (by decide) wf_X4_19 dX4_digest_56 rfl rfl ?_
    refine Ev.getf cf0 0 (by decide) wf_X4_77 dX4_digest_59 rfl rfl ?_
    refine Ev.icmp_ge 149 dX4_digest_62 (by decide) (fun h62 => ?_) (fun h62 => ?_)
    · exact Kh _
    · exact absurd (lp_le ok.1 (by omega) (by have := ok.2.2.1; omega)) h62
  | succ n ih =>
    intro v hh R x hx hk hR Kh
    refine Ev.iload_3 dX4_digest_54 rfl ?_
    refine Ev.aload_0 dX4_digest_55 rfl ?_
    refine Ev.getf cf4 1 (by decide) wf_X4_19 dX4_digest_56 rfl rfl ?_
    refine Ev.getf cf0 0 (by decide) wf_X4_77 dX4_digest_59 rfl rfl ?_
    refine Ev.icmp_ge 149 dX4_digest_62 (by decide) (fun h62 => ?_) (fun h62 => ?_)
    · exact absurd h62 (lp_ge ok.1 (by omega) (by have := ok.2.2.1; omega))
    refine Ev.iconst (v := 0) dX4_digest_65 (by decide) ?_
    refine Ev.ist4 dX4_digest_66 rfl ?_
    refine c_dB_1 ok (by omega) 8 0 _ _ (by omega) rfl ?_
    refine Ev.iconst (v := 0) dX4_digest_94 (by decide) ?_
    refine Ev.ist4 dX4_digest_95 rfl ?_
    refine c_dB_2 ok (by omega) N 0 _ _ (by omega) rfl ?_
    first | refine Ev.incn3 dX4_digest_143 rfl ?_ | refine Ev.inc3 dX4_digest_143 rfl ?_
    refine Ev.goto 54 dX4_digest_146 (by decide) ?_
    exact ih (v + 1) _ R _ rfl (by omega) (by rw [← hR]; rfl) Kh

set_option maxHeartbeats 4000000 in
set_option maxRecDepth 100000 in
theorem c_dC {d : Nat} {h pg l s il is t k : Nat → Int32} {PF LF SF ILF ISF TF KF : Nat → Nat → Int32} {Q : Option Value → List Ce → Prop} {L : Nat} (hL : pg 1 = nI L) (h36 : L ≤ 36) {x : Option Value}  : ∀ (n : Nat) (j : Nat) (hh R : Int64), j + n = L → fld (PF 0) n j hh = R → Ev (d + 6) yX4_digest cX4_digest (some .long) 224 [some (.ref 0), some (.long (R)), none, some (.int (nI L)), x] [] (clsW h pg PF l LF s SF il ILF is ISF t TF k KF) Q → Ev (d + 6) yX4_digest cX4_digest (some .long) 192 [some (.ref 0), some (.long (hh)), none, some (.int (nI j)), x] [] (clsW h pg PF l LF s SF il ILF is ISF t TF k KF) Q := by
  intro n
  induction n with
  | zero =>
    intro j hh R hk hR K
    have hk : j = L := by omega
    subst hk
    have hR : hh = R := hR
    subst hR
    refine Ev.iload_3 dX4_digest_192 rfl ?_
    refine Ev.aload_0 dX4_digest_193 rfl ?_
    refine Ev.getf cf4 0 (by decide) wf_X4_12 dX4_digest_194 rfl rfl ?_
    refine Ev.getf cf2 1 (by decide) wf_X4_57 dX4_digest_197 rfl rfl ?_
    refine Ev.icmp_ge 224 dX4_digest_200 (by decide) (fun h200 => ?_) (fun h200 => ?_)
    · exact K
    · exact absurd (lp_le hL (by omega) (by omega)) h200
  | succ n ih =>
    intro j hh R hk hR K
    refine Ev.iload_3 dX4_digest_192 rfl ?_
    refine Ev.aload_0 dX4_digest_193 rfl ?_
    refine Ev.getf cf4 0 (by decide) wf_X4_12 dX4_digest_194 rfl rfl ?_
    refine Ev.getf cf2 1 (by decide) wf_X4_57 dX4_digest_197 rfl rfl ?_
    refine Ev.icmp_ge 224 dX4_digest_200 (by decide) (fun h200 => ?_) (fun h200 => ?_)
    · exact absurd h200 (lp_ge hL (by omega) (by omega))
    refine Ev.lload_1 dX4_digest_203 rfl ?_
    refine Ev.aload_0 dX4_digest_204 rfl ?_
    refine Ev.getf cf4 0 (by decide) wf_X4_12 dX4_digest_205 rfl rfl ?_
    refine Ev.getf cf2 0 (by decide) wf_X4_242 dX4_digest_208 rfl rfl ?_
    refine Ev.iload_3 dX4_digest_211 rfl ?_
    refine Ev.aldn dX4_digest_212 rfl (by omega) (by decide) ?_
    refine Ev.i2l dX4_digest_213 ?_
    refine k_X4_mixed (c_mxd _ _) dX4_digest_214 wl_X4_226 (Nat.le_of_ble_eq_true rfl) ?_
    refine Ev.lst1 dX4_digest_217 rfl ?_
    first | refine Ev.incn3 dX4_digest_218 rfl ?_ | refine Ev.inc3 dX4_digest_218 rfl ?_
    refine Ev.goto 192 dX4_digest_221 (by decide) ?_
    exact ih (j + 1) _ R (by omega) (by rw [← hR]; rfl) K

set_option maxHeartbeats 4000000 in
set_option maxRecDepth 100000 in
theorem c_dD {d : Nat} {h pg l s il is t k : Nat → Int32} {PF LF SF ILF ISF TF KF : Nat → Nat → Int32} {Q : Option Value → List Ce → Prop} {V N : Nat} (ok : LOK l LF V N) {x : Option Value}  : ∀ (n : Nat) (j : Nat) (hh R : Int64), j + n = 12 → fld (cA h pg l s LF V N) n j hh = R → Ev (d + 6) yX4_digest cX4_digest (some .long) 249 [some (.ref 0), some (.long (R)), none, some (.int (nI 12)), x] [] (clsW h pg PF l LF s SF il ILF is ISF t TF k KF) Q → Ev (d + 6) yX4_digest cX4_digest (some .long) 226 [some (.ref 0), some (.long (hh)), none, some (.int (nI j)), x] [] (clsW h pg PF l LF s SF il ILF is ISF t TF k KF) Q := by
  intro n
  induction n with
  | zero =>
    intro j hh R hk hR K
    have hk : j = 12 := by omega
    subst hk
    have hR : hh = R := hR
    subst hR
    refine Ev.iload_3 dX4_digest_226 rfl ?_
    refine Ev.bipush (v := 11) dX4_digest_227 (by decide) ?_
    refine Ev.icmp_gt 249 dX4_digest_229 (by decide) (fun h229 => ?_) (fun h229 => ?_)
    · exact K
    · exact absurd (lp_lt (x := 11) (N := 11) rfl (by omega) (by omega)) h229
  | succ n ih =>
    intro j hh R hk hR K
    refine Ev.iload_3 dX4_digest_226 rfl ?_
    refine Ev.bipush (v := 11) dX4_digest_227 (by decide) ?_
    refine Ev.icmp_gt 249 dX4_digest_229 (by decide) (fun h229 => ?_) (fun h229 => ?_)
    · exact absurd h229 (lp_gt (x := 11) (N := 11) rfl (by omega) (by omega))
    refine Ev.lload_1 dX4_digest_232 rfl ?_
    refine Ev.aload_0 dX4_digest_233 rfl ?_
    refine Ev.iload_3 dX4_digest_234 rfl ?_
    refine k_X4_count (c_count_n ok j (by omega)) dX4_digest_235 wl_X4_245 rfl (Nat.le_of_ble_eq_true rfl) ?_
    refine Ev.i2l dX4_digest_238 ?_
    refine k_X4_mixed (c_mxd _ _) dX4_digest_239 wl_X4_226 (Nat.le_of_ble_eq_true rfl) ?_
    refine Ev.lst1 dX4_digest_242 rfl ?_
    first | refine Ev.incn3 dX4_digest_243 rfl ?_ | refine Ev.inc3 dX4_digest_243 rfl ?_
    refine Ev.goto 226 dX4_digest_246 (by decide) ?_
    exact ih (j + 1) _ R (by omega) (by rw [← hR]; rfl) K

set_option maxHeartbeats 4000000 in
set_option maxRecDepth 100000 in
theorem c_dT_z {d : Nat} {h pg l s il is t k : Nat → Int32} {PF LF SF ILF ISF TF KF : Nat → Nat → Int32} {SF0 : Nat → Nat → Int32} {V N K : Nat} (hSF : ∀ a, a ≠ 5 → SF a = SF0 a) (hV0 : V = 0) (ok : LOK l LF V N) {L : Nat} (hL : pg 1 = nI L) (h36 : L ≤ 36) {R : Int64} (hR : flv (fun v => vA LF N v) (fun v w => bp (vC LF) N w v) (fun v w => lip (vC LF) N w v (bp (vC LF) N w v)) N V 0 (flw (fun w => wA LF SF0 N K w) N 0 1163) = R) (x : Option Value) : Ev (d + 6) yX4_digest cX4_digest (some .long) 149 [some (.ref 0), some (.long (R)), none, some (.int (nI V)), x] [] (clsW h pg PF l LF s SF il ILF is ISF t TF k KF) (fun r w1 => r = some (.long (dgC h pg l s PF LF SF0 V N L K)) ∧ ∃ SF : Nat → Nat → Int32, (∀ a, a ≠ 5 → SF a = SF0 a) ∧ w1 = (clsW h pg PF l LF s SF il ILF is ISF t TF k KF)) := by
  have e : dgC h pg l s PF LF SF0 V N L K = fld (cA h pg l s LF V N) 12 0 (fld (PF 0) L 0 (R)) := by
    rw [dgC, ← hR, dgT, if_pos hV0]
  subst hV0
  refine Ev.aload_0 dX4_digest_149 rfl ?_
  refine k_X4_hasTable (c_hasTable_f ok) dX4_digest_150 wl_X4_143 rfl (Nat.le_of_ble_eq_true rfl) ?_
  refine Ev.if_eq 190 dX4_digest_153 (by decide) (fun hcst => ?_) (fun hcst => ?_)
  rotate_left
  · exact absurd hcst (by decide)
  refine Ev.iconst (v := 0) dX4_digest_190 (by decide) ?_
  refine Ev.ist3 dX4_digest_191 rfl ?_
  refine c_dC hL h36 L 0 _ _ (by omega) rfl ?_
  refine Ev.iconst (v := 0) dX4_digest_224 (by decide) ?_
  refine Ev.ist3 dX4_digest_225 rfl ?_
  refine c_dD ok 12 0 _ _ (by omega) rfl ?_
  refine Ev.lload_1 dX4_digest_249 rfl ?_
  refine Ev.lret dX4_digest_250 ?_
  exact ⟨by rw [e], SF, hSF, rfl⟩

set_option maxHeartbeats 4000000 in
set_option maxRecDepth 100000 in
theorem c_dT_n {d : Nat} {h pg l s il is t k : Nat → Int32} {PF LF SF ILF ISF TF KF : Nat → Nat → Int32} {SF0 : Nat → Nat → Int32} {V N K : Nat} (hSF : ∀ a, a ≠ 5 → SF a = SF0 a) (hV : 0 < V) (ok : LOK l LF V N) {L : Nat} (hL : pg 1 = nI L) (h36 : L ≤ 36) {R : Int64} (hR : flv (fun v => vA LF N v) (fun v w => bp (vC LF) N w v) (fun v w => lip (vC LF) N w v (bp (vC LF) N w v)) N V 0 (flw (fun w => wA LF SF0 N K w) N 0 1163) = R) (x : Option Value) : Ev (d + 6) yX4_digest cX4_digest (some .long) 149 [some (.ref 0), some (.long (R)), none, some (.int (nI V)), x] [] (clsW h pg PF l LF s SF il ILF is ISF t TF k KF) (fun r w1 => r = some (.long (dgC h pg l s PF LF SF0 V N L K)) ∧ ∃ SF : Nat → Nat → Int32, (∀ a, a ≠ 5 → SF a = SF0 a) ∧ w1 = (clsW h pg PF l LF s SF il ILF is ISF t TF k KF)) := by
  have e : dgC h pg l s PF LF SF0 V N L K = fld (cA h pg l s LF V N) 12 0 (fld (PF 0) L 0 (mxd (mxd (mxd R (bm (vC LF) V N).toInt64) (powF (iltF (hw (vC LF) V N) 20 19) 3 1).toInt64) (powF (iltF 20 (hw (vC LF) V N) 19) 3 1).toInt64)) := by
    rw [dgC, ← hR, dgT, if_neg (by omega)]
  refine Ev.aload_0 dX4_digest_149 rfl ?_
  refine k_X4_hasTable (c_hasTable_t ok hV) dX4_digest_150 wl_X4_143 rfl (Nat.le_of_ble_eq_true rfl) ?_
  refine Ev.if_eq 190 dX4_digest_153 (by decide) (fun hcst => ?_) (fun hcst => ?_)
  · exact absurd hcst (by decide)
  refine Ev.lload_1 dX4_digest_156 rfl ?_
  refine Ev.aload_0 dX4_digest_157 rfl ?_
  refine k_X4_mend (c_mend_k ok hV) dX4_digest_158 wl_X4_236 rfl (Nat.le_of_ble_eq_true rfl) ?_
  refine Ev.i2l dX4_digest_161 ?_
  refine k_X4_mixed (c_mxd _ _) dX4_digest_162 wl_X4_226 (Nat.le_of_ble_eq_true rfl) ?_
  refine Ev.lst1 dX4_digest_165 rfl ?_
  refine Ev.lload_1 dX4_digest_166 rfl ?_
  refine Ev.aload_0 dX4_digest_167 rfl ?_
  refine Ev.iconst (v := 3) dX4_digest_168 (by decide) ?_
  refine Ev.iconst (v := 0) dX4_digest_169 (by decide) ?_
  refine k_X4_odds (c_odds_0 (a := 3) ok hV (by omega) (by omega)) dX4_digest_170 wl_X4_239 rfl (Nat.le_of_ble_eq_true rfl) ?_
  refine Ev.i2l dX4_digest_173 ?_
  refine k_X4_mixed (c_mxd _ _) dX4_digest_174 wl_X4_226 (Nat.le_of_ble_eq_true rfl) ?_
  refine Ev.lst1 dX4_digest_177 rfl ?_
  refine Ev.lload_1 dX4_digest_178 rfl ?_
  refine Ev.aload_0 dX4_digest_179 rfl ?_
  refine Ev.iconst (v := 3) dX4_digest_180 (by decide) ?_
  refine Ev.iconst (v := 1) dX4_digest_181 (by decide) ?_
  refine k_X4_odds (c_odds_1 (a := 3) ok hV (by omega) (by omega)) dX4_digest_182 wl_X4_239 rfl (Nat.le_of_ble_eq_true rfl) ?_
  refine Ev.i2l dX4_digest_185 ?_
  refine k_X4_mixed (c_mxd _ _) dX4_digest_186 wl_X4_226 (Nat.le_of_ble_eq_true rfl) ?_
  refine Ev.lst1 dX4_digest_189 rfl ?_
  refine Ev.iconst (v := 0) dX4_digest_190 (by decide) ?_
  refine Ev.ist3 dX4_digest_191 rfl ?_
  refine c_dC hL h36 L 0 _ _ (by omega) rfl ?_
  refine Ev.iconst (v := 0) dX4_digest_224 (by decide) ?_
  refine Ev.ist3 dX4_digest_225 rfl ?_
  refine c_dD ok 12 0 _ _ (by omega) rfl ?_
  refine Ev.lload_1 dX4_digest_249 rfl ?_
  refine Ev.lret dX4_digest_250 ?_
  exact ⟨by rw [e], SF, hSF, rfl⟩

set_option maxHeartbeats 4000000 in
set_option maxRecDepth 100000 in
theorem c_digest {d : Nat} {h pg l s il is t k : Nat → Int32} {PF LF SF ILF ISF TF KF : Nat → Nat → Int32} {V N : Nat} (ok : LOK l LF V N) {K : Nat} (hK : s 0 = nI K) (h8 : K ≤ 8) {L : Nat} (hL : pg 1 = nI L) (h36 : L ≤ 36)  : Ev (d + 6) yX4_digest cX4_digest (some .long) 0 [some (.ref 0), none, none, none, none] [] (clsW h pg PF l LF s SF il ILF is ISF t TF k KF) (fun r w1 => r = some (.long (dgC h pg l s PF LF SF V N L K)) ∧ ∃ SF1 : Nat → Nat → Int32, (∀ a, a ≠ 5 → SF1 a = SF a) ∧ w1 = (clsW h pg PF l LF s SF1 il ILF is ISF t TF k KF)) := by
  refine Ev.ldc2 wk_X4_221 dX4_digest_0 ?_
  refine Ev.lst1 dX4_digest_3 rfl ?_
  refine Ev.iconst (v := 0) dX4_digest_4 (by decide) ?_
  refine Ev.ist3 dX4_digest_5 rfl ?_
  refine c_dA_out ok hK h8 (SF0 := SF) N 0 _ _ _ _ rfl (fun _ _ => rfl) (by omega) rfl (fun SF1 x hSF => ?_)
  refine Ev.iconst (v := 0) dX4_digest_52 (by decide) ?_
  refine Ev.ist3 dX4_digest_53 rfl ?_
  refine c_dB_out ok V 0 _ _ _ rfl (by omega) rfl (fun x => ?_)
  by_cases hV : V = 0
  · exact c_dT_z hSF hV ok hL h36 rfl x
  · exact c_dT_n hSF (by omega) ok hL h36 rfl x
