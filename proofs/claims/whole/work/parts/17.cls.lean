theorem isw_ex {x : Int32} {N : Nat} (h1 : ¬ x < 0) (h2 : ¬ nI N ≤ x) (hN : N ≤ 1000) : ∃ w, w < N ∧ x = nI w := by
  obtain ⟨j, h3, h4, -⟩ := pk_mu h1 h2 (by omega)
  exact ⟨j, h3, h4⟩
theorem le99 {y : Int32} (h : ¬ 99 < y) : ¬ nI 100 ≤ y := by
  intro q
  apply h
  have q := Int32.le_iff_toInt_le.mp q
  rw [Int32.lt_iff_toInt_lt]
  have e1 : (nI 100).toInt = 100 := by decide
  have e2 : (99 : Int32).toInt = 99 := by decide
  omega
def ipa (x : Int32) : Int32 := if x = 0 then 1 else if x = 1 then 1 else if x < 10 then 0 else if 14 ≤ x then 0 else 1
def iok (own kind : Int32) : Int32 := if kind = 0 then 1 else if kind = own then 1 else if kind = 1 ∧ own = 4 then 1 else 0
def iltF (a b : Int32) : Nat → Int32
  | 0 => a
  | n + 1 => if a - a / nI (n + 2) * nI (n + 2) = 0 ∧ b - b / nI (n + 2) * nI (n + 2) = 0 then a / nI (n + 2) else iltF a b n
def nxs (x : Int32) : Int32 := ((1103515245 * x.toInt64 + 12345) - (1103515245 * x.toInt64 + 12345) / 2147483648 * 2147483648).toInt32
def drw (x m : Int32) : Int32 := x / 65536 - x / 65536 / m * m
def mxd (a b : Int64) : Int64 := 31 * a + b
def powF (x : Int32) : Nat → Int32 → Int32
  | 0, a => a
  | n + 1, a => powF x n (a * x)

set_option maxHeartbeats 4000000 in
set_option maxRecDepth 100000 in
theorem c_hasTable_t {d : Nat} {h pg l s il is t k : Nat → Int32} {PF LF SF ILF ISF TF KF : Nat → Nat → Int32} {V N : Nat} (ok : LOK l LF V N) (hV : 0 < V) : Ev d yX4_hasTable cX4_hasTable (some .boolean) 0 [some (.ref 0)] [] (clsW h pg PF l LF s SF il ILF is ISF t TF k KF) (Is (some (.int (1))) (clsW h pg PF l LF s SF il ILF is ISF t TF k KF)) := by
  refine Ev.aload_0 dX4_hasTable_0 rfl ?_
  refine Ev.getf cf4 1 (by decide) wf_X4_19 dX4_hasTable_1 rfl rfl ?_
  refine Ev.getf cf0 0 (by decide) wf_X4_77 dX4_hasTable_4 rfl rfl ?_
  refine Ev.if_le 14 dX4_hasTable_7 (by decide) (fun h7 => ?_) (fun h7 => ?_)
  · exact absurd h7 (by rw [ok.1]; exact nI_nle hV (by have := ok.2.2.1; omega))
  refine Ev.iconst (v := 1) dX4_hasTable_10 (by decide) ?_
  refine Ev.goto 15 dX4_hasTable_11 (by decide) ?_
  refine Ev.zret dX4_hasTable_15 (by decide) ?_
  exact ⟨rfl, rfl⟩

set_option maxHeartbeats 4000000 in
set_option maxRecDepth 100000 in
theorem c_hasTable_f {d : Nat} {h pg l s il is t k : Nat → Int32} {PF LF SF ILF ISF TF KF : Nat → Nat → Int32} {N : Nat} (ok : LOK l LF 0 N)  : Ev d yX4_hasTable cX4_hasTable (some .boolean) 0 [some (.ref 0)] [] (clsW h pg PF l LF s SF il ILF is ISF t TF k KF) (Is (some (.int (0))) (clsW h pg PF l LF s SF il ILF is ISF t TF k KF)) := by
  refine Ev.aload_0 dX4_hasTable_0 rfl ?_
  refine Ev.getf cf4 1 (by decide) wf_X4_19 dX4_hasTable_1 rfl rfl ?_
  refine Ev.getf cf0 0 (by decide) wf_X4_77 dX4_hasTable_4 rfl rfl ?_
  refine Ev.if_le 14 dX4_hasTable_7 (by decide) (fun h7 => ?_) (fun h7 => ?_)
  · refine Ev.iconst (v := 0) dX4_hasTable_14 (by decide) ?_
    refine Ev.zret dX4_hasTable_15 (by decide) ?_
    exact ⟨rfl, rfl⟩
  · exact absurd (by rw [ok.1]; decide) h7

set_option maxHeartbeats 4000000 in
set_option maxRecDepth 100000 in
theorem c_isWeight_t {d : Nat} {h pg l s il is t k : Nat → Int32} {PF LF SF ILF ISF TF KF : Nat → Nat → Int32} {V N : Nat} (ok : LOK l LF V N) {w : Nat} (hw : w < N) : Ev d yX4_isWeight cX4_isWeight (some .boolean) 0 [some (.ref 0), some (.int (nI w))] [] (clsW h pg PF l LF s SF il ILF is ISF t TF k KF) (Is (some (.int (1))) (clsW h pg PF l LF s SF il ILF is ISF t TF k KF)) := by
  refine Ev.iload_1 dX4_isWeight_0 rfl ?_
  refine Ev.if_lt 19 dX4_isWeight_1 (by decide) (fun h1 => ?_) (fun h1 => ?_)
  · exact absurd h1 (nI_pos (by have := ok.2.2.2.1; omega))
  refine Ev.iload_1 dX4_isWeight_4 rfl ?_
  refine Ev.aload_0 dX4_isWeight_5 rfl ?_
  refine Ev.getf cf4 1 (by decide) wf_X4_19 dX4_isWeight_6 rfl rfl ?_
  refine Ev.getf cf0 1 (by decide) wf_X4_206 dX4_isWeight_9 rfl rfl ?_
  refine Ev.icmp_ge 19 dX4_isWeight_12 (by decide) (fun h12 => ?_) (fun h12 => ?_)
  · exact absurd h12 (lp_ge ok.2.1 hw (by have := ok.2.2.2.1; omega))
  refine Ev.iconst (v := 1) dX4_isWeight_15 (by decide) ?_
  refine Ev.goto 20 dX4_isWeight_16 (by decide) ?_
  refine Ev.zret dX4_isWeight_20 (by decide) ?_
  exact ⟨rfl, rfl⟩

set_option maxHeartbeats 4000000 in
set_option maxRecDepth 100000 in
theorem c_isWeight_f {d : Nat} {h pg l s il is t k : Nat → Int32} {PF LF SF ILF ISF TF KF : Nat → Nat → Int32} {V N : Nat} (ok : LOK l LF V N) {x : Int32} (hx : ∀ w, w < N → x ≠ nI w) : Ev d yX4_isWeight cX4_isWeight (some .boolean) 0 [some (.ref 0), some (.int x)] [] (clsW h pg PF l LF s SF il ILF is ISF t TF k KF) (Is (some (.int (0))) (clsW h pg PF l LF s SF il ILF is ISF t TF k KF)) := by
  refine Ev.iload_1 dX4_isWeight_0 rfl ?_
  refine Ev.if_lt 19 dX4_isWeight_1 (by decide) (fun h1 => ?_) (fun h1 => ?_)
  · refine Ev.iconst (v := 0) dX4_isWeight_19 (by decide) ?_
    refine Ev.zret dX4_isWeight_20 (by decide) ?_
    exact ⟨rfl, rfl⟩
  refine Ev.iload_1 dX4_isWeight_4 rfl ?_
  refine Ev.aload_0 dX4_isWeight_5 rfl ?_
  refine Ev.getf cf4 1 (by decide) wf_X4_19 dX4_isWeight_6 rfl rfl ?_
  refine Ev.getf cf0 1 (by decide) wf_X4_206 dX4_isWeight_9 rfl rfl ?_
  refine Ev.icmp_ge 19 dX4_isWeight_12 (by decide) (fun h12 => ?_) (fun h12 => ?_)
  · refine Ev.iconst (v := 0) dX4_isWeight_19 (by decide) ?_
    refine Ev.zret dX4_isWeight_20 (by decide) ?_
    exact ⟨rfl, rfl⟩
  · rw [ok.2.1] at h12
    obtain ⟨w, hw, e⟩ := isw_ex h1 h12 (by have := ok.2.2.2.1; omega)
    exact absurd e (hx w hw)

set_option maxHeartbeats 4000000 in
set_option maxRecDepth 100000 in
theorem c_isVillage_t {d : Nat} {h pg l s il is t k : Nat → Int32} {PF LF SF ILF ISF TF KF : Nat → Nat → Int32} {V N : Nat} (ok : LOK l LF V N) {v : Nat} (hv : v < V) : Ev d yX4_isVillage cX4_isVillage (some .boolean) 0 [some (.ref 0), some (.int (nI v))] [] (clsW h pg PF l LF s SF il ILF is ISF t TF k KF) (Is (some (.int (1))) (clsW h pg PF l LF s SF il ILF is ISF t TF k KF)) := by
  refine Ev.iload_1 dX4_isVillage_0 rfl ?_
  refine Ev.if_lt 19 dX4_isVillage_1 (by decide) (fun h1 => ?_) (fun h1 => ?_)
  · exact absurd h1 (nI_pos (by have := ok.2.2.1; omega))
  refine Ev.iload_1 dX4_isVillage_4 rfl ?_
  refine Ev.aload_0 dX4_isVillage_5 rfl ?_
  refine Ev.getf cf4 1 (by decide) wf_X4_19 dX4_isVillage_6 rfl rfl ?_
  refine Ev.getf cf0 0 (by decide) wf_X4_77 dX4_isVillage_9 rfl rfl ?_
  refine Ev.icmp_ge 19 dX4_isVillage_12 (by decide) (fun h12 => ?_) (fun h12 => ?_)
  · exact absurd h12 (lp_ge ok.1 hv (by have := ok.2.2.1; omega))
  refine Ev.iconst (v := 1) dX4_isVillage_15 (by decide) ?_
  refine Ev.goto 20 dX4_isVillage_16 (by decide) ?_
  refine Ev.zret dX4_isVillage_20 (by decide) ?_
  exact ⟨rfl, rfl⟩

set_option maxHeartbeats 4000000 in
set_option maxRecDepth 100000 in
theorem c_isVillage_f {d : Nat} {h pg l s il is t k : Nat → Int32} {PF LF SF ILF ISF TF KF : Nat → Nat → Int32} {V N : Nat} (ok : LOK l LF V N) {x : Int32} (hx : ∀ w, w < V → x ≠ nI w) : Ev d yX4_isVillage cX4_isVillage (some .boolean) 0 [some (.ref 0), some (.int x)] [] (clsW h pg PF l LF s SF il ILF is ISF t TF k KF) (Is (some (.int (0))) (clsW h pg PF l LF s SF il ILF is ISF t TF k KF)) := by
  refine Ev.iload_1 dX4_isVillage_0 rfl ?_
  refine Ev.if_lt 19 dX4_isVillage_1 (by decide) (fun h1 => ?_) (fun h1 => ?_)
  · refine Ev.iconst (v := 0) dX4_isVillage_19 (by decide) ?_
    refine Ev.zret dX4_isVillage_20 (by decide) ?_
    exact ⟨rfl, rfl⟩
  refine Ev.iload_1 dX4_isVillage_4 rfl ?_
  refine Ev.aload_0 dX4_isVillage_5 rfl ?_
  refine Ev.getf cf4 1 (by decide) wf_X4_19 dX4_isVillage_6 rfl rfl ?_
  refine Ev.getf cf0 0 (by decide) wf_X4_77 dX4_isVillage_9 rfl rfl ?_
  refine Ev.icmp_ge 19 dX4_isVillage_12 (by decide) (fun h12 => ?_) (fun h12 => ?_)
  · refine Ev.iconst (v := 0) dX4_isVillage_19 (by decide) ?_
    refine Ev.zret dX4_isVillage_20 (by decide) ?_
    exact ⟨rfl, rfl⟩
  · rw [ok.1] at h12
    obtain ⟨w, hw, e⟩ := isw_ex h1 h12 (by have := ok.2.2.1; omega)
    exact absurd e (hx w hw)

set_option maxHeartbeats 4000000 in
set_option maxRecDepth 100000 in
theorem c_isWind_t {d : Nat} {w : List Ce} {a b : Nat} (ha : a < 2) (hb : b < 100) : Ev d yX4_isWind cX4_isWind (some .boolean) 0 [some (.int (nI a)), some (.int (nI b))] [] w (Is (some (.int (1))) w) := by
  refine Ev.iload_0 dX4_isWind_0 rfl ?_
  refine Ev.if_lt 23 dX4_isWind_1 (by decide) (fun h1 => ?_) (fun h1 => ?_)
  · exact absurd h1 (nI_pos (by omega))
  refine Ev.iload_0 dX4_isWind_4 rfl ?_
  refine Ev.iconst (v := 2) dX4_isWind_5 (by decide) ?_
  refine Ev.icmp_ge 23 dX4_isWind_6 (by decide) (fun h6 => ?_) (fun h6 => ?_)
  · exact absurd h6 (lp_ge (x := 2) (N := 2) rfl ha (by omega))
  refine Ev.iload_1 dX4_isWind_9 rfl ?_
  refine Ev.if_lt 23 dX4_isWind_10 (by decide) (fun h10 => ?_) (fun h10 => ?_)
  · exact absurd h10 (nI_pos (by omega))
  refine Ev.iload_1 dX4_isWind_13 rfl ?_
  refine Ev.bipush (v := 99) dX4_isWind_14 (by decide) ?_
  refine Ev.icmp_gt 23 dX4_isWind_16 (by decide) (fun h16 => ?_) (fun h16 => ?_)
  · exact absurd h16 (lp_gt (x := 99) (N := 99) rfl (by omega) (by omega))
  refine Ev.iconst (v := 1) dX4_isWind_19 (by decide) ?_
  refine Ev.goto 24 dX4_isWind_20 (by decide) ?_
  refine Ev.zret dX4_isWind_24 (by decide) ?_
  exact ⟨rfl, rfl⟩

set_option maxHeartbeats 4000000 in
set_option maxRecDepth 100000 in
theorem c_isWind_f {d : Nat} {w : List Ce} {x y : Int32} (hx : ∀ a b, a < 2 → b < 100 → ¬ (x = nI a ∧ y = nI b)) : Ev d yX4_isWind cX4_isWind (some .boolean) 0 [some (.int x), some (.int y)] [] w (Is (some (.int (0))) w) := by
  refine Ev.iload_0 dX4_isWind_0 rfl ?_
  refine Ev.if_lt 23 dX4_isWind_1 (by decide) (fun h1 => ?_) (fun h1 => ?_)
  · refine Ev.iconst (v := 0) dX4_isWind_23 (by decide) ?_
    refine Ev.zret dX4_isWind_24 (by decide) ?_
    exact ⟨rfl, rfl⟩
  refine Ev.iload_0 dX4_isWind_4 rfl ?_
  refine Ev.iconst (v := 2) dX4_isWind_5 (by decide) ?_
  refine Ev.icmp_ge 23 dX4_isWind_6 (by decide) (fun h6 => ?_) (fun h6 => ?_)
  · refine Ev.iconst (v := 0) dX4_isWind_23 (by decide) ?_
    refine Ev.zret dX4_isWind_24 (by decide) ?_
    exact ⟨rfl, rfl⟩
  refine Ev.iload_1 dX4_isWind_9 rfl ?_
  refine Ev.if_lt 23 dX4_isWind_10 (by decide) (fun h10 => ?_) (fun h10 => ?_)
  · refine Ev.iconst (v := 0) dX4_isWind_23 (by decide) ?_
    refine Ev.zret dX4_isWind_24 (by decide) ?_
    exact ⟨rfl, rfl⟩
  refine Ev.iload_1 dX4_isWind_13 rfl ?_
  refine Ev.bipush (v := 99) dX4_isWind_14 (by decide) ?_
  refine Ev.icmp_gt 23 dX4_isWind_16 (by decide) (fun h16 => ?_) (fun h16 => ?_)
  · refine Ev.iconst (v := 0) dX4_isWind_23 (by decide) ?_
    refine Ev.zret dX4_isWind_24 (by decide) ?_
    exact ⟨rfl, rfl⟩
  · obtain ⟨a, ha, e1⟩ := isw_ex (N := 2) h1 h6 (by omega)
    obtain ⟨b, hb, e2⟩ := isw_ex (N := 100) h10 (le99 h16) (by omega)
    exact absurd ⟨e1, e2⟩ (hx a b ha hb)

set_option maxHeartbeats 4000000 in
set_option maxRecDepth 100000 in
theorem c_ipa {d : Nat} {w : List Ce} (x : Int32) : Ev d yX4_isPackAnswer cX4_isPackAnswer (some .boolean) 0 [some (.int x)] [] w (Is (some (.int (ipa x))) w) := by
  refine Ev.iload_0 dX4_isPackAnswer_0 rfl ?_
  refine Ev.if_eq 21 dX4_isPackAnswer_1 (by decide) (fun h1 => ?_) (fun h1 => ?_)
  · refine Ev.iconst (v := 1) dX4_isPackAnswer_21 (by decide) ?_
    refine Ev.goto 26 dX4_isPackAnswer_22 (by decide) ?_
    refine Ev.zret dX4_isPackAnswer_26 (by decide) ?_
    exact ⟨by simp [ipa, *], rfl⟩
  refine Ev.iload_0 dX4_isPackAnswer_4 rfl ?_
  refine Ev.iconst (v := 1) dX4_isPackAnswer_5 (by decide) ?_
  refine Ev.icmp_eq 21 dX4_isPackAnswer_6 (by decide) (fun h6 => ?_) (fun h6 => ?_)
  · refine Ev.iconst (v := 1) dX4_isPackAnswer_21 (by decide) ?_
    refine Ev.goto 26 dX4_isPackAnswer_22 (by decide) ?_
    refine Ev.zret dX4_isPackAnswer_26 (by decide) ?_
    exact ⟨by simp [ipa, *], rfl⟩
  refine Ev.iload_0 dX4_isPackAnswer_9 rfl ?_
  refine Ev.bipush (v := 10) dX4_isPackAnswer_10 (by decide) ?_
  refine Ev.icmp_lt 25 dX4_isPackAnswer_12 (by decide) (fun h12 => ?_) (fun h12 => ?_)
  · refine Ev.iconst (v := 0) dX4_isPackAnswer_25 (by decide) ?_
    refine Ev.zret dX4_isPackAnswer_26 (by decide) ?_
    exact ⟨by simp [ipa, *], rfl⟩
  refine Ev.iload_0 dX4_isPackAnswer_15 rfl ?_
  refine Ev.bipush (v := 14) dX4_isPackAnswer_16 (by decide) ?_
  refine Ev.icmp_ge 25 dX4_isPackAnswer_18 (by decide) (fun h18 => ?_) (fun h18 => ?_)
  · refine Ev.iconst (v := 0) dX4_isPackAnswer_25 (by decide) ?_
    refine Ev.zret dX4_isPackAnswer_26 (by decide) ?_
    exact ⟨by simp [ipa, *], rfl⟩
  refine Ev.iconst (v := 1) dX4_isPackAnswer_21 (by decide) ?_
  refine Ev.goto 26 dX4_isPackAnswer_22 (by decide) ?_
  refine Ev.zret dX4_isPackAnswer_26 (by decide) ?_
  exact ⟨by simp [ipa, *], rfl⟩

set_option maxHeartbeats 4000000 in
set_option maxRecDepth 100000 in
theorem c_iok {d : Nat} {w : List Ce} (a b : Int32) : Ev d yX4_isOfKind cX4_isOfKind (some .boolean) 0 [some (.int a), some (.int b)] [] w (Is (some (.int (iok a b))) w) := by
  refine Ev.iload_1 dX4_isOfKind_0 rfl ?_
  refine Ev.if_eq 19 dX4_isOfKind_1 (by decide) (fun h1 => ?_) (fun h1 => ?_)
  · refine Ev.iconst (v := 1) dX4_isOfKind_19 (by decide) ?_
    refine Ev.goto 24 dX4_isOfKind_20 (by decide) ?_
    refine Ev.zret dX4_isOfKind_24 (by decide) ?_
    exact ⟨by simp_all [iok], rfl⟩
  refine Ev.iload_1 dX4_isOfKind_4 rfl ?_
  refine Ev.iload_0 dX4_isOfKind_5 rfl ?_
  refine Ev.icmp_eq 19 dX4_isOfKind_6 (by decide) (fun h6 => ?_) (fun h6 => ?_)
  · refine Ev.iconst (v := 1) dX4_isOfKind_19 (by decide) ?_
    refine Ev.goto 24 dX4_isOfKind_20 (by decide) ?_
    refine Ev.zret dX4_isOfKind_24 (by decide) ?_
    exact ⟨by simp_all [iok], rfl⟩
  refine Ev.iload_1 dX4_isOfKind_9 rfl ?_
  refine Ev.iconst (v := 1) dX4_isOfKind_10 (by decide) ?_
  refine Ev.icmp_ne 23 dX4_isOfKind_11 (by decide) (fun h11 => ?_) (fun h11 => ?_)
  · refine Ev.iconst (v := 0) dX4_isOfKind_23 (by decide) ?_
    refine Ev.zret dX4_isOfKind_24 (by decide) ?_
    exact ⟨by simp_all [iok], rfl⟩
  refine Ev.iload_0 dX4_isOfKind_14 rfl ?_
  refine Ev.iconst (v := 4) dX4_isOfKind_15 (by decide) ?_
  refine Ev.icmp_ne 23 dX4_isOfKind_16 (by decide) (fun h16 => ?_) (fun h16 => ?_)
  · refine Ev.iconst (v := 0) dX4_isOfKind_23 (by decide) ?_
    refine Ev.zret dX4_isOfKind_24 (by decide) ?_
    exact ⟨by simp_all [iok], rfl⟩
  refine Ev.iconst (v := 1) dX4_isOfKind_19 (by decide) ?_
  refine Ev.goto 24 dX4_isOfKind_20 (by decide) ?_
  refine Ev.zret dX4_isOfKind_24 (by decide) ?_
  exact ⟨by simp_all [iok], rfl⟩

set_option maxHeartbeats 4000000 in
set_option maxRecDepth 100000 in
theorem c_ilt_loop {d : Nat} {w : List Ce} {a b : Int32} : ∀ (n : Nat) (R : Int32), n < 100 → iltF a b n = R → Ev d yX4_inLowestTerms cX4_inLowestTerms (some .int) 3 [some (.int a), some (.int b), some (.int (nI (n + 1)))] [] w (Is (some (.int R)) w) := by
  intro n
  induction n with
  | zero =>
    intro R hn hR
    refine Ev.iload_2 dX4_inLowestTerms_3 rfl ?_
    refine Ev.iconst (v := 1) dX4_inLowestTerms_4 (by decide) ?_
    refine Ev.icmp_le 30 dX4_inLowestTerms_5 (by decide) (fun h5 => ?_) (fun h5 => ?_)
    · refine Ev.iload_0 dX4_inLowestTerms_30 rfl ?_
      refine Ev.iret dX4_inLowestTerms_31 ?_
      exact ⟨by rw [← hR]; rfl, rfl⟩
    · exact absurd (by decide) h5
  | succ n ih =>
    intro R hn hR
    refine Ev.iload_2 dX4_inLowestTerms_3 rfl ?_
    refine Ev.iconst (v := 1) dX4_inLowestTerms_4 (by decide) ?_
    refine Ev.icmp_le 30 dX4_inLowestTerms_5 (by decide) (fun h5 => ?_) (fun h5 => ?_)
    · exact absurd h5 (by rw [show (1 : Int32) = nI 1 from rfl]; exact nI_ge (by omega) (by omega))
    refine Ev.iload_0 dX4_inLowestTerms_8 rfl ?_
    refine Ev.iload_2 dX4_inLowestTerms_9 rfl ?_
    refine Ev.irem dX4_inLowestTerms_10 (nI_ne0 (by omega) (by omega)) ?_
    refine Ev.if_ne 24 dX4_inLowestTerms_11 (by decide) (fun h11 => ?_) (fun h11 => ?_)
    · have e : iltF a b (n + 1) = iltF a b n := if_neg (fun q => h11 q.1)
      refine Ev.iincI (v := nI (n + 1)) (ls2 := [some (.int a), some (.int b), some (.int (nI (n + 1)))]) dX4_inLowestTerms_24 rfl (pk_m1 (n + 1)) rfl rfl ?_
      refine Ev.goto 3 dX4_inLowestTerms_27 (by decide) ?_
      exact ih R (by omega) (by rw [← hR, e])
    refine Ev.iload_1 dX4_inLowestTerms_14 rfl ?_
    refine Ev.iload_2 dX4_inLowestTerms_15 rfl ?_
    refine Ev.irem dX4_inLowestTerms_16 (nI_ne0 (by omega) (by omega)) ?_
    refine Ev.if_ne 24 dX4_inLowestTerms_17 (by decide) (fun h17 => ?_) (fun h17 => ?_)
    · have e : iltF a b (n + 1) = iltF a b n := if_neg (fun q => h17 q.2)
      refine Ev.iincI (v := nI (n + 1)) (ls2 := [some (.int a), some (.int b), some (.int (nI (n + 1)))]) dX4_inLowestTerms_24 rfl (pk_m1 (n + 1)) rfl rfl ?_
      refine Ev.goto 3 dX4_inLowestTerms_27 (by decide) ?_
      exact ih R (by omega) (by rw [← hR, e])
    refine Ev.iload_0 dX4_inLowestTerms_20 rfl ?_
    refine Ev.iload_2 dX4_inLowestTerms_21 rfl ?_
    refine Ev.idiv dX4_inLowestTerms_22 (nI_ne0 (by omega) (by omega)) ?_
    refine Ev.iret dX4_inLowestTerms_23 ?_
    exact ⟨by rw [← hR, iltF, if_pos ⟨h11, h17⟩], rfl⟩

set_option maxHeartbeats 4000000 in
set_option maxRecDepth 100000 in
theorem c_ilt {d : Nat} {w : List Ce} (a b : Int32) : Ev d yX4_inLowestTerms cX4_inLowestTerms (some .int) 0 [some (.int a), some (.int b), none] [] w (Is (some (.int (iltF a b 19))) w) := by
  refine Ev.bipush (v := 20) dX4_inLowestTerms_0 (by decide) ?_
  refine Ev.ist2 dX4_inLowestTerms_2 rfl ?_
  exact c_ilt_loop 19 _ (by omega) rfl

set_option maxHeartbeats 4000000 in
set_option maxRecDepth 100000 in
theorem c_nxs {d : Nat} {w : List Ce} (x : Int32) : Ev d yX4_nextSeed cX4_nextSeed (some .int) 0 [some (.int x)] [] w (Is (some (.int (nxs x))) w) := by
  refine Ev.ldc2 wk_X4_255 dX4_nextSeed_0 ?_
  refine Ev.iload_0 dX4_nextSeed_3 rfl ?_
  refine Ev.i2l dX4_nextSeed_4 ?_
  refine Ev.lmul dX4_nextSeed_5 ?_
  refine Ev.ldc2 wk_X4_257 dX4_nextSeed_6 ?_
  refine Ev.ladd dX4_nextSeed_9 ?_
  refine Ev.ldc2 wk_X4_259 dX4_nextSeed_10 ?_
  refine Ev.lrem dX4_nextSeed_13 (by decide) ?_
  refine Ev.l2i dX4_nextSeed_14 ?_
  refine Ev.iret dX4_nextSeed_15 ?_
  exact ⟨rfl, rfl⟩

set_option maxHeartbeats 4000000 in
set_option maxRecDepth 100000 in
theorem c_drw2 {d : Nat} {w : List Ce} (x : Int32) : Ev d yX4_drawnOf cX4_drawnOf (some .int) 0 [some (.int x), some (.int 2)] [] w (Is (some (.int (drw x 2))) w) := by
  refine Ev.iload_1 dX4_drawnOf_0 rfl ?_
  refine Ev.iconst (v := 1) dX4_drawnOf_1 (by decide) ?_
  refine Ev.icmp_ge 9 dX4_drawnOf_2 (by decide) (fun h2 => ?_) (fun h2 => ?_)
  · refine Ev.iload_0 dX4_drawnOf_9 rfl ?_
    refine Ev.ldcw wk_X4_261 dX4_drawnOf_10 ?_
    refine Ev.idiv dX4_drawnOf_13 (by decide) ?_
    refine Ev.iload_1 dX4_drawnOf_14 rfl ?_
    refine Ev.irem dX4_drawnOf_15 (by decide) ?_
    refine Ev.iret dX4_drawnOf_16 ?_
    exact ⟨rfl, rfl⟩
  · exact absurd (by decide) h2

set_option maxHeartbeats 4000000 in
set_option maxRecDepth 100000 in
theorem c_drw10 {d : Nat} {w : List Ce} (x : Int32) : Ev d yX4_drawnOf cX4_drawnOf (some .int) 0 [some (.int x), some (.int 10)] [] w (Is (some (.int (drw x 10))) w) := by
  refine Ev.iload_1 dX4_drawnOf_0 rfl ?_
  refine Ev.iconst (v := 1) dX4_drawnOf_1 (by decide) ?_
  refine Ev.icmp_ge 9 dX4_drawnOf_2 (by decide) (fun h2 => ?_) (fun h2 => ?_)
  · refine Ev.iload_0 dX4_drawnOf_9 rfl ?_
    refine Ev.ldcw wk_X4_261 dX4_drawnOf_10 ?_
    refine Ev.idiv dX4_drawnOf_13 (by decide) ?_
    refine Ev.iload_1 dX4_drawnOf_14 rfl ?_
    refine Ev.irem dX4_drawnOf_15 (by decide) ?_
    refine Ev.iret dX4_drawnOf_16 ?_
    exact ⟨rfl, rfl⟩
  · exact absurd (by decide) h2

set_option maxHeartbeats 4000000 in
set_option maxRecDepth 100000 in
theorem c_mxd {d : Nat} {w : List Ce} (a b : Int64) : Ev d yX4_mixed cX4_mixed (some .long) 0 [some (.long a), none, some (.long b), none] [] w (Is (some (.long (mxd a b))) w) := by
  refine Ev.ldc2 wk_X4_248 dX4_mixed_0 ?_
  refine Ev.lload_0 dX4_mixed_3 rfl ?_
  refine Ev.lmul dX4_mixed_4 ?_
  refine Ev.lload_2 dX4_mixed_5 rfl ?_
  refine Ev.ladd dX4_mixed_6 ?_
  refine Ev.lret dX4_mixed_7 ?_
  exact ⟨rfl, rfl⟩

set_option maxHeartbeats 4000000 in
set_option maxRecDepth 100000 in
theorem c_letter_o {d : Nat} {h pg l s il is t k : Nat → Int32} {PF LF SF ILF ISF TF KF : Nat → Nat → Int32} {x : Int32} (hx : x < 32 ∨ ¬ x ≤ 126) : Ev d yX4_letter cX4_letter (some .int) 0 [some (.ref 0), some (.int x)] [] (clsW h pg PF l LF s SF il ILF is ISF t TF k KF) (Is (some (.int (-102))) (clsW h pg PF l LF s SF il ILF is ISF t TF k KF)) := by
  refine Ev.iload_1 dX4_letter_0 rfl ?_
  refine Ev.bipush (v := 32) dX4_letter_1 (by decide) ?_
  refine Ev.icmp_lt 12 dX4_letter_3 (by decide) (fun h3 => ?_) (fun h3 => ?_)
  · refine Ev.bipush (v := -102) dX4_letter_12 (by decide) ?_
    refine Ev.iret dX4_letter_14 ?_
    exact ⟨rfl, rfl⟩
  refine Ev.iload_1 dX4_letter_6 rfl ?_
  refine Ev.bipush (v := 126) dX4_letter_7 (by decide) ?_
  refine Ev.icmp_le 15 dX4_letter_9 (by decide) (fun h9 => ?_) (fun h9 => ?_)
  · exact absurd hx (fun q => q.elim h3 (fun z => z h9))
  refine Ev.bipush (v := -102) dX4_letter_12 (by decide) ?_
  refine Ev.iret dX4_letter_14 ?_
  exact ⟨rfl, rfl⟩

set_option maxHeartbeats 4000000 in
set_option maxRecDepth 100000 in
theorem c_letter_f {d : Nat} {h pg l s il is t k : Nat → Int32} {PF LF SF ILF ISF TF KF : Nat → Nat → Int32} {n : Nat} (hn : 32 ≤ n) (hn2 : n ≤ 126) (hL : pg 1 = nI 36) : Ev d yX4_letter cX4_letter (some .int) 0 [some (.ref 0), some (.int (nI n))] [] (clsW h pg PF l LF s SF il ILF is ISF t TF k KF) (Is (some (.int (-104))) (clsW h pg PF l LF s SF il ILF is ISF t TF k KF)) := by
  refine Ev.iload_1 dX4_letter_0 rfl ?_
  refine Ev.bipush (v := 32) dX4_letter_1 (by decide) ?_
  refine Ev.icmp_lt 12 dX4_letter_3 (by decide) (fun h3 => ?_) (fun h3 => ?_)
  · exact absurd h3 (lp_gt (x := nI n) (N := n) rfl (k := 32) (by omega) (by omega))
  refine Ev.iload_1 dX4_letter_6 rfl ?_
  refine Ev.bipush (v := 126) dX4_letter_7 (by decide) ?_
  refine Ev.icmp_le 15 dX4_letter_9 (by decide) (fun h9 => ?_) (fun h9 => ?_)
  · refine Ev.aload_0 dX4_letter_15 rfl ?_
    refine Ev.getf cf4 0 (by decide) wf_X4_12 dX4_letter_16 rfl rfl ?_
    refine Ev.getf cf2 1 (by decide) wf_X4_57 dX4_letter_19 rfl rfl ?_
    refine Ev.bipush (v := 36) dX4_letter_22 (by decide) ?_
    refine Ev.icmp_lt 30 dX4_letter_24 (by decide) (fun h24 => ?_) (fun h24 => ?_)
    · exact absurd h24 (by rw [hL]; decide)
    refine Ev.bipush (v := -104) dX4_letter_27 (by decide) ?_
    refine Ev.iret dX4_letter_29 ?_
    exact ⟨rfl, rfl⟩
  · exact absurd (nI_le (a := n) (b := 126) (by omega) (by omega)) h9

set_option maxHeartbeats 4000000 in
set_option maxRecDepth 100000 in
theorem c_letter_k {d : Nat} {h pg l s il is t k : Nat → Int32} {PF LF SF ILF ISF TF KF : Nat → Nat → Int32} {n : Nat} (hn : 32 ≤ n) (hn2 : n ≤ 126) {L : Nat} (hL : pg 1 = nI L) (h36 : L < 36) : Ev (d + 1) yX4_letter cX4_letter (some .int) 0 [some (.ref 0), some (.int (nI n))] [] (clsW h pg PF l LF s SF il ILF is ISF t TF k KF) (Is (some (.int (nI (L + 1)))) (clsW h (upd pg 1 (nI (L + 1))) (up2 PF 0 L (nI n)) l LF s SF il ILF is ISF t TF k KF)) := by
  refine Ev.iload_1 dX4_letter_0 rfl ?_
  refine Ev.bipush (v := 32) dX4_letter_1 (by decide) ?_
  refine Ev.icmp_lt 12 dX4_letter_3 (by decide) (fun h3 => ?_) (fun h3 => ?_)
  · exact absurd h3 (lp_gt (x := nI n) (N := n) rfl (k := 32) (by omega) (by omega))
  refine Ev.iload_1 dX4_letter_6 rfl ?_
  refine Ev.bipush (v := 126) dX4_letter_7 (by decide) ?_
  refine Ev.icmp_le 15 dX4_letter_9 (by decide) (fun h9 => ?_) (fun h9 => ?_)
  · refine Ev.aload_0 dX4_letter_15 rfl ?_
    refine Ev.getf cf4 0 (by decide) wf_X4_12 dX4_letter_16 rfl rfl ?_
    refine Ev.getf cf2 1 (by decide) wf_X4_57 dX4_letter_19 rfl rfl ?_
    refine Ev.bipush (v := 36) dX4_letter_22 (by decide) ?_
    refine Ev.icmp_lt 30 dX4_letter_24 (by decide) (fun h24 => ?_) (fun h24 => ?_)
    · refine Ev.aload_0 dX4_letter_30 rfl ?_
      refine Ev.getf cf4 0 (by decide) wf_X4_12 dX4_letter_31 rfl rfl ?_
      refine Ev.iload_1 dX4_letter_34 rfl ?_
      refine ke_X2_append (w2 := (clsW h (upd pg 1 (nI (L + 1))) (up2 PF 0 L (nI n)) l LF s SF il ILF is ISF t TF k KF)) [1, 2] (e_X2_append hL h36 _) dX4_letter_35 wl_X4_60 rfl (Nat.le_of_ble_eq_true rfl) rfl (by decide) ⟨rfl, rfl⟩ rfl rfl rfl ?_
      refine Ev.aload_0 dX4_letter_38 rfl ?_
      refine Ev.getf cf4 0 (by decide) wf_X4_12 dX4_letter_39 rfl rfl ?_
      refine Ev.getf cf2 1 (by decide) wf_X4_57 dX4_letter_42 rfl rfl ?_
      refine Ev.iret dX4_letter_45 ?_
      exact ⟨rfl, rfl⟩
    · exact absurd (by rw [hL]; exact nI_lt (b := 36) h36 (by omega)) h24
  · exact absurd (nI_le (a := n) (b := 126) (by omega) (by omega)) h9

set_option maxHeartbeats 4000000 in
set_option maxRecDepth 100000 in
theorem c_blank {d : Nat} {h pg l s il is t k : Nat → Int32} {PF LF SF ILF ISF TF KF : Nat → Nat → Int32}  : Ev d yX4_blank cX4_blank (some .int) 0 [some (.ref 0), none] [] (clsW h pg PF l LF s SF il ILF is ISF t TF k KF) (Is (some (.int (pg 1))) (clsW h (upd pg 1 0) PF l LF s SF il ILF is ISF t TF k KF)) := by
  refine Ev.aload_0 dX4_blank_0 rfl ?_
  refine Ev.getf cf4 0 (by decide) wf_X4_12 dX4_blank_1 rfl rfl ?_
  refine Ev.getf cf2 1 (by decide) wf_X4_57 dX4_blank_4 rfl rfl ?_
  refine Ev.ist1 dX4_blank_7 rfl ?_
  refine Ev.aload_0 dX4_blank_8 rfl ?_
  refine Ev.getf cf4 0 (by decide) wf_X4_12 dX4_blank_9 rfl rfl ?_
  refine Ev.iconst (v := 0) dX4_blank_12 (by decide) ?_
  refine pw_clsW_1_1 dX4_blank_13 wf_X4_57 ?_
  refine Ev.iload_1 dX4_blank_16 rfl ?_
  refine Ev.iret dX4_blank_17 ?_
  exact ⟨rfl, rfl⟩

set_option maxHeartbeats 4000000 in
set_option maxRecDepth 100000 in
theorem c_fault {d : Nat} {h pg l s il is t k : Nat → Int32} {PF LF SF ILF ISF TF KF : Nat → Nat → Int32} {L : Nat} (hL : pg 1 = nI L) (h36 : L ≤ 36) (hc : ∀ j, j < L → ∃ n, n < 128 ∧ PF 0 j = nI n)  : Ev (d + 6) yX4_fault cX4_fault (some .int) 0 [some (.ref 0)] [] (clsW h pg PF l LF s SF il ILF is ISF t TF k KF) (Is (some (.int ((sc (PF 0) L pg).1))) (clsW h (sc (PF 0) L pg).2 PF l LF s SF il ILF is ISF t TF k KF)) := by
  refine Ev.aload_0 dX4_fault_0 rfl ?_
  refine Ev.getf cf4 0 (by decide) wf_X4_12 dX4_fault_1 rfl rfl ?_
  refine ke_X2_scan (w2 := (clsW h (sc (PF 0) L pg).2 PF l LF s SF il ILF is ISF t TF k KF)) [1, 2] (e_X2_scan hL h36 hc) dX4_fault_4 wl_X4_64 rfl (Nat.le_of_ble_eq_true rfl) rfl (by decide) ⟨rfl, rfl⟩ rfl rfl rfl ?_
  refine Ev.iret dX4_fault_7 ?_
  exact ⟨rfl, rfl⟩

set_option maxHeartbeats 4000000 in
set_option maxRecDepth 100000 in
theorem c_table_s {d : Nat} {h pg l s il is t k : Nat → Int32} {PF LF SF ILF ISF TF KF : Nat → Nat → Int32} {L : Nat} (hL : pg 1 = nI L) (h36 : L ≤ 36) (hc : ∀ j, j < L → ∃ n, n < 128 ∧ PF 0 j = nI n) (hs : ¬ ((sc (PF 0) L pg).1 = (sc (PF 0) L pg).2 1 ∧ (sc (PF 0) L pg).2 4 = 6))  : Ev (d + 7) yX4_table cX4_table (some .int) 0 [some (.ref 0)] [] (clsW h pg PF l LF s SF il ILF is ISF t TF k KF) (Is (some (.int (-103))) (clsW h (sc (PF 0) L pg).2 PF l LF s SF il ILF is ISF t TF k KF)) := by
  refine Ev.aload_0 dX4_table_0 rfl ?_
  refine Ev.getf cf4 0 (by decide) wf_X4_12 dX4_table_1 rfl rfl ?_
  refine ke_X2_isTable (w2 := (clsW h (sc (PF 0) L pg).2 PF l LF s SF il ILF is ISF t TF k KF)) [1, 2] (e_X2_isTable hL h36 hc) dX4_table_4 wl_X4_68 rfl (Nat.le_of_ble_eq_true rfl) rfl (by decide) ⟨rfl, rfl⟩ rfl rfl rfl ?_
  rw [if_neg hs]
  refine Ev.if_ne 13 dX4_table_7 (by decide) (fun hcst => ?_) (fun hcst => ?_)
  · exact absurd hcst (by decide)
  refine Ev.bipush (v := -103) dX4_table_10 (by decide) ?_
  refine Ev.iret dX4_table_12 ?_
  exact ⟨rfl, rfl⟩

set_option maxHeartbeats 4000000 in
set_option maxRecDepth 100000 in
theorem c_table_k {d : Nat} {h pg l s il is t k : Nat → Int32} {PF LF SF ILF ISF TF KF : Nat → Nat → Int32} {L : Nat} (hL : pg 1 = nI L) (h36 : L ≤ 36) (hc : ∀ j, j < L → ∃ n, n < 128 ∧ PF 0 j = nI n) (hs : (sc (PF 0) L pg).1 = (sc (PF 0) L pg).2 1 ∧ (sc (PF 0) L pg).2 4 = 6) {V1 N1 : Nat} (hV1 : (sc (PF 0) L pg).2 2 = nI V1) (h41 : V1 ≤ 4) (hN1 : (sc (PF 0) L pg).2 3 = nI N1) (h51 : N1 ≤ 5) (hl1 : (sc (PF 0) L pg).2 1 = nI L) : Ev (d + 7) yX4_table cX4_table (some .int) 0 [some (.ref 0)] [] (clsW h pg PF l LF s SF il ILF is ISF t TF k KF) (Is (some (.int (nI V1))) (clsW (upd (upd h 7 0) 8 (h 8 + 1)) (upd (sc (PF 0) L pg).2 1 0) PF (clL l (nI V1) (nI N1)) (rdW (PF 0) L V1 N1 0 (rdB (PF 0) L V1 0 (clrF 5 0 LF))) (upd s 0 0) SF il ILF is ISF t TF k KF)) := by
  refine Ev.aload_0 dX4_table_0 rfl ?_
  refine Ev.getf cf4 0 (by decide) wf_X4_12 dX4_table_1 rfl rfl ?_
  refine ke_X2_isTable (w2 := (clsW h (sc (PF 0) L pg).2 PF l LF s SF il ILF is ISF t TF k KF)) [1, 2] (e_X2_isTable hL h36 hc) dX4_table_4 wl_X4_68 rfl (Nat.le_of_ble_eq_true rfl) rfl (by decide) ⟨rfl, rfl⟩ rfl rfl rfl ?_
  rw [if_pos hs]
  refine Ev.if_ne 13 dX4_table_7 (by decide) (fun hcst => ?_) (fun hcst => ?_)
  rotate_left
  · exact absurd hcst (by decide)
  refine Ev.aload_0 dX4_table_13 rfl ?_
  refine Ev.getf cf4 0 (by decide) wf_X4_12 dX4_table_14 rfl rfl ?_
  refine Ev.aload_0 dX4_table_17 rfl ?_
  refine Ev.getf cf4 1 (by decide) wf_X4_19 dX4_table_18 rfl rfl ?_
  refine ke_X2_readInto (w2 := (clsW h (sc (PF 0) L pg).2 PF (clL l ((sc (PF 0) L pg).2 2) ((sc (PF 0) L pg).2 3)) (rdW (PF 0) L V1 N1 0 (rdB (PF 0) L V1 0 (clrF 5 0 LF))) s SF il ILF is ISF t TF k KF)) [1, 2, 3, 4, 5, 6, 7, 8, 9] (e_X2_readInto (pg := (sc (PF 0) L pg).2) hl1 h36 hc hV1 h41 hN1 h51) dX4_table_21 wl_X4_72 rfl (Nat.le_of_ble_eq_true rfl) rfl rfl (by decide) ⟨rfl, rfl⟩ rfl rfl rfl ?_
  rw [hV1, hN1]
  refine Ev.aload_0 dX4_table_24 rfl ?_
  refine Ev.getf cf4 0 (by decide) wf_X4_12 dX4_table_25 rfl rfl ?_
  refine Ev.iconst (v := 0) dX4_table_28 (by decide) ?_
  refine pw_clsW_1_1 dX4_table_29 wf_X4_57 ?_
  refine Ev.aload_0 dX4_table_32 rfl ?_
  refine Ev.getf cf4 2 (by decide) wf_X4_26 dX4_table_33 rfl rfl ?_
  refine Ev.iconst (v := 0) dX4_table_36 (by decide) ?_
  refine pw_clsW_10_0 dX4_table_37 wf_X4_76 ?_
  refine Ev.aload_0 dX4_table_40 rfl ?_
  refine Ev.iconst (v := 0) dX4_table_41 (by decide) ?_
  refine pw_clsW_0_7 dX4_table_42 wf_X4_46 (by decide) (by decide) ?_
  refine Ev.aload_0 dX4_table_45 rfl ?_
  refine Ev.dup dX4_table_46 rfl ?_
  refine Ev.getf cf4 8 (by decide) wf_X4_50 dX4_table_47 rfl rfl ?_
  refine Ev.iconst (v := 1) dX4_table_50 (by decide) ?_
  refine Ev.iadd dX4_table_51 ?_
  refine pw_clsW_0_8 dX4_table_52 wf_X4_50 ?_
  refine Ev.aload_0 dX4_table_55 rfl ?_
  refine Ev.getf cf4 1 (by decide) wf_X4_19 dX4_table_56 rfl rfl ?_
  refine Ev.getf cf0 0 (by decide) wf_X4_77 dX4_table_59 rfl rfl ?_
  refine Ev.iret dX4_table_62 ?_
  exact ⟨by show some (Value.int (jmax 0 (jmin 4 (nI V1)))) = _; rw [cl4 h41], rfl⟩

set_option maxHeartbeats 4000000 in
set_option maxRecDepth 100000 in
theorem c_weight_u {d : Nat} {h pg l s il is t k : Nat → Int32} {PF LF SF ILF ISF TF KF : Nat → Nat → Int32} {V N : Nat} (ok : LOK l LF V N) {x : Int32} (hx : ∀ w, w < N → x ≠ nI w) (what : Int32) : Ev (d + 1) yX4_weight cX4_weight (some .int) 0 [some (.ref 0), some (.int x), some (.int what)] [] (clsW h pg PF l LF s SF il ILF is ISF t TF k KF) (Is (some (.int (-101))) (clsW h pg PF l LF s SF il ILF is ISF t TF k KF)) := by
  refine Ev.aload_0 dX4_weight_0 rfl ?_
  refine Ev.iload_1 dX4_weight_1 rfl ?_
  refine k_X4_isWeight (c_isWeight_f ok hx) dX4_weight_2 wl_X4_80 rfl (Nat.le_of_ble_eq_true rfl) ?_
  refine Ev.if_ne 11 dX4_weight_5 (by decide) (fun hcst => ?_) (fun hcst => ?_)
  · exact absurd hcst (by decide)
  refine Ev.bipush (v := -101) dX4_weight_8 (by decide) ?_
  refine Ev.iret dX4_weight_10 ?_
  exact ⟨rfl, rfl⟩

set_option maxHeartbeats 4000000 in
set_option maxRecDepth 100000 in
theorem c_weight_0 {d : Nat} {h pg l s il is t k : Nat → Int32} {PF LF SF ILF ISF TF KF : Nat → Nat → Int32} {V N : Nat} (ok : LOK l LF V N) {w : Nat} (hw : w < N)  : Ev (d + 1) yX4_weight cX4_weight (some .int) 0 [some (.ref 0), some (.int (nI w)), some (.int 0)] [] (clsW h pg PF l LF s SF il ILF is ISF t TF k KF) (Is (some (.int (LF 3 w))) (clsW h pg PF l LF s SF il ILF is ISF t TF k KF)) := by
  refine Ev.aload_0 dX4_weight_0 rfl ?_
  refine Ev.iload_1 dX4_weight_1 rfl ?_
  refine k_X4_isWeight (c_isWeight_t ok hw) dX4_weight_2 wl_X4_80 rfl (Nat.le_of_ble_eq_true rfl) ?_
  refine Ev.if_ne 11 dX4_weight_5 (by decide) (fun hcst => ?_) (fun hcst => ?_)
  rotate_left
  · exact absurd hcst (by decide)
  refine Ev.iload_2 dX4_weight_11 rfl ?_
  refine Ev.tableIn 60 dX4_weight_12 (by decide) (by decide) rfl (by decide) ?_
  refine Ev.aload_0 dX4_weight_60 rfl ?_
  refine Ev.getf cf4 1 (by decide) wf_X4_19 dX4_weight_61 rfl rfl ?_
  refine Ev.getf cf0 3 (by decide) wf_X4_84 dX4_weight_64 rfl rfl ?_
  refine Ev.iload_1 dX4_weight_67 rfl ?_
  refine Ev.aldn dX4_weight_68 rfl (by have := ok.2.2.2.1; omega) (by decide) ?_
  refine Ev.iret dX4_weight_69 ?_
  exact ⟨rfl, rfl⟩

set_option maxHeartbeats 4000000 in
set_option maxRecDepth 100000 in
theorem c_weight_1 {d : Nat} {h pg l s il is t k : Nat → Int32} {PF LF SF ILF ISF TF KF : Nat → Nat → Int32} {V N : Nat} (ok : LOK l LF V N) {w : Nat} (hw : w < N)  : Ev (d + 1) yX4_weight cX4_weight (some .int) 0 [some (.ref 0), some (.int (nI w)), some (.int 1)] [] (clsW h pg PF l LF s SF il ILF is ISF t TF k KF) (Is (some (.int (LF 4 w))) (clsW h pg PF l LF s SF il ILF is ISF t TF k KF)) := by
  refine Ev.aload_0 dX4_weight_0 rfl ?_
  refine Ev.iload_1 dX4_weight_1 rfl ?_
  refine k_X4_isWeight (c_isWeight_t ok hw) dX4_weight_2 wl_X4_80 rfl (Nat.le_of_ble_eq_true rfl) ?_
  refine Ev.if_ne 11 dX4_weight_5 (by decide) (fun hcst => ?_) (fun hcst => ?_)
  rotate_left
  · exact absurd hcst (by decide)
  refine Ev.iload_2 dX4_weight_11 rfl ?_
  refine Ev.tableIn 70 dX4_weight_12 (by decide) (by decide) rfl (by decide) ?_
  refine Ev.aload_0 dX4_weight_70 rfl ?_
  refine Ev.getf cf4 1 (by decide) wf_X4_19 dX4_weight_71 rfl rfl ?_
  refine Ev.getf cf0 4 (by decide) wf_X4_88 dX4_weight_74 rfl rfl ?_
  refine Ev.iload_1 dX4_weight_77 rfl ?_
  refine Ev.aldn dX4_weight_78 rfl (by have := ok.2.2.2.1; omega) (by decide) ?_
  refine Ev.iret dX4_weight_79 ?_
  exact ⟨rfl, rfl⟩

set_option maxHeartbeats 4000000 in
set_option maxRecDepth 100000 in
theorem c_weight_2 {d : Nat} {h pg l s il is t k : Nat → Int32} {PF LF SF ILF ISF TF KF : Nat → Nat → Int32} {V N : Nat} (ok : LOK l LF V N) {w : Nat} (hw : w < N)  : Ev (d + 1) yX4_weight cX4_weight (some .int) 0 [some (.ref 0), some (.int (nI w)), some (.int 2)] [] (clsW h pg PF l LF s SF il ILF is ISF t TF k KF) (Is (some (.int (LF 5 w))) (clsW h pg PF l LF s SF il ILF is ISF t TF k KF)) := by
  refine Ev.aload_0 dX4_weight_0 rfl ?_
  refine Ev.iload_1 dX4_weight_1 rfl ?_
  refine k_X4_isWeight (c_isWeight_t ok hw) dX4_weight_2 wl_X4_80 rfl (Nat.le_of_ble_eq_true rfl) ?_
  refine Ev.if_ne 11 dX4_weight_5 (by decide) (fun hcst => ?_) (fun hcst => ?_)
  rotate_left
  · exact absurd hcst (by decide)
  refine Ev.iload_2 dX4_weight_11 rfl ?_
  refine Ev.tableIn 80 dX4_weight_12 (by decide) (by decide) rfl (by decide) ?_
  refine Ev.aload_0 dX4_weight_80 rfl ?_
  refine Ev.getf cf4 1 (by decide) wf_X4_19 dX4_weight_81 rfl rfl ?_
  refine Ev.getf cf0 5 (by decide) wf_X4_91 dX4_weight_84 rfl rfl ?_
  refine Ev.iload_1 dX4_weight_87 rfl ?_
  refine Ev.aldn dX4_weight_88 rfl (by have := ok.2.2.2.1; omega) (by decide) ?_
  refine Ev.iret dX4_weight_89 ?_
  exact ⟨rfl, rfl⟩

set_option maxHeartbeats 4000000 in
set_option maxRecDepth 100000 in
theorem c_weight_3 {d : Nat} {h pg l s il is t k : Nat → Int32} {PF LF SF ILF ISF TF KF : Nat → Nat → Int32} {V N : Nat} (ok : LOK l LF V N) {w : Nat} (hw : w < N)  : Ev (d + 1) yX4_weight cX4_weight (some .int) 0 [some (.ref 0), some (.int (nI w)), some (.int 3)] [] (clsW h pg PF l LF s SF il ILF is ISF t TF k KF) (Is (some (.int (LF 6 w))) (clsW h pg PF l LF s SF il ILF is ISF t TF k KF)) := by
  refine Ev.aload_0 dX4_weight_0 rfl ?_
  refine Ev.iload_1 dX4_weight_1 rfl ?_
  refine k_X4_isWeight (c_isWeight_t ok hw) dX4_weight_2 wl_X4_80 rfl (Nat.le_of_ble_eq_true rfl) ?_
  refine Ev.if_ne 11 dX4_weight_5 (by decide) (fun hcst => ?_) (fun hcst => ?_)
  rotate_left
  · exact absurd hcst (by decide)
  refine Ev.iload_2 dX4_weight_11 rfl ?_
  refine Ev.tableIn 90 dX4_weight_12 (by decide) (by decide) rfl (by decide) ?_
  refine Ev.aload_0 dX4_weight_90 rfl ?_
  refine Ev.getf cf4 1 (by decide) wf_X4_19 dX4_weight_91 rfl rfl ?_
  refine Ev.getf cf0 6 (by decide) wf_X4_94 dX4_weight_94 rfl rfl ?_
  refine Ev.iload_1 dX4_weight_97 rfl ?_
  refine Ev.aldn dX4_weight_98 rfl (by have := ok.2.2.2.1; omega) (by decide) ?_
  refine Ev.iret dX4_weight_99 ?_
  exact ⟨rfl, rfl⟩

set_option maxHeartbeats 4000000 in
set_option maxRecDepth 100000 in
theorem c_weight_4 {d : Nat} {h pg l s il is t k : Nat → Int32} {PF LF SF ILF ISF TF KF : Nat → Nat → Int32} {V N : Nat} (ok : LOK l LF V N) {w : Nat} (hw : w < N)  : Ev (d + 1) yX4_weight cX4_weight (some .int) 0 [some (.ref 0), some (.int (nI w)), some (.int 4)] [] (clsW h pg PF l LF s SF il ILF is ISF t TF k KF) (Is (some (.int (bear (LF 3 w) (LF 4 w) (LF 7 w)))) (clsW h pg PF l LF s SF il ILF is ISF t TF k KF)) := by
  refine Ev.aload_0 dX4_weight_0 rfl ?_
  refine Ev.iload_1 dX4_weight_1 rfl ?_
  refine k_X4_isWeight (c_isWeight_t ok hw) dX4_weight_2 wl_X4_80 rfl (Nat.le_of_ble_eq_true rfl) ?_
  refine Ev.if_ne 11 dX4_weight_5 (by decide) (fun hcst => ?_) (fun hcst => ?_)
  rotate_left
  · exact absurd hcst (by decide)
  refine Ev.iload_2 dX4_weight_11 rfl ?_
  refine Ev.tableIn 100 dX4_weight_12 (by decide) (by decide) rfl (by decide) ?_
  refine Ev.aload_0 dX4_weight_100 rfl ?_
  refine Ev.getf cf4 1 (by decide) wf_X4_19 dX4_weight_101 rfl rfl ?_
  refine Ev.getf cf0 3 (by decide) wf_X4_84 dX4_weight_104 rfl rfl ?_
  refine Ev.iload_1 dX4_weight_107 rfl ?_
  refine Ev.aldn dX4_weight_108 rfl (by have := ok.2.2.2.1; omega) (by decide) ?_
  refine Ev.aload_0 dX4_weight_109 rfl ?_
  refine Ev.getf cf4 1 (by decide) wf_X4_19 dX4_weight_110 rfl rfl ?_
  refine Ev.getf cf0 4 (by decide) wf_X4_88 dX4_weight_113 rfl rfl ?_
  refine Ev.iload_1 dX4_weight_116 rfl ?_
  refine Ev.aldn dX4_weight_117 rfl (by have := ok.2.2.2.1; omega) (by decide) ?_
  refine Ev.aload_0 dX4_weight_118 rfl ?_
  refine Ev.getf cf4 1 (by decide) wf_X4_19 dX4_weight_119 rfl rfl ?_
  refine Ev.getf cf0 7 (by decide) wf_X4_97 dX4_weight_122 rfl rfl ?_
  refine Ev.iload_1 dX4_weight_125 rfl ?_
  refine Ev.aldn dX4_weight_126 rfl (by have := ok.2.2.2.1; omega) (by decide) ?_
  refine k_X4_bearing (e_X4_bearing _ _ _) dX4_weight_127 wl_X4_100 (Nat.le_of_ble_eq_true rfl) ?_
  refine Ev.iret dX4_weight_130 ?_
  exact ⟨rfl, rfl⟩

set_option maxHeartbeats 4000000 in
set_option maxRecDepth 100000 in
theorem c_weight_5 {d : Nat} {h pg l s il is t k : Nat → Int32} {PF LF SF ILF ISF TF KF : Nat → Nat → Int32} {V N : Nat} (ok : LOK l LF V N) {w : Nat} (hw : w < N)  : Ev (d + 1) yX4_weight cX4_weight (some .int) 0 [some (.ref 0), some (.int (nI w)), some (.int 5)] [] (clsW h pg PF l LF s SF il ILF is ISF t TF k KF) (Is (some (.int (LF 7 w))) (clsW h pg PF l LF s SF il ILF is ISF t TF k KF)) := by
  refine Ev.aload_0 dX4_weight_0 rfl ?_
  refine Ev.iload_1 dX4_weight_1 rfl ?_
  refine k_X4_isWeight (c_isWeight_t ok hw) dX4_weight_2 wl_X4_80 rfl (Nat.le_of_ble_eq_true rfl) ?_
  refine Ev.if_ne 11 dX4_weight_5 (by decide) (fun hcst => ?_) (fun hcst => ?_)
  rotate_left
  · exact absurd hcst (by decide)
  refine Ev.iload_2 dX4_weight_11 rfl ?_
  refine Ev.tableIn 131 dX4_weight_12 (by decide) (by decide) rfl (by decide) ?_
  refine Ev.aload_0 dX4_weight_131 rfl ?_
  refine Ev.getf cf4 1 (by decide) wf_X4_19 dX4_weight_132 rfl rfl ?_
  refine Ev.getf cf0 7 (by decide) wf_X4_97 dX4_weight_135 rfl rfl ?_
  refine Ev.iload_1 dX4_weight_138 rfl ?_
  refine Ev.aldn dX4_weight_139 rfl (by have := ok.2.2.2.1; omega) (by decide) ?_
  refine Ev.iret dX4_weight_140 ?_
  exact ⟨rfl, rfl⟩

set_option maxHeartbeats 4000000 in
set_option maxRecDepth 100000 in
theorem c_weight_6 {d : Nat} {h pg l s il is t k : Nat → Int32} {PF LF SF ILF ISF TF KF : Nat → Nat → Int32} {V N : Nat} (ok : LOK l LF V N) {K : Nat} (hK : s 0 = nI K) (h8 : K ≤ 8) {w : Nat} (hw : w < N)  : Ev (d + 4) yX4_weight cX4_weight (some .int) 0 [some (.ref 0), some (.int (nI w)), some (.int 6)] [] (clsW h pg PF l LF s SF il ILF is ISF t TF k KF) (Is (some (.int (po (vC LF) SF N K w))) (clsW h pg PF l LF s SF il ILF is ISF t TF k KF)) := by
  refine Ev.aload_0 dX4_weight_0 rfl ?_
  refine Ev.iload_1 dX4_weight_1 rfl ?_
  refine k_X4_isWeight (c_isWeight_t ok hw) dX4_weight_2 wl_X4_80 rfl (Nat.le_of_ble_eq_true rfl) ?_
  refine Ev.if_ne 11 dX4_weight_5 (by decide) (fun hcst => ?_) (fun hcst => ?_)
  rotate_left
  · exact absurd hcst (by decide)
  refine Ev.iload_2 dX4_weight_11 rfl ?_
  refine Ev.tableIn 141 dX4_weight_12 (by decide) (by decide) rfl (by decide) ?_
  refine Ev.aload_0 dX4_weight_141 rfl ?_
  refine Ev.getf cf4 2 (by decide) wf_X4_26 dX4_weight_142 rfl rfl ?_
  refine Ev.aload_0 dX4_weight_145 rfl ?_
  refine Ev.getf cf4 1 (by decide) wf_X4_19 dX4_weight_146 rfl rfl ?_
  refine Ev.iload_1 dX4_weight_149 rfl ?_
  refine kp_X3_possibleOunces [10, 11, 12, 13, 14, 15, 3, 4, 5, 6, 7, 8, 9] (e_X3_possibleOunces ok hw hK h8) dX4_weight_150 wl_X4_104 rfl (Nat.le_of_ble_eq_true rfl) rfl rfl (by decide) ⟨rfl, rfl⟩ rfl ?_
  refine Ev.iret dX4_weight_153 ?_
  exact ⟨rfl, rfl⟩

set_option maxHeartbeats 4000000 in
set_option maxRecDepth 100000 in
theorem c_weight_7 {d : Nat} {h pg l s il is t k : Nat → Int32} {PF LF SF ILF ISF TF KF : Nat → Nat → Int32} {V N : Nat} (ok : LOK l LF V N) {K : Nat} (hK : s 0 = nI K) (h8 : K ≤ 8) {w : Nat} (hw : w < N)  : Ev (d + 5) yX4_weight cX4_weight (some .int) 0 [some (.ref 0), some (.int (nI w)), some (.int 7)] [] (clsW h pg PF l LF s SF il ILF is ISF t TF k KF) (Is (some (.int (ww (vC LF) SF N K w))) (clsW h pg PF l LF s (wwS (vC LF) SF N K w) il ILF is ISF t TF k KF)) := by
  refine Ev.aload_0 dX4_weight_0 rfl ?_
  refine Ev.iload_1 dX4_weight_1 rfl ?_
  refine k_X4_isWeight (c_isWeight_t ok hw) dX4_weight_2 wl_X4_80 rfl (Nat.le_of_ble_eq_true rfl) ?_
  refine Ev.if_ne 11 dX4_weight_5 (by decide) (fun hcst => ?_) (fun hcst => ?_)
  rotate_left
  · exact absurd hcst (by decide)
  refine Ev.iload_2 dX4_weight_11 rfl ?_
  refine Ev.tableIn 154 dX4_weight_12 (by decide) (by decide) rfl (by decide) ?_
  refine Ev.aload_0 dX4_weight_154 rfl ?_
  refine Ev.getf cf4 2 (by decide) wf_X4_26 dX4_weight_155 rfl rfl ?_
  refine Ev.aload_0 dX4_weight_158 rfl ?_
  refine Ev.getf cf4 1 (by decide) wf_X4_19 dX4_weight_159 rfl rfl ?_
  refine Ev.iload_1 dX4_weight_162 rfl ?_
  refine ke_X3_windToWaitFor (w2 := (clsW h pg PF l LF s (wwS (vC LF) SF N K w) il ILF is ISF t TF k KF)) [10, 11, 12, 13, 14, 15, 3, 4, 5, 6, 7, 8, 9] (e_X3_windToWaitFor ok hw hK h8) dX4_weight_163 wl_X4_108 rfl (Nat.le_of_ble_eq_true rfl) rfl rfl (by decide) ⟨rfl, rfl⟩ rfl rfl rfl ?_
  refine Ev.iret dX4_weight_166 ?_
  exact ⟨rfl, rfl⟩

set_option maxHeartbeats 4000000 in
set_option maxRecDepth 100000 in
theorem c_weight_o {d : Nat} {h pg l s il is t k : Nat → Int32} {PF LF SF ILF ISF TF KF : Nat → Nat → Int32} {V N : Nat} (ok : LOK l LF V N) {w : Nat} (hw : w < N) {x : Int32} (hx : x.toInt < 0 ∨ 7 < x.toInt) : Ev (d + 1) yX4_weight cX4_weight (some .int) 0 [some (.ref 0), some (.int (nI w)), some (.int x)] [] (clsW h pg PF l LF s SF il ILF is ISF t TF k KF) (Is (some (.int (-102))) (clsW h pg PF l LF s SF il ILF is ISF t TF k KF)) := by
  refine Ev.aload_0 dX4_weight_0 rfl ?_
  refine Ev.iload_1 dX4_weight_1 rfl ?_
  refine k_X4_isWeight (c_isWeight_t ok hw) dX4_weight_2 wl_X4_80 rfl (Nat.le_of_ble_eq_true rfl) ?_
  refine Ev.if_ne 11 dX4_weight_5 (by decide) (fun hcst => ?_) (fun hcst => ?_)
  rotate_left
  · exact absurd hcst (by decide)
  refine Ev.iload_2 dX4_weight_11 rfl ?_
  refine Ev.tableOut 167 dX4_weight_12 hx (by decide) ?_
  refine Ev.bipush (v := -102) dX4_weight_167 (by decide) ?_
  refine Ev.iret dX4_weight_169 ?_
  exact ⟨rfl, rfl⟩

set_option maxHeartbeats 4000000 in
set_option maxRecDepth 100000 in
theorem c_as_u {d : Nat} {h pg l s il is t k : Nat → Int32} {PF LF SF ILF ISF TF KF : Nat → Nat → Int32} {V N : Nat} (ok : LOK l LF V N) {x : Int32} (hx : ∀ w, w < N → x ≠ nI w) (kind : Int32) : Ev (d + 1) yX4_as cX4_as (some .int) 0 [some (.ref 0), some (.int x), some (.int kind)] [] (clsW h pg PF l LF s SF il ILF is ISF t TF k KF) (Is (some (.int (-101))) (clsW h pg PF l LF s SF il ILF is ISF t TF k KF)) := by
  refine Ev.aload_0 dX4_as_0 rfl ?_
  refine Ev.iload_1 dX4_as_1 rfl ?_
  refine k_X4_isWeight (c_isWeight_f ok hx) dX4_as_2 wl_X4_80 rfl (Nat.le_of_ble_eq_true rfl) ?_
  refine Ev.if_ne 11 dX4_as_5 (by decide) (fun hcst => ?_) (fun hcst => ?_)
  · exact absurd hcst (by decide)
  refine Ev.bipush (v := -101) dX4_as_8 (by decide) ?_
  refine Ev.iret dX4_as_10 ?_
  exact ⟨rfl, rfl⟩

set_option maxHeartbeats 4000000 in
set_option maxRecDepth 100000 in
theorem c_as_o {d : Nat} {h pg l s il is t k : Nat → Int32} {PF LF SF ILF ISF TF KF : Nat → Nat → Int32} {V N : Nat} (ok : LOK l LF V N) {w : Nat} (hw : w < N) {x : Int32} (hx : x < 0 ∨ 5 ≤ x) : Ev (d + 1) yX4_as cX4_as (some .int) 0 [some (.ref 0), some (.int (nI w)), some (.int x)] [] (clsW h pg PF l LF s SF il ILF is ISF t TF k KF) (Is (some (.int (-102))) (clsW h pg PF l LF s SF il ILF is ISF t TF k KF)) := by
  refine Ev.aload_0 dX4_as_0 rfl ?_
  refine Ev.iload_1 dX4_as_1 rfl ?_
  refine k_X4_isWeight (c_isWeight_t ok hw) dX4_as_2 wl_X4_80 rfl (Nat.le_of_ble_eq_true rfl) ?_
  refine Ev.if_ne 11 dX4_as_5 (by decide) (fun hcst => ?_) (fun hcst => ?_)
  rotate_left
  · exact absurd hcst (by decide)
  refine Ev.iload_2 dX4_as_11 rfl ?_
  refine Ev.if_lt 20 dX4_as_12 (by decide) (fun h12 => ?_) (fun h12 => ?_)
  · refine Ev.bipush (v := -102) dX4_as_20 (by decide) ?_
    refine Ev.iret dX4_as_22 ?_
    exact ⟨rfl, rfl⟩
  refine Ev.iload_2 dX4_as_15 rfl ?_
  refine Ev.iconst (v := 5) dX4_as_16 (by decide) ?_
  refine Ev.icmp_lt 23 dX4_as_17 (by decide) (fun h17 => ?_) (fun h17 => ?_)
  · exact absurd hx (fun q => q.elim h12 (fun z => nlt_of_le z h17))
  refine Ev.bipush (v := -102) dX4_as_20 (by decide) ?_
  refine Ev.iret dX4_as_22 ?_
  exact ⟨rfl, rfl⟩

set_option maxHeartbeats 4000000 in
set_option maxRecDepth 100000 in
theorem c_as_k {d : Nat} {h pg l s il is t k : Nat → Int32} {PF LF SF ILF ISF TF KF : Nat → Nat → Int32} {V N : Nat} (ok : LOK l LF V N) {w : Nat} (hw : w < N) {x : Int32} (h0 : ¬ x < 0) (h5 : x < 5) : Ev (d + 1) yX4_as cX4_as (some .int) 0 [some (.ref 0), some (.int (nI w)), some (.int x)] [] (clsW h pg PF l LF s SF il ILF is ISF t TF k KF) (Is (some (.int (if iok (LF 3 w) x = 0 then -1 else nI w))) (clsW h pg PF l LF s SF il ILF is ISF t TF k KF)) := by
  refine Ev.aload_0 dX4_as_0 rfl ?_
  refine Ev.iload_1 dX4_as_1 rfl ?_
  refine k_X4_isWeight (c_isWeight_t ok hw) dX4_as_2 wl_X4_80 rfl (Nat.le_of_ble_eq_true rfl) ?_
  refine Ev.if_ne 11 dX4_as_5 (by decide) (fun hcst => ?_) (fun hcst => ?_)
  rotate_left
  · exact absurd hcst (by decide)
  refine Ev.iload_2 dX4_as_11 rfl ?_
  refine Ev.if_lt 20 dX4_as_12 (by decide) (fun h12 => ?_) (fun h12 => ?_)
  · exact absurd h12 h0
  refine Ev.iload_2 dX4_as_15 rfl ?_
  refine Ev.iconst (v := 5) dX4_as_16 (by decide) ?_
  refine Ev.icmp_lt 23 dX4_as_17 (by decide) (fun h17 => ?_) (fun h17 => ?_)
  · refine Ev.aload_0 dX4_as_23 rfl ?_
    refine Ev.getf cf4 1 (by decide) wf_X4_19 dX4_as_24 rfl rfl ?_
    refine Ev.getf cf0 3 (by decide) wf_X4_84 dX4_as_27 rfl rfl ?_
    refine Ev.iload_1 dX4_as_30 rfl ?_
    refine Ev.aldn dX4_as_31 rfl (by have := ok.2.2.2.1; omega) (by decide) ?_
    refine Ev.iload_2 dX4_as_32 rfl ?_
    refine k_X4_isOfKind (c_iok _ _) dX4_as_33 wl_X4_111 (Nat.le_of_ble_eq_true rfl) ?_
    refine Ev.if_eq 43 dX4_as_36 (by decide) (fun h36 => ?_) (fun h36 => ?_)
    · refine Ev.iconst (v := -1) dX4_as_43 (by decide) ?_
      refine Ev.iret dX4_as_44 ?_
      exact ⟨by simp [*], rfl⟩
    refine Ev.iload_1 dX4_as_39 rfl ?_
    refine Ev.goto 44 dX4_as_40 (by decide) ?_
    refine Ev.iret dX4_as_44 ?_
    exact ⟨by simp [*], rfl⟩
  · exact absurd h5 h17

set_option maxHeartbeats 4000000 in
set_option maxRecDepth 100000 in
theorem c_village_u {d : Nat} {h pg l s il is t k : Nat → Int32} {PF LF SF ILF ISF TF KF : Nat → Nat → Int32} {V N : Nat} (ok : LOK l LF V N) {y : Int32} (hy : ∀ w, w < V → y ≠ nI w) (what : Int32) : Ev (d + 1) yX4_village cX4_village (some .int) 0 [some (.ref 0), some (.int y), some (.int what)] [] (clsW h pg PF l LF s SF il ILF is ISF t TF k KF) (Is (some (.int (-101))) (clsW h pg PF l LF s SF il ILF is ISF t TF k KF)) := by
  refine Ev.aload_0 dX4_village_0 rfl ?_
  refine Ev.iload_1 dX4_village_1 rfl ?_
  refine k_X4_isVillage (c_isVillage_f ok hy) dX4_village_2 wl_X4_115 rfl (Nat.le_of_ble_eq_true rfl) ?_
  refine Ev.if_ne 11 dX4_village_5 (by decide) (fun hcst => ?_) (fun hcst => ?_)
  · exact absurd hcst (by decide)
  refine Ev.bipush (v := -101) dX4_village_8 (by decide) ?_
  refine Ev.iret dX4_village_10 ?_
  exact ⟨rfl, rfl⟩

set_option maxHeartbeats 4000000 in
set_option maxRecDepth 100000 in
theorem c_village_0 {d : Nat} {h pg l s il is t k : Nat → Int32} {PF LF SF ILF ISF TF KF : Nat → Nat → Int32} {V N : Nat} (ok : LOK l LF V N) {v : Nat} (hv : v < V)  : Ev (d + 3) yX4_village cX4_village (some .int) 0 [some (.ref 0), some (.int (nI v)), some (.int 0)] [] (clsW h pg PF l LF s SF il ILF is ISF t TF k KF) (Is (some (.int (LF 2 v))) (clsW h pg PF l LF s SF il ILF is ISF t TF k KF)) := by
  refine Ev.aload_0 dX4_village_0 rfl ?_
  refine Ev.iload_1 dX4_village_1 rfl ?_
  refine k_X4_isVillage (c_isVillage_t ok hv) dX4_village_2 wl_X4_115 rfl (Nat.le_of_ble_eq_true rfl) ?_
  refine Ev.if_ne 11 dX4_village_5 (by decide) (fun hcst => ?_) (fun hcst => ?_)
  rotate_left
  · exact absurd hcst (by decide)
  refine Ev.iload_2 dX4_village_11 rfl ?_
  refine Ev.tableIn 60 dX4_village_12 (by decide) (by decide) rfl (by decide) ?_
  refine Ev.aload_0 dX4_village_60 rfl ?_
  refine Ev.getf cf4 1 (by decide) wf_X4_19 dX4_village_61 rfl rfl ?_
  refine Ev.getf cf0 2 (by decide) wf_X4_118 dX4_village_64 rfl rfl ?_
  refine Ev.iload_1 dX4_village_67 rfl ?_
  refine Ev.aldn dX4_village_68 rfl (by have := ok.2.2.1; omega) (by decide) ?_
  refine Ev.iret dX4_village_69 ?_
  exact ⟨rfl, rfl⟩

set_option maxHeartbeats 4000000 in
set_option maxRecDepth 100000 in
theorem c_village_1 {d : Nat} {h pg l s il is t k : Nat → Int32} {PF LF SF ILF ISF TF KF : Nat → Nat → Int32} {V N : Nat} (ok : LOK l LF V N) {v : Nat} (hv : v < V)  : Ev (d + 3) yX4_village cX4_village (some .int) 0 [some (.ref 0), some (.int (nI v)), some (.int 1)] [] (clsW h pg PF l LF s SF il ILF is ISF t TF k KF) (Is (some (.int (hld (vC LF) N (-1) v 0))) (clsW h pg PF l LF s SF il ILF is ISF t TF k KF)) := by
  refine Ev.aload_0 dX4_village_0 rfl ?_
  refine Ev.iload_1 dX4_village_1 rfl ?_
  refine k_X4_isVillage (c_isVillage_t ok hv) dX4_village_2 wl_X4_115 rfl (Nat.le_of_ble_eq_true rfl) ?_
  refine Ev.if_ne 11 dX4_village_5 (by decide) (fun hcst => ?_) (fun hcst => ?_)
  rotate_left
  · exact absurd hcst (by decide)
  refine Ev.iload_2 dX4_village_11 rfl ?_
  refine Ev.tableIn 70 dX4_village_12 (by decide) (by decide) rfl (by decide) ?_
  refine Ev.aload_0 dX4_village_70 rfl ?_
  refine Ev.getf cf4 1 (by decide) wf_X4_19 dX4_village_71 rfl rfl ?_
  refine Ev.iconst (v := -1) dX4_village_74 (by decide) ?_
  refine Ev.iload_1 dX4_village_75 rfl ?_
  refine Ev.iconst (v := 0) dX4_village_76 (by decide) ?_
  refine kp_X0_holdBut [3, 4, 5, 6, 7, 8, 9] (e_X0_holdBut (-1) 0 ok.2.1 ok.2.2.2.1 (by have := ok.2.2.1; omega)) dX4_village_77 wl_X4_121 rfl (Nat.le_of_ble_eq_true rfl) rfl (by decide) ⟨rfl, rfl⟩ rfl ?_
  refine Ev.iret dX4_village_80 ?_
  exact ⟨rfl, rfl⟩

set_option maxHeartbeats 4000000 in
set_option maxRecDepth 100000 in
theorem c_village_2 {d : Nat} {h pg l s il is t k : Nat → Int32} {PF LF SF ILF ISF TF KF : Nat → Nat → Int32} {V N : Nat} (ok : LOK l LF V N) {v : Nat} (hv : v < V)  : Ev (d + 3) yX4_village cX4_village (some .int) 0 [some (.ref 0), some (.int (nI v)), some (.int 2)] [] (clsW h pg PF l LF s SF il ILF is ISF t TF k KF) (Is (some (.int (hld (vC LF) N (-1) v 1))) (clsW h pg PF l LF s SF il ILF is ISF t TF k KF)) := by
  refine Ev.aload_0 dX4_village_0 rfl ?_
  refine Ev.iload_1 dX4_village_1 rfl ?_
  refine k_X4_isVillage (c_isVillage_t ok hv) dX4_village_2 wl_X4_115 rfl (Nat.le_of_ble_eq_true rfl) ?_
  refine Ev.if_ne 11 dX4_village_5 (by decide) (fun hcst => ?_) (fun hcst => ?_)
  rotate_left
  · exact absurd hcst (by decide)
  refine Ev.iload_2 dX4_village_11 rfl ?_
  refine Ev.tableIn 81 dX4_village_12 (by decide) (by decide) rfl (by decide) ?_
  refine Ev.aload_0 dX4_village_81 rfl ?_
  refine Ev.getf cf4 1 (by decide) wf_X4_19 dX4_village_82 rfl rfl ?_
  refine Ev.iconst (v := -1) dX4_village_85 (by decide) ?_
  refine Ev.iload_1 dX4_village_86 rfl ?_
  refine Ev.iconst (v := 1) dX4_village_87 (by decide) ?_
  refine kp_X0_holdBut [3, 4, 5, 6, 7, 8, 9] (e_X0_holdBut (-1) 1 ok.2.1 ok.2.2.2.1 (by have := ok.2.2.1; omega)) dX4_village_88 wl_X4_121 rfl (Nat.le_of_ble_eq_true rfl) rfl (by decide) ⟨rfl, rfl⟩ rfl ?_
  refine Ev.iret dX4_village_91 ?_
  exact ⟨rfl, rfl⟩

set_option maxHeartbeats 4000000 in
set_option maxRecDepth 100000 in
theorem c_village_3 {d : Nat} {h pg l s il is t k : Nat → Int32} {PF LF SF ILF ISF TF KF : Nat → Nat → Int32} {V N : Nat} (ok : LOK l LF V N) {v : Nat} (hv : v < V)  : Ev (d + 3) yX4_village cX4_village (some .int) 0 [some (.ref 0), some (.int (nI v)), some (.int 3)] [] (clsW h pg PF l LF s SF il ILF is ISF t TF k KF) (Is (some (.int (stb (hld (vC LF) N (-1) v 0)))) (clsW h pg PF l LF s SF il ILF is ISF t TF k KF)) := by
  refine Ev.aload_0 dX4_village_0 rfl ?_
  refine Ev.iload_1 dX4_village_1 rfl ?_
  refine k_X4_isVillage (c_isVillage_t ok hv) dX4_village_2 wl_X4_115 rfl (Nat.le_of_ble_eq_true rfl) ?_
  refine Ev.if_ne 11 dX4_village_5 (by decide) (fun hcst => ?_) (fun hcst => ?_)
  rotate_left
  · exact absurd hcst (by decide)
  refine Ev.iload_2 dX4_village_11 rfl ?_
  refine Ev.tableIn 92 dX4_village_12 (by decide) (by decide) rfl (by decide) ?_
  refine Ev.aload_0 dX4_village_92 rfl ?_
  refine Ev.getf cf4 1 (by decide) wf_X4_19 dX4_village_93 rfl rfl ?_
  refine Ev.iconst (v := -1) dX4_village_96 (by decide) ?_
  refine Ev.iload_1 dX4_village_97 rfl ?_
  refine Ev.iconst (v := 0) dX4_village_98 (by decide) ?_
  refine kp_X0_holdBut [3, 4, 5, 6, 7, 8, 9] (e_X0_holdBut (-1) 0 ok.2.1 ok.2.2.2.1 (by have := ok.2.2.1; omega)) dX4_village_99 wl_X4_121 rfl (Nat.le_of_ble_eq_true rfl) rfl (by decide) ⟨rfl, rfl⟩ rfl ?_
  refine k_X4_standBy (e_X4_standBy _) dX4_village_102 wl_X4_124 (Nat.le_of_ble_eq_true rfl) ?_
  refine Ev.iret dX4_village_105 ?_
  exact ⟨rfl, rfl⟩

set_option maxHeartbeats 4000000 in
set_option maxRecDepth 100000 in
theorem c_village_4 {d : Nat} {h pg l s il is t k : Nat → Int32} {PF LF SF ILF ISF TF KF : Nat → Nat → Int32} {V N : Nat} (ok : LOK l LF V N) {v : Nat} (hv : v < V)  : Ev (d + 3) yX4_village cX4_village (some .int) 0 [some (.ref 0), some (.int (nI v)), some (.int 4)] [] (clsW h pg PF l LF s SF il ILF is ISF t TF k KF) (Is (some (.int (stb (hld (vC LF) N (-1) v 1)))) (clsW h pg PF l LF s SF il ILF is ISF t TF k KF)) := by
  refine Ev.aload_0 dX4_village_0 rfl ?_
  refine Ev.iload_1 dX4_village_1 rfl ?_
  refine k_X4_isVillage (c_isVillage_t ok hv) dX4_village_2 wl_X4_115 rfl (Nat.le_of_ble_eq_true rfl) ?_
  refine Ev.if_ne 11 dX4_village_5 (by decide) (fun hcst => ?_) (fun hcst => ?_)
  rotate_left
  · exact absurd hcst (by decide)
  refine Ev.iload_2 dX4_village_11 rfl ?_
  refine Ev.tableIn 106 dX4_village_12 (by decide) (by decide) rfl (by decide) ?_
  refine Ev.aload_0 dX4_village_106 rfl ?_
  refine Ev.getf cf4 1 (by decide) wf_X4_19 dX4_village_107 rfl rfl ?_
  refine Ev.iconst (v := -1) dX4_village_110 (by decide) ?_
  refine Ev.iload_1 dX4_village_111 rfl ?_
  refine Ev.iconst (v := 1) dX4_village_112 (by decide) ?_
  refine kp_X0_holdBut [3, 4, 5, 6, 7, 8, 9] (e_X0_holdBut (-1) 1 ok.2.1 ok.2.2.2.1 (by have := ok.2.2.1; omega)) dX4_village_113 wl_X4_121 rfl (Nat.le_of_ble_eq_true rfl) rfl (by decide) ⟨rfl, rfl⟩ rfl ?_
  refine k_X4_standBy (e_X4_standBy _) dX4_village_116 wl_X4_124 (Nat.le_of_ble_eq_true rfl) ?_
  refine Ev.iret dX4_village_119 ?_
  exact ⟨rfl, rfl⟩

set_option maxHeartbeats 4000000 in
set_option maxRecDepth 100000 in
theorem c_village_5 {d : Nat} {h pg l s il is t k : Nat → Int32} {PF LF SF ILF ISF TF KF : Nat → Nat → Int32} {V N : Nat} (ok : LOK l LF V N) {v : Nat} (hv : v < V)  : Ev (d + 3) yX4_village cX4_village (some .int) 0 [some (.ref 0), some (.int (nI v)), some (.int 5)] [] (clsW h pg PF l LF s SF il ILF is ISF t TF k KF) (Is (some (.int (lst (vC LF) N v))) (clsW h pg PF l LF s SF il ILF is ISF t TF k KF)) := by
  refine Ev.aload_0 dX4_village_0 rfl ?_
  refine Ev.iload_1 dX4_village_1 rfl ?_
  refine k_X4_isVillage (c_isVillage_t ok hv) dX4_village_2 wl_X4_115 rfl (Nat.le_of_ble_eq_true rfl) ?_
  refine Ev.if_ne 11 dX4_village_5 (by decide) (fun hcst => ?_) (fun hcst => ?_)
  rotate_left
  · exact absurd hcst (by decide)
  refine Ev.iload_2 dX4_village_11 rfl ?_
  refine Ev.tableIn 120 dX4_village_12 (by decide) (by decide) rfl (by decide) ?_
  refine Ev.aload_0 dX4_village_120 rfl ?_
  refine Ev.getf cf4 1 (by decide) wf_X4_19 dX4_village_121 rfl rfl ?_
  refine Ev.iload_1 dX4_village_124 rfl ?_
  refine kp_X0_leastOf [3, 4, 5, 6, 7, 8, 9] (e_X0_leastOf ok hv) dX4_village_125 wl_X4_128 rfl (Nat.le_of_ble_eq_true rfl) rfl (by decide) ⟨rfl, rfl⟩ rfl ?_
  refine Ev.iret dX4_village_128 ?_
  exact ⟨rfl, rfl⟩

set_option maxHeartbeats 4000000 in
set_option maxRecDepth 100000 in
theorem c_village_6 {d : Nat} {h pg l s il is t k : Nat → Int32} {PF LF SF ILF ISF TF KF : Nat → Nat → Int32} {V N : Nat} (ok : LOK l LF V N) {v : Nat} (hv : v < V)  : Ev (d + 3) yX4_village cX4_village (some .int) 0 [some (.ref 0), some (.int (nI v)), some (.int 6)] [] (clsW h pg PF l LF s SF il ILF is ISF t TF k KF) (Is (some (.int (wi (vC LF) N (nI v)))) (clsW h pg PF l LF s SF il ILF is ISF t TF k KF)) := by
  refine Ev.aload_0 dX4_village_0 rfl ?_
  refine Ev.iload_1 dX4_village_1 rfl ?_
  refine k_X4_isVillage (c_isVillage_t ok hv) dX4_village_2 wl_X4_115 rfl (Nat.le_of_ble_eq_true rfl) ?_
  refine Ev.if_ne 11 dX4_village_5 (by decide) (fun hcst => ?_) (fun hcst => ?_)
  rotate_left
  · exact absurd hcst (by decide)
  refine Ev.iload_2 dX4_village_11 rfl ?_
  refine Ev.tableIn 129 dX4_village_12 (by decide) (by decide) rfl (by decide) ?_
  refine Ev.aload_0 dX4_village_129 rfl ?_
  refine Ev.getf cf4 1 (by decide) wf_X4_19 dX4_village_130 rfl rfl ?_
  refine Ev.iload_1 dX4_village_133 rfl ?_
  refine kp_X0_weightsIn [3, 4, 5, 6, 7, 8, 9] (e_X0_weightsIn ok _) dX4_village_134 wl_X4_131 rfl (Nat.le_of_ble_eq_true rfl) rfl (by decide) ⟨rfl, rfl⟩ rfl ?_
  refine Ev.iret dX4_village_137 ?_
  exact ⟨rfl, rfl⟩

set_option maxHeartbeats 4000000 in
set_option maxRecDepth 100000 in
theorem c_village_7 {d : Nat} {h pg l s il is t k : Nat → Int32} {PF LF SF ILF ISF TF KF : Nat → Nat → Int32} {V N : Nat} (ok : LOK l LF V N) {v : Nat} (hv : v < V)  : Ev (d + 3) yX4_village cX4_village (some .int) 0 [some (.ref 0), some (.int (nI v)), some (.int 7)] [] (clsW h pg PF l LF s SF il ILF is ISF t TF k KF) (Is (some (.int (oz (vC LF) N (nI v)))) (clsW h pg PF l LF s SF il ILF is ISF t TF k KF)) := by
  refine Ev.aload_0 dX4_village_0 rfl ?_
  refine Ev.iload_1 dX4_village_1 rfl ?_
  refine k_X4_isVillage (c_isVillage_t ok hv) dX4_village_2 wl_X4_115 rfl (Nat.le_of_ble_eq_true rfl) ?_
  refine Ev.if_ne 11 dX4_village_5 (by decide) (fun hcst => ?_) (fun hcst => ?_)
  rotate_left
  · exact absurd hcst (by decide)
  refine Ev.iload_2 dX4_village_11 rfl ?_
  refine Ev.tableIn 138 dX4_village_12 (by decide) (by decide) rfl (by decide) ?_
  refine Ev.aload_0 dX4_village_138 rfl ?_
  refine Ev.getf cf4 1 (by decide) wf_X4_19 dX4_village_139 rfl rfl ?_
  refine Ev.iload_1 dX4_village_142 rfl ?_
  refine kp_X0_ouncesIn [3, 4, 5, 6, 7, 8, 9] (e_X0_ouncesIn ok _) dX4_village_143 wl_X4_134 rfl (Nat.le_of_ble_eq_true rfl) rfl (by decide) ⟨rfl, rfl⟩ rfl ?_
  refine Ev.iret dX4_village_146 ?_
  exact ⟨rfl, rfl⟩

set_option maxHeartbeats 4000000 in
set_option maxRecDepth 100000 in
theorem c_village_o {d : Nat} {h pg l s il is t k : Nat → Int32} {PF LF SF ILF ISF TF KF : Nat → Nat → Int32} {V N : Nat} (ok : LOK l LF V N) {v : Nat} (hv : v < V) {x : Int32} (hx : x.toInt < 0 ∨ 7 < x.toInt) : Ev (d + 1) yX4_village cX4_village (some .int) 0 [some (.ref 0), some (.int (nI v)), some (.int x)] [] (clsW h pg PF l LF s SF il ILF is ISF t TF k KF) (Is (some (.int (-102))) (clsW h pg PF l LF s SF il ILF is ISF t TF k KF)) := by
  refine Ev.aload_0 dX4_village_0 rfl ?_
  refine Ev.iload_1 dX4_village_1 rfl ?_
  refine k_X4_isVillage (c_isVillage_t ok hv) dX4_village_2 wl_X4_115 rfl (Nat.le_of_ble_eq_true rfl) ?_
  refine Ev.if_ne 11 dX4_village_5 (by decide) (fun hcst => ?_) (fun hcst => ?_)
  rotate_left
  · exact absurd hcst (by decide)
  refine Ev.iload_2 dX4_village_11 rfl ?_
  refine Ev.tableOut 147 dX4_village_12 hx (by decide) ?_
  refine Ev.bipush (v := -102) dX4_village_147 (by decide) ?_
  refine Ev.iret dX4_village_149 ?_
  exact ⟨rfl, rfl⟩

set_option maxHeartbeats 4000000 in
set_option maxRecDepth 100000 in
theorem c_lifts_u {d : Nat} {h pg l s il is t k : Nat → Int32} {PF LF SF ILF ISF TF KF : Nat → Nat → Int32} {V N : Nat} (ok : LOK l LF V N) {y : Int32} (hy : ∀ w, w < V → y ≠ nI w) (p q : Int32) : Ev (d + 1) yX4_lifts cX4_lifts (some .int) 0 [some (.ref 0), some (.int y), some (.int p), some (.int q)] [] (clsW h pg PF l LF s SF il ILF is ISF t TF k KF) (Is (some (.int (-101))) (clsW h pg PF l LF s SF il ILF is ISF t TF k KF)) := by
  refine Ev.aload_0 dX4_lifts_0 rfl ?_
  refine Ev.iload_1 dX4_lifts_1 rfl ?_
  refine k_X4_isVillage (c_isVillage_f ok hy) dX4_lifts_2 wl_X4_115 rfl (Nat.le_of_ble_eq_true rfl) ?_
  refine Ev.if_ne 11 dX4_lifts_5 (by decide) (fun hcst => ?_) (fun hcst => ?_)
  · exact absurd hcst (by decide)
  refine Ev.bipush (v := -101) dX4_lifts_8 (by decide) ?_
  refine Ev.iret dX4_lifts_10 ?_
  exact ⟨rfl, rfl⟩

set_option maxHeartbeats 4000000 in
set_option maxRecDepth 100000 in
theorem c_lifts_o {d : Nat} {h pg l s il is t k : Nat → Int32} {PF LF SF ILF ISF TF KF : Nat → Nat → Int32} {V N : Nat} (ok : LOK l LF V N) {v : Nat} (hv : v < V) {p q : Int32} (hpq : ∀ a b, a < 2 → b < 100 → ¬ (p = nI a ∧ q = nI b))  : Ev (d + 1) yX4_lifts cX4_lifts (some .int) 0 [some (.ref 0), some (.int (nI v)), some (.int p), some (.int q)] [] (clsW h pg PF l LF s SF il ILF is ISF t TF k KF) (Is (some (.int (-102))) (clsW h pg PF l LF s SF il ILF is ISF t TF k KF)) := by
  refine Ev.aload_0 dX4_lifts_0 rfl ?_
  refine Ev.iload_1 dX4_lifts_1 rfl ?_
  refine k_X4_isVillage (c_isVillage_t ok hv) dX4_lifts_2 wl_X4_115 rfl (Nat.le_of_ble_eq_true rfl) ?_
  refine Ev.if_ne 11 dX4_lifts_5 (by decide) (fun hcst => ?_) (fun hcst => ?_)
  rotate_left
  · exact absurd hcst (by decide)
  refine Ev.iload_2 dX4_lifts_11 rfl ?_
  refine Ev.iload_3 dX4_lifts_12 rfl ?_
  refine k_X4_isWind (c_isWind_f hpq) dX4_lifts_13 wl_X4_137 (Nat.le_of_ble_eq_true rfl) ?_
  refine Ev.if_ne 22 dX4_lifts_16 (by decide) (fun hcst => ?_) (fun hcst => ?_)
  · exact absurd hcst (by decide)
  refine Ev.bipush (v := -102) dX4_lifts_19 (by decide) ?_
  refine Ev.iret dX4_lifts_21 ?_
  exact ⟨rfl, rfl⟩

set_option maxHeartbeats 4000000 in
set_option maxRecDepth 100000 in
theorem c_lifts_k {d : Nat} {h pg l s il is t k : Nat → Int32} {PF LF SF ILF ISF TF KF : Nat → Nat → Int32} {V N : Nat} (ok : LOK l LF V N) {v : Nat} (hv : v < V) {a b : Nat} (ha : a < 2) (hb : b < 100)  : Ev (d + 2) yX4_lifts cX4_lifts (some .int) 0 [some (.ref 0), some (.int (nI v)), some (.int (nI a)), some (.int (nI b))] [] (clsW h pg PF l LF s SF il ILF is ISF t TF k KF) (Is (some (.int (if lifs (hld (vC LF) N (-1) v (nI a)) (nI b) = 0 then 0 else 1))) (clsW h pg PF l LF s SF il ILF is ISF t TF k KF)) := by
  refine Ev.aload_0 dX4_lifts_0 rfl ?_
  refine Ev.iload_1 dX4_lifts_1 rfl ?_
  refine k_X4_isVillage (c_isVillage_t ok hv) dX4_lifts_2 wl_X4_115 rfl (Nat.le_of_ble_eq_true rfl) ?_
  refine Ev.if_ne 11 dX4_lifts_5 (by decide) (fun hcst => ?_) (fun hcst => ?_)
  rotate_left
  · exact absurd hcst (by decide)
  refine Ev.iload_2 dX4_lifts_11 rfl ?_
  refine Ev.iload_3 dX4_lifts_12 rfl ?_
  refine k_X4_isWind (c_isWind_t ha hb) dX4_lifts_13 wl_X4_137 (Nat.le_of_ble_eq_true rfl) ?_
  refine Ev.if_ne 22 dX4_lifts_16 (by decide) (fun hcst => ?_) (fun hcst => ?_)
  rotate_left
  · exact absurd hcst (by decide)
  refine Ev.aload_0 dX4_lifts_22 rfl ?_
  refine Ev.getf cf4 1 (by decide) wf_X4_19 dX4_lifts_23 rfl rfl ?_
  refine Ev.iconst (v := -1) dX4_lifts_26 (by decide) ?_
  refine Ev.iload_1 dX4_lifts_27 rfl ?_
  refine Ev.iload_2 dX4_lifts_28 rfl ?_
  refine kp_X0_holdBut [3, 4, 5, 6, 7, 8, 9] (e_X0_holdBut (-1) _ ok.2.1 ok.2.2.2.1 (by have := ok.2.2.1; omega)) dX4_lifts_29 wl_X4_121 rfl (Nat.le_of_ble_eq_true rfl) rfl (by decide) ⟨rfl, rfl⟩ rfl ?_
  refine Ev.iload_3 dX4_lifts_32 rfl ?_
  refine k_X4_liftsAt (e_X4_liftsAt _ _) dX4_lifts_33 wl_X4_140 (Nat.le_of_ble_eq_true rfl) ?_
  refine Ev.if_eq 43 dX4_lifts_36 (by decide) (fun h36 => ?_) (fun h36 => ?_)
  · refine Ev.iconst (v := 0) dX4_lifts_43 (by decide) ?_
    refine Ev.iret dX4_lifts_44 ?_
    exact ⟨by simp [*], rfl⟩
  refine Ev.iconst (v := 1) dX4_lifts_39 (by decide) ?_
  refine Ev.goto 44 dX4_lifts_40 (by decide) ?_
  refine Ev.iret dX4_lifts_44 ?_
  exact ⟨by simp [*], rfl⟩

set_option maxHeartbeats 4000000 in
set_option maxRecDepth 100000 in
theorem c_blow_o {d : Nat} {h pg l s il is t k : Nat → Int32} {PF LF SF ILF ISF TF KF : Nat → Nat → Int32} {p q : Int32} (hpq : ∀ a b, a < 2 → b < 100 → ¬ (p = nI a ∧ q = nI b))  : Ev (d + 1) yX4_blow cX4_blow (some .int) 0 [some (.ref 0), some (.int p), some (.int q)] [] (clsW h pg PF l LF s SF il ILF is ISF t TF k KF) (Is (some (.int (-102))) (clsW h pg PF l LF s SF il ILF is ISF t TF k KF)) := by
  refine Ev.iload_1 dX4_blow_0 rfl ?_
  refine Ev.iload_2 dX4_blow_1 rfl ?_
  refine k_X4_isWind (c_isWind_f hpq) dX4_blow_2 wl_X4_137 (Nat.le_of_ble_eq_true rfl) ?_
  refine Ev.if_ne 11 dX4_blow_5 (by decide) (fun hcst => ?_) (fun hcst => ?_)
  · exact absurd hcst (by decide)
  refine Ev.bipush (v := -102) dX4_blow_8 (by decide) ?_
  refine Ev.iret dX4_blow_10 ?_
  exact ⟨rfl, rfl⟩

set_option maxHeartbeats 4000000 in
set_option maxRecDepth 100000 in
theorem c_blow_s {d : Nat} {h pg l s il is t k : Nat → Int32} {PF LF SF ILF ISF TF KF : Nat → Nat → Int32} {N : Nat} (ok : LOK l LF 0 N) {a b : Nat} (ha : a < 2) (hb : b < 100)  : Ev (d + 1) yX4_blow cX4_blow (some .int) 0 [some (.ref 0), some (.int (nI a)), some (.int (nI b))] [] (clsW h pg PF l LF s SF il ILF is ISF t TF k KF) (Is (some (.int (-103))) (clsW h pg PF l LF s SF il ILF is ISF t TF k KF)) := by
  refine Ev.iload_1 dX4_blow_0 rfl ?_
  refine Ev.iload_2 dX4_blow_1 rfl ?_
  refine k_X4_isWind (c_isWind_t ha hb) dX4_blow_2 wl_X4_137 (Nat.le_of_ble_eq_true rfl) ?_
  refine Ev.if_ne 11 dX4_blow_5 (by decide) (fun hcst => ?_) (fun hcst => ?_)
  rotate_left
  · exact absurd hcst (by decide)
  refine Ev.aload_0 dX4_blow_11 rfl ?_
  refine k_X4_hasTable (c_hasTable_f ok) dX4_blow_12 wl_X4_143 rfl (Nat.le_of_ble_eq_true rfl) ?_
  refine Ev.if_ne 21 dX4_blow_15 (by decide) (fun hcst => ?_) (fun hcst => ?_)
  · exact absurd hcst (by decide)
  refine Ev.bipush (v := -103) dX4_blow_18 (by decide) ?_
  refine Ev.iret dX4_blow_20 ?_
  exact ⟨rfl, rfl⟩

set_option maxHeartbeats 4000000 in
set_option maxRecDepth 100000 in
theorem c_blow_f {d : Nat} {h pg l s il is t k : Nat → Int32} {PF LF SF ILF ISF TF KF : Nat → Nat → Int32} {V N : Nat} (ok : LOK l LF V N) (hV : 0 < V) (h9 : ¬ l 8 < 999) {a b : Nat} (ha : a < 2) (hb : b < 100)  : Ev (d + 1) yX4_blow cX4_blow (some .int) 0 [some (.ref 0), some (.int (nI a)), some (.int (nI b))] [] (clsW h pg PF l LF s SF il ILF is ISF t TF k KF) (Is (some (.int (-104))) (clsW h pg PF l LF s SF il ILF is ISF t TF k KF)) := by
  refine Ev.iload_1 dX4_blow_0 rfl ?_
  refine Ev.iload_2 dX4_blow_1 rfl ?_
  refine k_X4_isWind (c_isWind_t ha hb) dX4_blow_2 wl_X4_137 (Nat.le_of_ble_eq_true rfl) ?_
  refine Ev.if_ne 11 dX4_blow_5 (by decide) (fun hcst => ?_) (fun hcst => ?_)
  rotate_left
  · exact absurd hcst (by decide)
  refine Ev.aload_0 dX4_blow_11 rfl ?_
  refine k_X4_hasTable (c_hasTable_t ok hV) dX4_blow_12 wl_X4_143 rfl (Nat.le_of_ble_eq_true rfl) ?_
  refine Ev.if_ne 21 dX4_blow_15 (by decide) (fun hcst => ?_) (fun hcst => ?_)
  rotate_left
  · exact absurd hcst (by decide)
  refine Ev.aload_0 dX4_blow_21 rfl ?_
  refine Ev.getf cf4 1 (by decide) wf_X4_19 dX4_blow_22 rfl rfl ?_
  refine Ev.getf cf0 8 (by decide) wf_X4_146 dX4_blow_25 rfl rfl ?_
  refine Ev.sipush (v := 999) dX4_blow_28 (by decide) ?_
  refine Ev.icmp_lt 37 dX4_blow_31 (by decide) (fun h31 => ?_) (fun h31 => ?_)
  · exact absurd h31 h9
  refine Ev.bipush (v := -104) dX4_blow_34 (by decide) ?_
  refine Ev.iret dX4_blow_36 ?_
  exact ⟨rfl, rfl⟩

set_option maxHeartbeats 4000000 in
set_option maxRecDepth 100000 in
theorem c_blow_k {d : Nat} {h pg l s il is t k : Nat → Int32} {PF LF SF ILF ISF TF KF : Nat → Nat → Int32} {V N : Nat} (ok : LOK l LF V N) (hV : 0 < V) (h9 : l 8 < 999) {a b : Nat} (ha : a < 2) (hb : b < 100)  : Ev (d + 3) yX4_blow cX4_blow (some .int) 0 [some (.ref 0), some (.int (nI a)), some (.int (nI b))] [] (clsW h pg PF l LF s SF il ILF is ISF t TF k KF) (Is (some (.int (bitc (tkB LF V N (nI a) (nI b))))) (clsW h pg PF (tkL l LF V N (nI a) (nI b)) (tkS l LF V N (nI a) (nI b)).2 s SF il ILF is ISF t TF k KF)) := by
  refine Ev.iload_1 dX4_blow_0 rfl ?_
  refine Ev.iload_2 dX4_blow_1 rfl ?_
  refine k_X4_isWind (c_isWind_t ha hb) dX4_blow_2 wl_X4_137 (Nat.le_of_ble_eq_true rfl) ?_
  refine Ev.if_ne 11 dX4_blow_5 (by decide) (fun hcst => ?_) (fun hcst => ?_)
  rotate_left
  · exact absurd hcst (by decide)
  refine Ev.aload_0 dX4_blow_11 rfl ?_
  refine k_X4_hasTable (c_hasTable_t ok hV) dX4_blow_12 wl_X4_143 rfl (Nat.le_of_ble_eq_true rfl) ?_
  refine Ev.if_ne 21 dX4_blow_15 (by decide) (fun hcst => ?_) (fun hcst => ?_)
  rotate_left
  · exact absurd hcst (by decide)
  refine Ev.aload_0 dX4_blow_21 rfl ?_
  refine Ev.getf cf4 1 (by decide) wf_X4_19 dX4_blow_22 rfl rfl ?_
  refine Ev.getf cf0 8 (by decide) wf_X4_146 dX4_blow_25 rfl rfl ?_
  refine Ev.sipush (v := 999) dX4_blow_28 (by decide) ?_
  refine Ev.icmp_lt 37 dX4_blow_31 (by decide) (fun h31 => ?_) (fun h31 => ?_)
  · refine Ev.aload_0 dX4_blow_37 rfl ?_
    refine Ev.getf cf4 1 (by decide) wf_X4_19 dX4_blow_38 rfl rfl ?_
    refine Ev.iload_1 dX4_blow_41 rfl ?_
    refine Ev.iload_2 dX4_blow_42 rfl ?_
    refine ke_X0_takeWind (w2 := (clsW h pg PF (tkL l LF V N (nI a) (nI b)) (tkS l LF V N (nI a) (nI b)).2 s SF il ILF is ISF t TF k KF)) [3, 4, 5, 6, 7, 8, 9] (e_X0_takeWind ok _ _) dX4_blow_43 wl_X4_149 rfl (Nat.le_of_ble_eq_true rfl) rfl (by decide) ⟨rfl, rfl⟩ rfl rfl rfl ?_
    refine Ev.iret dX4_blow_46 ?_
    exact ⟨rfl, rfl⟩
  · exact absurd h9 h31

set_option maxHeartbeats 4000000 in
set_option maxRecDepth 100000 in
theorem c_put_u1 {d : Nat} {h pg l s il is t k : Nat → Int32} {PF LF SF ILF ISF TF KF : Nat → Nat → Int32} {V N : Nat} (ok : LOK l LF V N) {x : Int32} (hx : ∀ w, w < N → x ≠ nI w) (y z : Int32) : Ev (d + 1) yX4_put cX4_put (some .int) 0 [some (.ref 0), some (.int x), some (.int y), some (.int z), none] [] (clsW h pg PF l LF s SF il ILF is ISF t TF k KF) (Is (some (.int (-101))) (clsW h pg PF l LF s SF il ILF is ISF t TF k KF)) := by
  refine Ev.aload_0 dX4_put_0 rfl ?_
  refine Ev.iload_1 dX4_put_1 rfl ?_
  refine k_X4_isWeight (c_isWeight_f ok hx) dX4_put_2 wl_X4_80 rfl (Nat.le_of_ble_eq_true rfl) ?_
  refine Ev.if_eq 16 dX4_put_5 (by decide) (fun hcst => ?_) (fun hcst => ?_)
  rotate_left
  · exact absurd hcst (by decide)
  refine Ev.bipush (v := -101) dX4_put_16 (by decide) ?_
  refine Ev.iret dX4_put_18 ?_
  exact ⟨rfl, rfl⟩

set_option maxHeartbeats 4000000 in
set_option maxRecDepth 100000 in
theorem c_put_u2 {d : Nat} {h pg l s il is t k : Nat → Int32} {PF LF SF ILF ISF TF KF : Nat → Nat → Int32} {V N : Nat} (ok : LOK l LF V N) {w : Nat} (hw : w < N) {y : Int32} (hy : ∀ w, w < V → y ≠ nI w) (z : Int32) : Ev (d + 1) yX4_put cX4_put (some .int) 0 [some (.ref 0), some (.int (nI w)), some (.int y), some (.int z), none] [] (clsW h pg PF l LF s SF il ILF is ISF t TF k KF) (Is (some (.int (-101))) (clsW h pg PF l LF s SF il ILF is ISF t TF k KF)) := by
  refine Ev.aload_0 dX4_put_0 rfl ?_
  refine Ev.iload_1 dX4_put_1 rfl ?_
  refine k_X4_isWeight (c_isWeight_t ok hw) dX4_put_2 wl_X4_80 rfl (Nat.le_of_ble_eq_true rfl) ?_
  refine Ev.if_eq 16 dX4_put_5 (by decide) (fun hcst => ?_) (fun hcst => ?_)
  · exact absurd hcst (by decide)
  refine Ev.aload_0 dX4_put_8 rfl ?_
  refine Ev.iload_2 dX4_put_9 rfl ?_
  refine k_X4_isVillage (c_isVillage_f ok hy) dX4_put_10 wl_X4_115 rfl (Nat.le_of_ble_eq_true rfl) ?_
  refine Ev.if_ne 19 dX4_put_13 (by decide) (fun hcst => ?_) (fun hcst => ?_)
  · exact absurd hcst (by decide)
  refine Ev.bipush (v := -101) dX4_put_16 (by decide) ?_
  refine Ev.iret dX4_put_18 ?_
  exact ⟨rfl, rfl⟩

set_option maxHeartbeats 4000000 in
set_option maxRecDepth 100000 in
theorem c_put_o {d : Nat} {h pg l s il is t k : Nat → Int32} {PF LF SF ILF ISF TF KF : Nat → Nat → Int32} {V N : Nat} (ok : LOK l LF V N) {w : Nat} (hw : w < N) {v : Nat} (hv : v < V) {z : Int32} (hz : z < 0 ∨ ¬ z ≤ 4) : Ev (d + 1) yX4_put cX4_put (some .int) 0 [some (.ref 0), some (.int (nI w)), some (.int (nI v)), some (.int z), none] [] (clsW h pg PF l LF s SF il ILF is ISF t TF k KF) (Is (some (.int (-102))) (clsW h pg PF l LF s SF il ILF is ISF t TF k KF)) := by
  refine Ev.aload_0 dX4_put_0 rfl ?_
  refine Ev.iload_1 dX4_put_1 rfl ?_
  refine k_X4_isWeight (c_isWeight_t ok hw) dX4_put_2 wl_X4_80 rfl (Nat.le_of_ble_eq_true rfl) ?_
  refine Ev.if_eq 16 dX4_put_5 (by decide) (fun hcst => ?_) (fun hcst => ?_)
  · exact absurd hcst (by decide)
  refine Ev.aload_0 dX4_put_8 rfl ?_
  refine Ev.iload_2 dX4_put_9 rfl ?_
  refine k_X4_isVillage (c_isVillage_t ok hv) dX4_put_10 wl_X4_115 rfl (Nat.le_of_ble_eq_true rfl) ?_
  refine Ev.if_ne 19 dX4_put_13 (by decide) (fun hcst => ?_) (fun hcst => ?_)
  rotate_left
  · exact absurd hcst (by decide)
  refine Ev.iload_3 dX4_put_19 rfl ?_
  refine Ev.if_lt 28 dX4_put_20 (by decide) (fun h20 => ?_) (fun h20 => ?_)
  · refine Ev.bipush (v := -102) dX4_put_28 (by decide) ?_
    refine Ev.iret dX4_put_30 ?_
    exact ⟨rfl, rfl⟩
  refine Ev.iload_3 dX4_put_23 rfl ?_
  refine Ev.iconst (v := 4) dX4_put_24 (by decide) ?_
  refine Ev.icmp_le 31 dX4_put_25 (by decide) (fun h25 => ?_) (fun h25 => ?_)
  · exact absurd hz (fun q => q.elim h20 (fun z => z h25))
  refine Ev.bipush (v := -102) dX4_put_28 (by decide) ?_
  refine Ev.iret dX4_put_30 ?_
  exact ⟨rfl, rfl⟩

set_option maxHeartbeats 4000000 in
set_option maxRecDepth 100000 in
theorem c_put_k {d : Nat} {h pg l s il is t k : Nat → Int32} {PF LF SF ILF ISF TF KF : Nat → Nat → Int32} {V N : Nat} (ok : LOK l LF V N) {w : Nat} (hw : w < N) {v : Nat} (hv : v < V) {z : Int32} (h0 : ¬ z < 0) (h4 : z ≤ 4) : Ev (d + 1) yX4_put cX4_put (some .int) 0 [some (.ref 0), some (.int (nI w)), some (.int (nI v)), some (.int z), none] [] (clsW h pg PF l LF s SF il ILF is ISF t TF k KF) (Is (some (.int (LF 5 w))) (clsW h pg PF l (mv LF w (nI v) z) s SF il ILF is ISF t TF k KF)) := by
  refine Ev.aload_0 dX4_put_0 rfl ?_
  refine Ev.iload_1 dX4_put_1 rfl ?_
  refine k_X4_isWeight (c_isWeight_t ok hw) dX4_put_2 wl_X4_80 rfl (Nat.le_of_ble_eq_true rfl) ?_
  refine Ev.if_eq 16 dX4_put_5 (by decide) (fun hcst => ?_) (fun hcst => ?_)
  · exact absurd hcst (by decide)
  refine Ev.aload_0 dX4_put_8 rfl ?_
  refine Ev.iload_2 dX4_put_9 rfl ?_
  refine k_X4_isVillage (c_isVillage_t ok hv) dX4_put_10 wl_X4_115 rfl (Nat.le_of_ble_eq_true rfl) ?_
  refine Ev.if_ne 19 dX4_put_13 (by decide) (fun hcst => ?_) (fun hcst => ?_)
  rotate_left
  · exact absurd hcst (by decide)
  refine Ev.iload_3 dX4_put_19 rfl ?_
  refine Ev.if_lt 28 dX4_put_20 (by decide) (fun h20 => ?_) (fun h20 => ?_)
  · exact absurd h20 h0
  refine Ev.iload_3 dX4_put_23 rfl ?_
  refine Ev.iconst (v := 4) dX4_put_24 (by decide) ?_
  refine Ev.icmp_le 31 dX4_put_25 (by decide) (fun h25 => ?_) (fun h25 => ?_)
  · refine Ev.aload_0 dX4_put_31 rfl ?_
    refine Ev.getf cf4 1 (by decide) wf_X4_19 dX4_put_32 rfl rfl ?_
    refine Ev.getf cf0 5 (by decide) wf_X4_91 dX4_put_35 rfl rfl ?_
    refine Ev.iload_1 dX4_put_38 rfl ?_
    refine Ev.aldn dX4_put_39 rfl (by have := ok.2.2.2.1; omega) (by decide) ?_
    refine Ev.ist4 dX4_put_40 rfl ?_
    refine Ev.aload_0 dX4_put_42 rfl ?_
    refine Ev.getf cf4 1 (by decide) wf_X4_19 dX4_put_43 rfl rfl ?_
    refine Ev.iload_1 dX4_put_46 rfl ?_
    refine Ev.iload_2 dX4_put_47 rfl ?_
    refine Ev.iload_3 dX4_put_48 rfl ?_
    refine ke_X0_moveTo (w2 := (clsW h pg PF l (mv LF w (nI v) z) s SF il ILF is ISF t TF k KF)) [3, 4, 5, 6, 7, 8, 9] (e_X0_moveTo (by have := ok.2.2.2.1; omega) _ _) dX4_put_49 wl_X4_153 rfl (Nat.le_of_ble_eq_true rfl) rfl (by decide) ⟨rfl, rfl⟩ rfl rfl rfl ?_
    refine Ev.iload dX4_put_52 rfl ?_
    refine Ev.iret dX4_put_54 ?_
    exact ⟨rfl, rfl⟩
  · exact absurd h4 h25

set_option maxHeartbeats 4000000 in
set_option maxRecDepth 100000 in
theorem c_lift_u {d : Nat} {h pg l s il is t k : Nat → Int32} {PF LF SF ILF ISF TF KF : Nat → Nat → Int32} {V N : Nat} (ok : LOK l LF V N) {x : Int32} (hx : ∀ w, w < N → x ≠ nI w)  : Ev (d + 1) yX4_lift cX4_lift (some .int) 0 [some (.ref 0), some (.int x), none] [] (clsW h pg PF l LF s SF il ILF is ISF t TF k KF) (Is (some (.int (-101))) (clsW h pg PF l LF s SF il ILF is ISF t TF k KF)) := by
  refine Ev.aload_0 dX4_lift_0 rfl ?_
  refine Ev.iload_1 dX4_lift_1 rfl ?_
  refine k_X4_isWeight (c_isWeight_f ok hx) dX4_lift_2 wl_X4_80 rfl (Nat.le_of_ble_eq_true rfl) ?_
  refine Ev.if_ne 11 dX4_lift_5 (by decide) (fun hcst => ?_) (fun hcst => ?_)
  · exact absurd hcst (by decide)
  refine Ev.bipush (v := -101) dX4_lift_8 (by decide) ?_
  refine Ev.iret dX4_lift_10 ?_
  exact ⟨rfl, rfl⟩

set_option maxHeartbeats 4000000 in
set_option maxRecDepth 100000 in
theorem c_lift_s {d : Nat} {h pg l s il is t k : Nat → Int32} {PF LF SF ILF ISF TF KF : Nat → Nat → Int32} {V N : Nat} (ok : LOK l LF V N) {w : Nat} (hw : w < N) (hh : LF 5 w = -1) : Ev (d + 1) yX4_lift cX4_lift (some .int) 0 [some (.ref 0), some (.int (nI w)), none] [] (clsW h pg PF l LF s SF il ILF is ISF t TF k KF) (Is (some (.int (-103))) (clsW h pg PF l LF s SF il ILF is ISF t TF k KF)) := by
  refine Ev.aload_0 dX4_lift_0 rfl ?_
  refine Ev.iload_1 dX4_lift_1 rfl ?_
  refine k_X4_isWeight (c_isWeight_t ok hw) dX4_lift_2 wl_X4_80 rfl (Nat.le_of_ble_eq_true rfl) ?_
  refine Ev.if_ne 11 dX4_lift_5 (by decide) (fun hcst => ?_) (fun hcst => ?_)
  rotate_left
  · exact absurd hcst (by decide)
  refine Ev.aload_0 dX4_lift_11 rfl ?_
  refine Ev.getf cf4 1 (by decide) wf_X4_19 dX4_lift_12 rfl rfl ?_
  refine Ev.getf cf0 5 (by decide) wf_X4_91 dX4_lift_15 rfl rfl ?_
  refine Ev.iload_1 dX4_lift_18 rfl ?_
  refine Ev.aldn dX4_lift_19 rfl (by have := ok.2.2.2.1; omega) (by decide) ?_
  refine Ev.ist2 dX4_lift_20 rfl ?_
  refine Ev.iload_2 dX4_lift_21 rfl ?_
  refine Ev.iconst (v := -1) dX4_lift_22 (by decide) ?_
  refine Ev.icmp_ne 29 dX4_lift_23 (by decide) (fun h23 => ?_) (fun h23 => ?_)
  · exact absurd hh h23
  refine Ev.bipush (v := -103) dX4_lift_26 (by decide) ?_
  refine Ev.iret dX4_lift_28 ?_
  exact ⟨rfl, rfl⟩

set_option maxHeartbeats 4000000 in
set_option maxRecDepth 100000 in
theorem c_lift_k {d : Nat} {h pg l s il is t k : Nat → Int32} {PF LF SF ILF ISF TF KF : Nat → Nat → Int32} {V N : Nat} (ok : LOK l LF V N) {w : Nat} (hw : w < N) (hh : ¬ LF 5 w = -1) : Ev (d + 1) yX4_lift cX4_lift (some .int) 0 [some (.ref 0), some (.int (nI w)), none] [] (clsW h pg PF l LF s SF il ILF is ISF t TF k KF) (Is (some (.int (LF 5 w))) (clsW h pg PF l (mv LF w (-1) (-1)) s SF il ILF is ISF t TF k KF)) := by
  refine Ev.aload_0 dX4_lift_0 rfl ?_
  refine Ev.iload_1 dX4_lift_1 rfl ?_
  refine k_X4_isWeight (c_isWeight_t ok hw) dX4_lift_2 wl_X4_80 rfl (Nat.le_of_ble_eq_true rfl) ?_
  refine Ev.if_ne 11 dX4_lift_5 (by decide) (fun hcst => ?_) (fun hcst => ?_)
  rotate_left
  · exact absurd hcst (by decide)
  refine Ev.aload_0 dX4_lift_11 rfl ?_
  refine Ev.getf cf4 1 (by decide) wf_X4_19 dX4_lift_12 rfl rfl ?_
  refine Ev.getf cf0 5 (by decide) wf_X4_91 dX4_lift_15 rfl rfl ?_
  refine Ev.iload_1 dX4_lift_18 rfl ?_
  refine Ev.aldn dX4_lift_19 rfl (by have := ok.2.2.2.1; omega) (by decide) ?_
  refine Ev.ist2 dX4_lift_20 rfl ?_
  refine Ev.iload_2 dX4_lift_21 rfl ?_
  refine Ev.iconst (v := -1) dX4_lift_22 (by decide) ?_
  refine Ev.icmp_ne 29 dX4_lift_23 (by decide) (fun h23 => ?_) (fun h23 => ?_)
  · refine Ev.aload_0 dX4_lift_29 rfl ?_
    refine Ev.getf cf4 1 (by decide) wf_X4_19 dX4_lift_30 rfl rfl ?_
    refine Ev.iload_1 dX4_lift_33 rfl ?_
    refine Ev.iconst (v := -1) dX4_lift_34 (by decide) ?_
    refine Ev.iconst (v := -1) dX4_lift_35 (by decide) ?_
    refine ke_X0_moveTo (w2 := (clsW h pg PF l (mv LF w (-1) (-1)) s SF il ILF is ISF t TF k KF)) [3, 4, 5, 6, 7, 8, 9] (e_X0_moveTo (by have := ok.2.2.2.1; omega) _ _) dX4_lift_36 wl_X4_153 rfl (Nat.le_of_ble_eq_true rfl) rfl (by decide) ⟨rfl, rfl⟩ rfl rfl rfl ?_
    refine Ev.iload_2 dX4_lift_39 rfl ?_
    refine Ev.iret dX4_lift_40 ?_
    exact ⟨rfl, rfl⟩
  · exact absurd h23 hh

set_option maxHeartbeats 4000000 in
set_option maxRecDepth 100000 in
theorem c_cut_u {d : Nat} {h pg l s il is t k : Nat → Int32} {PF LF SF ILF ISF TF KF : Nat → Nat → Int32} {V N : Nat} (ok : LOK l LF V N) {x : Int32} (hx : ∀ w, w < N → x ≠ nI w) (z : Int32) : Ev (d + 1) yX4_cut cX4_cut (some .int) 0 [some (.ref 0), some (.int x), some (.int z), none] [] (clsW h pg PF l LF s SF il ILF is ISF t TF k KF) (Is (some (.int (-101))) (clsW h pg PF l LF s SF il ILF is ISF t TF k KF)) := by
  refine Ev.aload_0 dX4_cut_0 rfl ?_
  refine Ev.iload_1 dX4_cut_1 rfl ?_
  refine k_X4_isWeight (c_isWeight_f ok hx) dX4_cut_2 wl_X4_80 rfl (Nat.le_of_ble_eq_true rfl) ?_
  refine Ev.if_ne 11 dX4_cut_5 (by decide) (fun hcst => ?_) (fun hcst => ?_)
  · exact absurd hcst (by decide)
  refine Ev.bipush (v := -101) dX4_cut_8 (by decide) ?_
  refine Ev.iret dX4_cut_10 ?_
  exact ⟨rfl, rfl⟩

set_option maxHeartbeats 4000000 in
set_option maxRecDepth 100000 in
theorem c_cut_o {d : Nat} {h pg l s il is t k : Nat → Int32} {PF LF SF ILF ISF TF KF : Nat → Nat → Int32} {V N : Nat} (ok : LOK l LF V N) {w : Nat} (hw : w < N) {z : Int32} (hz : z < 1 ∨ ¬ z ≤ 9) : Ev (d + 1) yX4_cut cX4_cut (some .int) 0 [some (.ref 0), some (.int (nI w)), some (.int z), none] [] (clsW h pg PF l LF s SF il ILF is ISF t TF k KF) (Is (some (.int (-102))) (clsW h pg PF l LF s SF il ILF is ISF t TF k KF)) := by
  refine Ev.aload_0 dX4_cut_0 rfl ?_
  refine Ev.iload_1 dX4_cut_1 rfl ?_
  refine k_X4_isWeight (c_isWeight_t ok hw) dX4_cut_2 wl_X4_80 rfl (Nat.le_of_ble_eq_true rfl) ?_
  refine Ev.if_ne 11 dX4_cut_5 (by decide) (fun hcst => ?_) (fun hcst => ?_)
  rotate_left
  · exact absurd hcst (by decide)
  refine Ev.iload_2 dX4_cut_11 rfl ?_
  refine Ev.iconst (v := 1) dX4_cut_12 (by decide) ?_
  refine Ev.icmp_lt 22 dX4_cut_13 (by decide) (fun h13 => ?_) (fun h13 => ?_)
  · refine Ev.bipush (v := -102) dX4_cut_22 (by decide) ?_
    refine Ev.iret dX4_cut_24 ?_
    exact ⟨rfl, rfl⟩
  refine Ev.iload_2 dX4_cut_16 rfl ?_
  refine Ev.bipush (v := 9) dX4_cut_17 (by decide) ?_
  refine Ev.icmp_le 25 dX4_cut_19 (by decide) (fun h19 => ?_) (fun h19 => ?_)
  · exact absurd hz (fun q => q.elim h13 (fun z => z h19))
  refine Ev.bipush (v := -102) dX4_cut_22 (by decide) ?_
  refine Ev.iret dX4_cut_24 ?_
  exact ⟨rfl, rfl⟩

set_option maxHeartbeats 4000000 in
set_option maxRecDepth 100000 in
theorem c_cut_k {d : Nat} {h pg l s il is t k : Nat → Int32} {PF LF SF ILF ISF TF KF : Nat → Nat → Int32} {V N : Nat} (ok : LOK l LF V N) {w : Nat} (hw : w < N) {z : Int32} (h1 : ¬ z < 1) (h9 : z ≤ 9) : Ev (d + 1) yX4_cut cX4_cut (some .int) 0 [some (.ref 0), some (.int (nI w)), some (.int z), none] [] (clsW h pg PF l LF s SF il ILF is ISF t TF k KF) (Is (some (.int (LF 4 w))) (clsW h pg PF l (up2 LF 4 w z) s SF il ILF is ISF t TF k KF)) := by
  refine Ev.aload_0 dX4_cut_0 rfl ?_
  refine Ev.iload_1 dX4_cut_1 rfl ?_
  refine k_X4_isWeight (c_isWeight_t ok hw) dX4_cut_2 wl_X4_80 rfl (Nat.le_of_ble_eq_true rfl) ?_
  refine Ev.if_ne 11 dX4_cut_5 (by decide) (fun hcst => ?_) (fun hcst => ?_)
  rotate_left
  · exact absurd hcst (by decide)
  refine Ev.iload_2 dX4_cut_11 rfl ?_
  refine Ev.iconst (v := 1) dX4_cut_12 (by decide) ?_
  refine Ev.icmp_lt 22 dX4_cut_13 (by decide) (fun h13 => ?_) (fun h13 => ?_)
  · exact absurd h13 h1
  refine Ev.iload_2 dX4_cut_16 rfl ?_
  refine Ev.bipush (v := 9) dX4_cut_17 (by decide) ?_
  refine Ev.icmp_le 25 dX4_cut_19 (by decide) (fun h19 => ?_) (fun h19 => ?_)
  · refine Ev.aload_0 dX4_cut_25 rfl ?_
    refine Ev.getf cf4 1 (by decide) wf_X4_19 dX4_cut_26 rfl rfl ?_
    refine Ev.getf cf0 4 (by decide) wf_X4_88 dX4_cut_29 rfl rfl ?_
    refine Ev.iload_1 dX4_cut_32 rfl ?_
    refine Ev.aldn dX4_cut_33 rfl (by have := ok.2.2.2.1; omega) (by decide) ?_
    refine Ev.ist3 dX4_cut_34 rfl ?_
    refine Ev.aload_0 dX4_cut_35 rfl ?_
    refine Ev.getf cf4 1 (by decide) wf_X4_19 dX4_cut_36 rfl rfl ?_
    refine Ev.getf cf0 4 (by decide) wf_X4_88 dX4_cut_39 rfl rfl ?_
    refine Ev.iload_1 dX4_cut_42 rfl ?_
    refine Ev.iload_2 dX4_cut_43 rfl ?_
    refine aw_clsW_6 dX4_cut_44 (by have := ok.2.2.2.1; omega) ?_
    refine Ev.iload_3 dX4_cut_45 rfl ?_
    refine Ev.iret dX4_cut_46 ?_
    exact ⟨rfl, rfl⟩
  · exact absurd h9 h19

set_option maxHeartbeats 4000000 in
set_option maxRecDepth 100000 in
theorem c_build_u {d : Nat} {h pg l s il is t k : Nat → Int32} {PF LF SF ILF ISF TF KF : Nat → Nat → Int32} {V N : Nat} (ok : LOK l LF V N) {y : Int32} (hy : ∀ w, w < V → y ≠ nI w) (z : Int32) : Ev (d + 1) yX4_build cX4_build (some .int) 0 [some (.ref 0), some (.int y), some (.int z), none] [] (clsW h pg PF l LF s SF il ILF is ISF t TF k KF) (Is (some (.int (-101))) (clsW h pg PF l LF s SF il ILF is ISF t TF k KF)) := by
  refine Ev.aload_0 dX4_build_0 rfl ?_
  refine Ev.iload_1 dX4_build_1 rfl ?_
  refine k_X4_isVillage (c_isVillage_f ok hy) dX4_build_2 wl_X4_115 rfl (Nat.le_of_ble_eq_true rfl) ?_
  refine Ev.if_ne 11 dX4_build_5 (by decide) (fun hcst => ?_) (fun hcst => ?_)
  · exact absurd hcst (by decide)
  refine Ev.bipush (v := -101) dX4_build_8 (by decide) ?_
  refine Ev.iret dX4_build_10 ?_
  exact ⟨rfl, rfl⟩

set_option maxHeartbeats 4000000 in
set_option maxRecDepth 100000 in
theorem c_build_o {d : Nat} {h pg l s il is t k : Nat → Int32} {PF LF SF ILF ISF TF KF : Nat → Nat → Int32} {V N : Nat} (ok : LOK l LF V N) {v : Nat} (hv : v < V) {z : Int32} (hz : z < 0 ∨ ¬ z ≤ 9) : Ev (d + 1) yX4_build cX4_build (some .int) 0 [some (.ref 0), some (.int (nI v)), some (.int z), none] [] (clsW h pg PF l LF s SF il ILF is ISF t TF k KF) (Is (some (.int (-102))) (clsW h pg PF l LF s SF il ILF is ISF t TF k KF)) := by
  refine Ev.aload_0 dX4_build_0 rfl ?_
  refine Ev.iload_1 dX4_build_1 rfl ?_
  refine k_X4_isVillage (c_isVillage_t ok hv) dX4_build_2 wl_X4_115 rfl (Nat.le_of_ble_eq_true rfl) ?_
  refine Ev.if_ne 11 dX4_build_5 (by decide) (fun hcst => ?_) (fun hcst => ?_)
  rotate_left
  · exact absurd hcst (by decide)
  refine Ev.iload_2 dX4_build_11 rfl ?_
  refine Ev.if_lt 21 dX4_build_12 (by decide) (fun h12 => ?_) (fun h12 => ?_)
  · refine Ev.bipush (v := -102) dX4_build_21 (by decide) ?_
    refine Ev.iret dX4_build_23 ?_
    exact ⟨rfl, rfl⟩
  refine Ev.iload_2 dX4_build_15 rfl ?_
  refine Ev.bipush (v := 9) dX4_build_16 (by decide) ?_
  refine Ev.icmp_le 24 dX4_build_18 (by decide) (fun h18 => ?_) (fun h18 => ?_)
  · exact absurd hz (fun q => q.elim h12 (fun z => z h18))
  refine Ev.bipush (v := -102) dX4_build_21 (by decide) ?_
  refine Ev.iret dX4_build_23 ?_
  exact ⟨rfl, rfl⟩

set_option maxHeartbeats 4000000 in
set_option maxRecDepth 100000 in
theorem c_build_k {d : Nat} {h pg l s il is t k : Nat → Int32} {PF LF SF ILF ISF TF KF : Nat → Nat → Int32} {V N : Nat} (ok : LOK l LF V N) {v : Nat} (hv : v < V) {z : Int32} (h0 : ¬ z < 0) (h9 : z ≤ 9) : Ev (d + 1) yX4_build cX4_build (some .int) 0 [some (.ref 0), some (.int (nI v)), some (.int z), none] [] (clsW h pg PF l LF s SF il ILF is ISF t TF k KF) (Is (some (.int (LF 2 v))) (clsW h pg PF l (up2 LF 2 v z) s SF il ILF is ISF t TF k KF)) := by
  refine Ev.aload_0 dX4_build_0 rfl ?_
  refine Ev.iload_1 dX4_build_1 rfl ?_
  refine k_X4_isVillage (c_isVillage_t ok hv) dX4_build_2 wl_X4_115 rfl (Nat.le_of_ble_eq_true rfl) ?_
  refine Ev.if_ne 11 dX4_build_5 (by decide) (fun hcst => ?_) (fun hcst => ?_)
  rotate_left
  · exact absurd hcst (by decide)
  refine Ev.iload_2 dX4_build_11 rfl ?_
  refine Ev.if_lt 21 dX4_build_12 (by decide) (fun h12 => ?_) (fun h12 => ?_)
  · exact absurd h12 h0
  refine Ev.iload_2 dX4_build_15 rfl ?_
  refine Ev.bipush (v := 9) dX4_build_16 (by decide) ?_
  refine Ev.icmp_le 24 dX4_build_18 (by decide) (fun h18 => ?_) (fun h18 => ?_)
  · refine Ev.aload_0 dX4_build_24 rfl ?_
    refine Ev.getf cf4 1 (by decide) wf_X4_19 dX4_build_25 rfl rfl ?_
    refine Ev.getf cf0 2 (by decide) wf_X4_118 dX4_build_28 rfl rfl ?_
    refine Ev.iload_1 dX4_build_31 rfl ?_
    refine Ev.aldn dX4_build_32 rfl (by have := ok.2.2.1; omega) (by decide) ?_
    refine Ev.ist3 dX4_build_33 rfl ?_
    refine Ev.aload_0 dX4_build_34 rfl ?_
    refine Ev.getf cf4 1 (by decide) wf_X4_19 dX4_build_35 rfl rfl ?_
    refine Ev.getf cf0 2 (by decide) wf_X4_118 dX4_build_38 rfl rfl ?_
    refine Ev.iload_1 dX4_build_41 rfl ?_
    refine Ev.iload_2 dX4_build_42 rfl ?_
    refine aw_clsW_4 dX4_build_43 (by have := ok.2.2.1; omega) ?_
    refine Ev.iload_3 dX4_build_44 rfl ?_
    refine Ev.iret dX4_build_45 ?_
    exact ⟨rfl, rfl⟩
  · exact absurd h9 h18

set_option maxHeartbeats 4000000 in
set_option maxRecDepth 100000 in
theorem c_where_u1 {d : Nat} {h pg l s il is t k : Nat → Int32} {PF LF SF ILF ISF TF KF : Nat → Nat → Int32} {V N : Nat} (ok : LOK l LF V N) {x : Int32} (hx : ∀ w, w < N → x ≠ nI w) (y z : Int32) : Ev (d + 1) yX4_where cX4_where (some .int) 0 [some (.ref 0), some (.int x), some (.int y), some (.int z), none] [] (clsW h pg PF l LF s SF il ILF is ISF t TF k KF) (Is (some (.int (-101))) (clsW h pg PF l LF s SF il ILF is ISF t TF k KF)) := by
  refine Ev.aload_0 dX4_where_0 rfl ?_
  refine Ev.iload_1 dX4_where_1 rfl ?_
  refine k_X4_isWeight (c_isWeight_f ok hx) dX4_where_2 wl_X4_80 rfl (Nat.le_of_ble_eq_true rfl) ?_
  refine Ev.if_eq 16 dX4_where_5 (by decide) (fun hcst => ?_) (fun hcst => ?_)
  rotate_left
  · exact absurd hcst (by decide)
  refine Ev.bipush (v := -101) dX4_where_16 (by decide) ?_
  refine Ev.iret dX4_where_18 ?_
  exact ⟨rfl, rfl⟩

set_option maxHeartbeats 4000000 in
set_option maxRecDepth 100000 in
theorem c_where_u2 {d : Nat} {h pg l s il is t k : Nat → Int32} {PF LF SF ILF ISF TF KF : Nat → Nat → Int32} {V N : Nat} (ok : LOK l LF V N) {w : Nat} (hw : w < N) {y : Int32} (hy : ∀ w, w < V → y ≠ nI w) (z : Int32) : Ev (d + 1) yX4_where cX4_where (some .int) 0 [some (.ref 0), some (.int (nI w)), some (.int y), some (.int z), none] [] (clsW h pg PF l LF s SF il ILF is ISF t TF k KF) (Is (some (.int (-101))) (clsW h pg PF l LF s SF il ILF is ISF t TF k KF)) := by
  refine Ev.aload_0 dX4_where_0 rfl ?_
  refine Ev.iload_1 dX4_where_1 rfl ?_
  refine k_X4_isWeight (c_isWeight_t ok hw) dX4_where_2 wl_X4_80 rfl (Nat.le_of_ble_eq_true rfl) ?_
  refine Ev.if_eq 16 dX4_where_5 (by decide) (fun hcst => ?_) (fun hcst => ?_)
  · exact absurd hcst (by decide)
  refine Ev.aload_0 dX4_where_8 rfl ?_
  refine Ev.iload_2 dX4_where_9 rfl ?_
  refine k_X4_isVillage (c_isVillage_f ok hy) dX4_where_10 wl_X4_115 rfl (Nat.le_of_ble_eq_true rfl) ?_
  refine Ev.if_ne 19 dX4_where_13 (by decide) (fun hcst => ?_) (fun hcst => ?_)
  · exact absurd hcst (by decide)
  refine Ev.bipush (v := -101) dX4_where_16 (by decide) ?_
  refine Ev.iret dX4_where_18 ?_
  exact ⟨rfl, rfl⟩

set_option maxHeartbeats 4000000 in
set_option maxRecDepth 100000 in
theorem c_where_o {d : Nat} {h pg l s il is t k : Nat → Int32} {PF LF SF ILF ISF TF KF : Nat → Nat → Int32} {V N : Nat} (ok : LOK l LF V N) {w : Nat} (hw : w < N) {v : Nat} (hv : v < V) {z : Int32} (hz : z < 0 ∨ ¬ z ≤ 1) : Ev (d + 1) yX4_where cX4_where (some .int) 0 [some (.ref 0), some (.int (nI w)), some (.int (nI v)), some (.int z), none] [] (clsW h pg PF l LF s SF il ILF is ISF t TF k KF) (Is (some (.int (-102))) (clsW h pg PF l LF s SF il ILF is ISF t TF k KF)) := by
  refine Ev.aload_0 dX4_where_0 rfl ?_
  refine Ev.iload_1 dX4_where_1 rfl ?_
  refine k_X4_isWeight (c_isWeight_t ok hw) dX4_where_2 wl_X4_80 rfl (Nat.le_of_ble_eq_true rfl) ?_
  refine Ev.if_eq 16 dX4_where_5 (by decide) (fun hcst => ?_) (fun hcst => ?_)
  · exact absurd hcst (by decide)
  refine Ev.aload_0 dX4_where_8 rfl ?_
  refine Ev.iload_2 dX4_where_9 rfl ?_
  refine k_X4_isVillage (c_isVillage_t ok hv) dX4_where_10 wl_X4_115 rfl (Nat.le_of_ble_eq_true rfl) ?_
  refine Ev.if_ne 19 dX4_where_13 (by decide) (fun hcst => ?_) (fun hcst => ?_)
  rotate_left
  · exact absurd hcst (by decide)
  refine Ev.iload_3 dX4_where_19 rfl ?_
  refine Ev.if_lt 28 dX4_where_20 (by decide) (fun h20 => ?_) (fun h20 => ?_)
  · refine Ev.bipush (v := -102) dX4_where_28 (by decide) ?_
    refine Ev.iret dX4_where_30 ?_
    exact ⟨rfl, rfl⟩
  refine Ev.iload_3 dX4_where_23 rfl ?_
  refine Ev.iconst (v := 1) dX4_where_24 (by decide) ?_
  refine Ev.icmp_le 31 dX4_where_25 (by decide) (fun h25 => ?_) (fun h25 => ?_)
  · exact absurd hz (fun q => q.elim h20 (fun z => z h25))
  refine Ev.bipush (v := -102) dX4_where_28 (by decide) ?_
  refine Ev.iret dX4_where_30 ?_
  exact ⟨rfl, rfl⟩

set_option maxHeartbeats 4000000 in
set_option maxRecDepth 100000 in
theorem c_where_0 {d : Nat} {h pg l s il is t k : Nat → Int32} {PF LF SF ILF ISF TF KF : Nat → Nat → Int32} {V N : Nat} (ok : LOK l LF V N) {w : Nat} (hw : w < N) {v : Nat} (hv : v < V)  : Ev (d + 5) yX4_where cX4_where (some .int) 0 [some (.ref 0), some (.int (nI w)), some (.int (nI v)), some (.int 0), none] [] (clsW h pg PF l LF s SF il ILF is ISF t TF k KF) (Is (some (.int (bp (vC LF) N w v))) (clsW h pg PF l LF s SF il ILF is ISF t TF k KF)) := by
  refine Ev.aload_0 dX4_where_0 rfl ?_
  refine Ev.iload_1 dX4_where_1 rfl ?_
  refine k_X4_isWeight (c_isWeight_t ok hw) dX4_where_2 wl_X4_80 rfl (Nat.le_of_ble_eq_true rfl) ?_
  refine Ev.if_eq 16 dX4_where_5 (by decide) (fun hcst => ?_) (fun hcst => ?_)
  · exact absurd hcst (by decide)
  refine Ev.aload_0 dX4_where_8 rfl ?_
  refine Ev.iload_2 dX4_where_9 rfl ?_
  refine k_X4_isVillage (c_isVillage_t ok hv) dX4_where_10 wl_X4_115 rfl (Nat.le_of_ble_eq_true rfl) ?_
  refine Ev.if_ne 19 dX4_where_13 (by decide) (fun hcst => ?_) (fun hcst => ?_)
  rotate_left
  · exact absurd hcst (by decide)
  refine Ev.iload_3 dX4_where_19 rfl ?_
  refine Ev.if_lt 28 dX4_where_20 (by decide) (fun h20 => ?_) (fun h20 => ?_)
  · exact absurd h20 (by decide)
  refine Ev.iload_3 dX4_where_23 rfl ?_
  refine Ev.iconst (v := 1) dX4_where_24 (by decide) ?_
  refine Ev.icmp_le 31 dX4_where_25 (by decide) (fun h25 => ?_) (fun h25 => ?_)
  · refine Ev.aload_0 dX4_where_31 rfl ?_
    refine Ev.getf cf4 1 (by decide) wf_X4_19 dX4_where_32 rfl rfl ?_
    refine Ev.iload_1 dX4_where_35 rfl ?_
    refine Ev.iload_2 dX4_where_36 rfl ?_
    refine kp_X0_bestPlace [3, 4, 5, 6, 7, 8, 9] (e_X0_bestPlace ok hw hv) dX4_where_37 wl_X4_157 rfl (Nat.le_of_ble_eq_true rfl) rfl (by decide) ⟨rfl, rfl⟩ rfl ?_
    refine Ev.ist4 dX4_where_40 rfl ?_
    refine Ev.iload_3 dX4_where_42 rfl ?_
    refine Ev.if_ne 51 dX4_where_43 (by decide) (fun h43 => ?_) (fun h43 => ?_)
    · exact absurd rfl h43
    refine Ev.iload dX4_where_46 rfl ?_
    refine Ev.goto 62 dX4_where_48 (by decide) ?_
    refine Ev.iret dX4_where_62 ?_
    exact ⟨rfl, rfl⟩
  · exact absurd (by decide) h25

set_option maxHeartbeats 4000000 in
set_option maxRecDepth 100000 in
theorem c_where_1 {d : Nat} {h pg l s il is t k : Nat → Int32} {PF LF SF ILF ISF TF KF : Nat → Nat → Int32} {V N : Nat} (ok : LOK l LF V N) {w : Nat} (hw : w < N) {v : Nat} (hv : v < V)  : Ev (d + 5) yX4_where cX4_where (some .int) 0 [some (.ref 0), some (.int (nI w)), some (.int (nI v)), some (.int 1), none] [] (clsW h pg PF l LF s SF il ILF is ISF t TF k KF) (Is (some (.int (lip (vC LF) N w v (bp (vC LF) N w v)))) (clsW h pg PF l LF s SF il ILF is ISF t TF k KF)) := by
  refine Ev.aload_0 dX4_where_0 rfl ?_
  refine Ev.iload_1 dX4_where_1 rfl ?_
  refine k_X4_isWeight (c_isWeight_t ok hw) dX4_where_2 wl_X4_80 rfl (Nat.le_of_ble_eq_true rfl) ?_
  refine Ev.if_eq 16 dX4_where_5 (by decide) (fun hcst => ?_) (fun hcst => ?_)
  · exact absurd hcst (by decide)
  refine Ev.aload_0 dX4_where_8 rfl ?_
  refine Ev.iload_2 dX4_where_9 rfl ?_
  refine k_X4_isVillage (c_isVillage_t ok hv) dX4_where_10 wl_X4_115 rfl (Nat.le_of_ble_eq_true rfl) ?_
  refine Ev.if_ne 19 dX4_where_13 (by decide) (fun hcst => ?_) (fun hcst => ?_)
  rotate_left
  · exact absurd hcst (by decide)
  refine Ev.iload_3 dX4_where_19 rfl ?_
  refine Ev.if_lt 28 dX4_where_20 (by decide) (fun h20 => ?_) (fun h20 => ?_)
  · exact absurd h20 (by decide)
  refine Ev.iload_3 dX4_where_23 rfl ?_
  refine Ev.iconst (v := 1) dX4_where_24 (by decide) ?_
  refine Ev.icmp_le 31 dX4_where_25 (by decide) (fun h25 => ?_) (fun h25 => ?_)
  · refine Ev.aload_0 dX4_where_31 rfl ?_
    refine Ev.getf cf4 1 (by decide) wf_X4_19 dX4_where_32 rfl rfl ?_
    refine Ev.iload_1 dX4_where_35 rfl ?_
    refine Ev.iload_2 dX4_where_36 rfl ?_
    refine kp_X0_bestPlace [3, 4, 5, 6, 7, 8, 9] (e_X0_bestPlace ok hw hv) dX4_where_37 wl_X4_157 rfl (Nat.le_of_ble_eq_true rfl) rfl (by decide) ⟨rfl, rfl⟩ rfl ?_
    refine Ev.ist4 dX4_where_40 rfl ?_
    refine Ev.iload_3 dX4_where_42 rfl ?_
    refine Ev.if_ne 51 dX4_where_43 (by decide) (fun h43 => ?_) (fun h43 => ?_)
    · refine Ev.aload_0 dX4_where_51 rfl ?_
      refine Ev.getf cf4 1 (by decide) wf_X4_19 dX4_where_52 rfl rfl ?_
      refine Ev.iload_1 dX4_where_55 rfl ?_
      refine Ev.iload_2 dX4_where_56 rfl ?_
      refine Ev.iload dX4_where_57 rfl ?_
      refine kp_X0_leastIfPut [3, 4, 5, 6, 7, 8, 9] (e_X0_leastIfPut ok hw hv _) dX4_where_59 wl_X4_160 rfl (Nat.le_of_ble_eq_true rfl) rfl (by decide) ⟨rfl, rfl⟩ rfl ?_
      refine Ev.iret dX4_where_62 ?_
      exact ⟨rfl, rfl⟩
    · exact absurd h43 (by decide)
  · exact absurd (by decide) h25

set_option maxHeartbeats 4000000 in
set_option maxRecDepth 100000 in
theorem c_mend_s {d : Nat} {h pg l s il is t k : Nat → Int32} {PF LF SF ILF ISF TF KF : Nat → Nat → Int32} {N : Nat} (ok : LOK l LF 0 N)  : Ev (d + 1) yX4_mend cX4_mend (some .int) 0 [some (.ref 0)] [] (clsW h pg PF l LF s SF il ILF is ISF t TF k KF) (Is (some (.int (-103))) (clsW h pg PF l LF s SF il ILF is ISF t TF k KF)) := by
  refine Ev.aload_0 dX4_mend_0 rfl ?_
  refine k_X4_hasTable (c_hasTable_f ok) dX4_mend_1 wl_X4_143 rfl (Nat.le_of_ble_eq_true rfl) ?_
  refine Ev.if_eq 17 dX4_mend_4 (by decide) (fun hcst => ?_) (fun hcst => ?_)
  rotate_left
  · exact absurd hcst (by decide)
  refine Ev.bipush (v := -103) dX4_mend_17 (by decide) ?_
  refine Ev.iret dX4_mend_19 ?_
  exact ⟨rfl, rfl⟩

set_option maxHeartbeats 4000000 in
set_option maxRecDepth 100000 in
theorem c_mend_k {d : Nat} {h pg l s il is t k : Nat → Int32} {PF LF SF ILF ISF TF KF : Nat → Nat → Int32} {V N : Nat} (ok : LOK l LF V N) (hV : 0 < V)  : Ev (d + 5) yX4_mend cX4_mend (some .int) 0 [some (.ref 0)] [] (clsW h pg PF l LF s SF il ILF is ISF t TF k KF) (Is (some (.int (bm (vC LF) V N))) (clsW h pg PF l LF s SF il ILF is ISF t TF k KF)) := by
  refine Ev.aload_0 dX4_mend_0 rfl ?_
  refine k_X4_hasTable (c_hasTable_t ok hV) dX4_mend_1 wl_X4_143 rfl (Nat.le_of_ble_eq_true rfl) ?_
  refine Ev.if_eq 17 dX4_mend_4 (by decide) (fun hcst => ?_) (fun hcst => ?_)
  · exact absurd hcst (by decide)
  refine Ev.aload_0 dX4_mend_7 rfl ?_
  refine Ev.getf cf4 1 (by decide) wf_X4_19 dX4_mend_8 rfl rfl ?_
  refine kp_X0_bestToMend [3, 4, 5, 6, 7, 8, 9] (e_X0_bestToMend ok) dX4_mend_11 wl_X4_179 rfl (Nat.le_of_ble_eq_true rfl) rfl (by decide) ⟨rfl, rfl⟩ rfl ?_
  refine Ev.goto 19 dX4_mend_14 (by decide) ?_
  refine Ev.iret dX4_mend_19 ?_
  exact ⟨rfl, rfl⟩

set_option maxHeartbeats 4000000 in
set_option maxRecDepth 100000 in
theorem c_see_u {d : Nat} {h pg l s il is t k : Nat → Int32} {PF LF SF ILF ISF TF KF : Nat → Nat → Int32} {V N : Nat} (ok : LOK l LF V N) {x : Int32} (hx : ∀ w, w < N → x ≠ nI w) (p q z : Int32) : Ev (d + 1) yX4_see cX4_see (some .int) 0 [some (.ref 0), some (.int x), some (.int p), some (.int q), some (.int z)] [] (clsW h pg PF l LF s SF il ILF is ISF t TF k KF) (Is (some (.int (-101))) (clsW h pg PF l LF s SF il ILF is ISF t TF k KF)) := by
  refine Ev.aload_0 dX4_see_0 rfl ?_
  refine Ev.iload_1 dX4_see_1 rfl ?_
  refine k_X4_isWeight (c_isWeight_f ok hx) dX4_see_2 wl_X4_80 rfl (Nat.le_of_ble_eq_true rfl) ?_
  refine Ev.if_ne 11 dX4_see_5 (by decide) (fun hcst => ?_) (fun hcst => ?_)
  · exact absurd hcst (by decide)
  refine Ev.bipush (v := -101) dX4_see_8 (by decide) ?_
  refine Ev.iret dX4_see_10 ?_
  exact ⟨rfl, rfl⟩

set_option maxHeartbeats 4000000 in
set_option maxRecDepth 100000 in
theorem c_see_o {d : Nat} {h pg l s il is t k : Nat → Int32} {PF LF SF ILF ISF TF KF : Nat → Nat → Int32} {V N : Nat} (ok : LOK l LF V N) {w : Nat} (hw : w < N) {p q : Int32} (hpq : ∀ a b, a < 2 → b < 100 → ¬ (p = nI a ∧ q = nI b)) (z : Int32) : Ev (d + 1) yX4_see cX4_see (some .int) 0 [some (.ref 0), some (.int (nI w)), some (.int p), some (.int q), some (.int z)] [] (clsW h pg PF l LF s SF il ILF is ISF t TF k KF) (Is (some (.int (-102))) (clsW h pg PF l LF s SF il ILF is ISF t TF k KF)) := by
  refine Ev.aload_0 dX4_see_0 rfl ?_
  refine Ev.iload_1 dX4_see_1 rfl ?_
  refine k_X4_isWeight (c_isWeight_t ok hw) dX4_see_2 wl_X4_80 rfl (Nat.le_of_ble_eq_true rfl) ?_
  refine Ev.if_ne 11 dX4_see_5 (by decide) (fun hcst => ?_) (fun hcst => ?_)
  rotate_left
  · exact absurd hcst (by decide)
  refine Ev.iload_2 dX4_see_11 rfl ?_
  refine Ev.iload_3 dX4_see_12 rfl ?_
  refine k_X4_isWind (c_isWind_f hpq) dX4_see_13 wl_X4_137 (Nat.le_of_ble_eq_true rfl) ?_
  refine Ev.if_ne 22 dX4_see_16 (by decide) (fun hcst => ?_) (fun hcst => ?_)
  · exact absurd hcst (by decide)
  refine Ev.bipush (v := -102) dX4_see_19 (by decide) ?_
  refine Ev.iret dX4_see_21 ?_
  exact ⟨rfl, rfl⟩

set_option maxHeartbeats 4000000 in
set_option maxRecDepth 100000 in
theorem c_see_f {d : Nat} {h pg l s il is t k : Nat → Int32} {PF LF SF ILF ISF TF KF : Nat → Nat → Int32} {V N : Nat} (ok : LOK l LF V N) {w : Nat} (hw : w < N) {a b : Nat} (ha : a < 2) (hb : b < 100) (hK : s 0 = nI 8) (z : Int32) : Ev (d + 1) yX4_see cX4_see (some .int) 0 [some (.ref 0), some (.int (nI w)), some (.int (nI a)), some (.int (nI b)), some (.int z)] [] (clsW h pg PF l LF s SF il ILF is ISF t TF k KF) (Is (some (.int (-104))) (clsW h pg PF l LF s SF il ILF is ISF t TF k KF)) := by
  refine Ev.aload_0 dX4_see_0 rfl ?_
  refine Ev.iload_1 dX4_see_1 rfl ?_
  refine k_X4_isWeight (c_isWeight_t ok hw) dX4_see_2 wl_X4_80 rfl (Nat.le_of_ble_eq_true rfl) ?_
  refine Ev.if_ne 11 dX4_see_5 (by decide) (fun hcst => ?_) (fun hcst => ?_)
  rotate_left
  · exact absurd hcst (by decide)
  refine Ev.iload_2 dX4_see_11 rfl ?_
  refine Ev.iload_3 dX4_see_12 rfl ?_
  refine k_X4_isWind (c_isWind_t ha hb) dX4_see_13 wl_X4_137 (Nat.le_of_ble_eq_true rfl) ?_
  refine Ev.if_ne 22 dX4_see_16 (by decide) (fun hcst => ?_) (fun hcst => ?_)
  rotate_left
  · exact absurd hcst (by decide)
  refine Ev.aload_0 dX4_see_22 rfl ?_
  refine Ev.getf cf4 2 (by decide) wf_X4_26 dX4_see_23 rfl rfl ?_
  refine Ev.getf cf3 0 (by decide) wf_X4_76 dX4_see_26 rfl rfl ?_
  refine Ev.bipush (v := 8) dX4_see_29 (by decide) ?_
  refine Ev.icmp_lt 37 dX4_see_31 (by decide) (fun h31 => ?_) (fun h31 => ?_)
  · exact absurd h31 (by rw [hK]; decide)
  refine Ev.bipush (v := -104) dX4_see_34 (by decide) ?_
  refine Ev.iret dX4_see_36 ?_
  exact ⟨rfl, rfl⟩

set_option maxHeartbeats 4000000 in
set_option maxRecDepth 100000 in
theorem c_see_k {d : Nat} {h pg l s il is t k : Nat → Int32} {PF LF SF ILF ISF TF KF : Nat → Nat → Int32} {V N : Nat} (ok : LOK l LF V N) {w : Nat} (hw : w < N) {a b : Nat} (ha : a < 2) (hb : b < 100) {K : Nat} (hK : s 0 = nI K) (h8 : K < 8) (z : Int32) : Ev (d + 1) yX4_see cX4_see (some .int) 0 [some (.ref 0), some (.int (nI w)), some (.int (nI a)), some (.int (nI b)), some (.int z)] [] (clsW h pg PF l LF s SF il ILF is ISF t TF k KF) (Is (some (.int (nI (K + 1)))) (clsW h pg PF l LF (upd s 0 (nI (K + 1))) (up2 (up2 (up2 (up2 SF 1 K (nI w)) 2 K (nI a)) 3 K (nI b)) 4 K (vp_nar .boolean z)) il ILF is ISF t TF k KF)) := by
  refine Ev.aload_0 dX4_see_0 rfl ?_
  refine Ev.iload_1 dX4_see_1 rfl ?_
  refine k_X4_isWeight (c_isWeight_t ok hw) dX4_see_2 wl_X4_80 rfl (Nat.le_of_ble_eq_true rfl) ?_
  refine Ev.if_ne 11 dX4_see_5 (by decide) (fun hcst => ?_) (fun hcst => ?_)
  rotate_left
  · exact absurd hcst (by decide)
  refine Ev.iload_2 dX4_see_11 rfl ?_
  refine Ev.iload_3 dX4_see_12 rfl ?_
  refine k_X4_isWind (c_isWind_t ha hb) dX4_see_13 wl_X4_137 (Nat.le_of_ble_eq_true rfl) ?_
  refine Ev.if_ne 22 dX4_see_16 (by decide) (fun hcst => ?_) (fun hcst => ?_)
  rotate_left
  · exact absurd hcst (by decide)
  refine Ev.aload_0 dX4_see_22 rfl ?_
  refine Ev.getf cf4 2 (by decide) wf_X4_26 dX4_see_23 rfl rfl ?_
  refine Ev.getf cf3 0 (by decide) wf_X4_76 dX4_see_26 rfl rfl ?_
  refine Ev.bipush (v := 8) dX4_see_29 (by decide) ?_
  refine Ev.icmp_lt 37 dX4_see_31 (by decide) (fun h31 => ?_) (fun h31 => ?_)
  · refine Ev.aload_0 dX4_see_37 rfl ?_
    refine Ev.getf cf4 2 (by decide) wf_X4_26 dX4_see_38 rfl rfl ?_
    refine Ev.iload_1 dX4_see_41 rfl ?_
    refine Ev.iload_2 dX4_see_42 rfl ?_
    refine Ev.iload_3 dX4_see_43 rfl ?_
    refine Ev.iload dX4_see_44 rfl ?_
    refine ke_X3_append (w2 := (clsW h pg PF l LF (upd s 0 (nI (K + 1))) (up2 (up2 (up2 (up2 SF 1 K (nI w)) 2 K (nI a)) 3 K (nI b)) 4 K (vp_nar .boolean z)) il ILF is ISF t TF k KF)) [10, 11, 12, 13, 14, 15] (e_X3_append hK h8 _ _ _ _) dX4_see_46 wl_X4_188 rfl (Nat.le_of_ble_eq_true rfl) rfl (by decide) ⟨rfl, rfl⟩ rfl rfl rfl ?_
    refine Ev.aload_0 dX4_see_49 rfl ?_
    refine Ev.getf cf4 2 (by decide) wf_X4_26 dX4_see_50 rfl rfl ?_
    refine Ev.getf cf3 0 (by decide) wf_X4_76 dX4_see_53 rfl rfl ?_
    refine Ev.iret dX4_see_56 ?_
    exact ⟨rfl, rfl⟩
  · exact absurd (by rw [hK]; exact nI_lt (b := 8) h8 (by omega)) h31

set_option maxHeartbeats 4000000 in
set_option maxRecDepth 100000 in
theorem c_forget {d : Nat} {h pg l s il is t k : Nat → Int32} {PF LF SF ILF ISF TF KF : Nat → Nat → Int32}  : Ev d yX4_forget cX4_forget (some .int) 0 [some (.ref 0), none] [] (clsW h pg PF l LF s SF il ILF is ISF t TF k KF) (Is (some (.int (s 0))) (clsW h pg PF l LF (upd s 0 0) SF il ILF is ISF t TF k KF)) := by
  refine Ev.aload_0 dX4_forget_0 rfl ?_
  refine Ev.getf cf4 2 (by decide) wf_X4_26 dX4_forget_1 rfl rfl ?_
  refine Ev.getf cf3 0 (by decide) wf_X4_76 dX4_forget_4 rfl rfl ?_
  refine Ev.ist1 dX4_forget_7 rfl ?_
  refine Ev.aload_0 dX4_forget_8 rfl ?_
  refine Ev.getf cf4 2 (by decide) wf_X4_26 dX4_forget_9 rfl rfl ?_
  refine Ev.iconst (v := 0) dX4_forget_12 (by decide) ?_
  refine pw_clsW_10_0 dX4_forget_13 wf_X4_76 ?_
  refine Ev.iload_1 dX4_forget_16 rfl ?_
  refine Ev.iret dX4_forget_17 ?_
  exact ⟨rfl, rfl⟩

set_option maxHeartbeats 4000000 in
set_option maxRecDepth 100000 in
theorem c_image_s {d : Nat} {h pg l s il is t k : Nat → Int32} {PF LF SF ILF ISF TF KF : Nat → Nat → Int32} {N : Nat} (ok : LOK l LF 0 N)  : Ev (d + 1) yX4_image cX4_image (some .int) 0 [some (.ref 0)] [] (clsW h pg PF l LF s SF il ILF is ISF t TF k KF) (Is (some (.int (-103))) (clsW h pg PF l LF s SF il ILF is ISF t TF k KF)) := by
  refine Ev.aload_0 dX4_image_0 rfl ?_
  refine k_X4_hasTable (c_hasTable_f ok) dX4_image_1 wl_X4_143 rfl (Nat.le_of_ble_eq_true rfl) ?_
  refine Ev.if_ne 10 dX4_image_4 (by decide) (fun hcst => ?_) (fun hcst => ?_)
  · exact absurd hcst (by decide)
  refine Ev.bipush (v := -103) dX4_image_7 (by decide) ?_
  refine Ev.iret dX4_image_9 ?_
  exact ⟨rfl, rfl⟩

set_option maxHeartbeats 4000000 in
set_option maxRecDepth 100000 in
theorem c_image_k {d : Nat} {h pg l s il is t k : Nat → Int32} {PF LF SF ILF ISF TF KF : Nat → Nat → Int32} {V N : Nat} (ok : LOK l LF V N) (hV : 0 < V)  : Ev (d + 1) yX4_image cX4_image (some .int) 0 [some (.ref 0)] [] (clsW h pg PF l LF s SF il ILF is ISF t TF k KF) (Is (some (.int (l 8))) (clsW (upd h 7 1) pg PF l LF s SF (cpL il l) (cpW LF 5 0 (cpB LF 4 0 ILF)) (upd is 0 (s 0)) (cpS SF 8 0 ISF) t TF k KF)) := by
  refine Ev.aload_0 dX4_image_0 rfl ?_
  refine k_X4_hasTable (c_hasTable_t ok hV) dX4_image_1 wl_X4_143 rfl (Nat.le_of_ble_eq_true rfl) ?_
  refine Ev.if_ne 10 dX4_image_4 (by decide) (fun hcst => ?_) (fun hcst => ?_)
  rotate_left
  · exact absurd hcst (by decide)
  refine Ev.aload_0 dX4_image_10 rfl ?_
  refine Ev.getf cf4 3 (by decide) wf_X4_30 dX4_image_11 rfl rfl ?_
  refine Ev.aload_0 dX4_image_14 rfl ?_
  refine Ev.getf cf4 1 (by decide) wf_X4_19 dX4_image_15 rfl rfl ?_
  refine ke_X0_copyFrom (w2 := (clsW h pg PF l LF s SF (cpL il l) (cpW LF 5 0 (cpB LF 4 0 ILF)) is ISF t TF k KF)) [16, 17, 18, 19, 20, 21, 22, 3, 4, 5, 6, 7, 8, 9] (e_X0_copyFrom) dX4_image_18 wl_X4_191 rfl (Nat.le_of_ble_eq_true rfl) rfl rfl (by decide) ⟨rfl, rfl⟩ rfl rfl rfl ?_
  refine Ev.aload_0 dX4_image_21 rfl ?_
  refine Ev.getf cf4 4 (by decide) wf_X4_33 dX4_image_22 rfl rfl ?_
  refine Ev.aload_0 dX4_image_25 rfl ?_
  refine Ev.getf cf4 2 (by decide) wf_X4_26 dX4_image_26 rfl rfl ?_
  refine ke_X3_copyFrom (w2 := (clsW h pg PF l LF s SF (cpL il l) (cpW LF 5 0 (cpB LF 4 0 ILF)) (upd is 0 (s 0)) (cpS SF 8 0 ISF) t TF k KF)) [23, 24, 25, 26, 27, 28, 10, 11, 12, 13, 14, 15] (e_X3_copyFrom) dX4_image_29 wl_X4_203 rfl (Nat.le_of_ble_eq_true rfl) rfl rfl (by decide) ⟨rfl, rfl⟩ rfl rfl rfl ?_
  refine Ev.aload_0 dX4_image_32 rfl ?_
  refine Ev.iconst (v := 1) dX4_image_33 (by decide) ?_
  refine pw_clsW_0_7 dX4_image_34 wf_X4_46 (by decide) (by decide) ?_
  refine Ev.aload_0 dX4_image_37 rfl ?_
  refine Ev.getf cf4 1 (by decide) wf_X4_19 dX4_image_38 rfl rfl ?_
  refine Ev.getf cf0 8 (by decide) wf_X4_146 dX4_image_41 rfl rfl ?_
  refine Ev.iret dX4_image_44 ?_
  exact ⟨rfl, rfl⟩

set_option maxHeartbeats 4000000 in
set_option maxRecDepth 100000 in
theorem c_restore_s {d : Nat} {h pg l s il is t k : Nat → Int32} {PF LF SF ILF ISF TF KF : Nat → Nat → Int32} (h7 : h 7 = 0) : Ev (d + 1) yX4_restore cX4_restore (some .int) 0 [some (.ref 0)] [] (clsW h pg PF l LF s SF il ILF is ISF t TF k KF) (Is (some (.int (-103))) (clsW h pg PF l LF s SF il ILF is ISF t TF k KF)) := by
  refine Ev.aload_0 dX4_restore_0 rfl ?_
  refine Ev.getf cf4 7 (by decide) wf_X4_46 dX4_restore_1 rfl rfl ?_
  refine Ev.if_ne 10 dX4_restore_4 (by decide) (fun h4 => ?_) (fun h4 => ?_)
  · exact absurd h7 h4
  refine Ev.bipush (v := -103) dX4_restore_7 (by decide) ?_
  refine Ev.iret dX4_restore_9 ?_
  exact ⟨rfl, rfl⟩

set_option maxHeartbeats 4000000 in
set_option maxRecDepth 100000 in
theorem c_restore_k {d : Nat} {h pg l s il is t k : Nat → Int32} {PF LF SF ILF ISF TF KF : Nat → Nat → Int32} (h7 : ¬ h 7 = 0) : Ev (d + 1) yX4_restore cX4_restore (some .int) 0 [some (.ref 0)] [] (clsW h pg PF l LF s SF il ILF is ISF t TF k KF) (Is (some (.int (il 8))) (clsW h pg PF (cpL l il) (cpW ILF 5 0 (cpB ILF 4 0 LF)) (upd s 0 (is 0)) (cpS ISF 8 0 SF) il ILF is ISF t TF k KF)) := by
  refine Ev.aload_0 dX4_restore_0 rfl ?_
  refine Ev.getf cf4 7 (by decide) wf_X4_46 dX4_restore_1 rfl rfl ?_
  refine Ev.if_ne 10 dX4_restore_4 (by decide) (fun h4 => ?_) (fun h4 => ?_)
  · refine Ev.aload_0 dX4_restore_10 rfl ?_
    refine Ev.getf cf4 1 (by decide) wf_X4_19 dX4_restore_11 rfl rfl ?_
    refine Ev.aload_0 dX4_restore_14 rfl ?_
    refine Ev.getf cf4 3 (by decide) wf_X4_30 dX4_restore_15 rfl rfl ?_
    refine ke_X0_copyFrom (w2 := (clsW h pg PF (cpL l il) (cpW ILF 5 0 (cpB ILF 4 0 LF)) s SF il ILF is ISF t TF k KF)) [3, 4, 5, 6, 7, 8, 9, 16, 17, 18, 19, 20, 21, 22] (e_X0_copyFrom) dX4_restore_18 wl_X4_191 rfl (Nat.le_of_ble_eq_true rfl) rfl rfl (by decide) ⟨rfl, rfl⟩ rfl rfl rfl ?_
    refine Ev.aload_0 dX4_restore_21 rfl ?_
    refine Ev.getf cf4 2 (by decide) wf_X4_26 dX4_restore_22 rfl rfl ?_
    refine Ev.aload_0 dX4_restore_25 rfl ?_
    refine Ev.getf cf4 4 (by decide) wf_X4_33 dX4_restore_26 rfl rfl ?_
    refine ke_X3_copyFrom (w2 := (clsW h pg PF (cpL l il) (cpW ILF 5 0 (cpB ILF 4 0 LF)) (upd s 0 (is 0)) (cpS ISF 8 0 SF) il ILF is ISF t TF k KF)) [10, 11, 12, 13, 14, 15, 23, 24, 25, 26, 27, 28] (e_X3_copyFrom) dX4_restore_29 wl_X4_203 rfl (Nat.le_of_ble_eq_true rfl) rfl rfl (by decide) ⟨rfl, rfl⟩ rfl rfl rfl ?_
    refine Ev.aload_0 dX4_restore_32 rfl ?_
    refine Ev.getf cf4 1 (by decide) wf_X4_19 dX4_restore_33 rfl rfl ?_
    refine Ev.getf cf0 8 (by decide) wf_X4_146 dX4_restore_36 rfl rfl ?_
    refine Ev.iret dX4_restore_39 ?_
    exact ⟨rfl, rfl⟩
  · exact absurd h4 h7

set_option maxHeartbeats 4000000 in
set_option maxRecDepth 100000 in
theorem c_count_0 {d : Nat} {h pg l s il is t k : Nat → Int32} {PF LF SF ILF ISF TF KF : Nat → Nat → Int32} {V N : Nat} (ok : LOK l LF V N)  : Ev (d + 4) yX4_count cX4_count (some .int) 0 [some (.ref 0), some (.int 0)] [] (clsW h pg PF l LF s SF il ILF is ISF t TF k KF) (Is (some (.int (l 0))) (clsW h pg PF l LF s SF il ILF is ISF t TF k KF)) := by
  refine Ev.iload_1 dX4_count_0 rfl ?_
  refine Ev.tableIn 64 dX4_count_1 (by decide) (by decide) rfl (by decide) ?_
  refine Ev.aload_0 dX4_count_64 rfl ?_
  refine Ev.getf cf4 1 (by decide) wf_X4_19 dX4_count_65 rfl rfl ?_
  refine Ev.getf cf0 0 (by decide) wf_X4_77 dX4_count_68 rfl rfl ?_
  refine Ev.iret dX4_count_71 ?_
  exact ⟨rfl, rfl⟩

set_option maxHeartbeats 4000000 in
set_option maxRecDepth 100000 in
theorem c_count_1 {d : Nat} {h pg l s il is t k : Nat → Int32} {PF LF SF ILF ISF TF KF : Nat → Nat → Int32} {V N : Nat} (ok : LOK l LF V N)  : Ev (d + 4) yX4_count cX4_count (some .int) 0 [some (.ref 0), some (.int 1)] [] (clsW h pg PF l LF s SF il ILF is ISF t TF k KF) (Is (some (.int (l 1))) (clsW h pg PF l LF s SF il ILF is ISF t TF k KF)) := by
  refine Ev.iload_1 dX4_count_0 rfl ?_
  refine Ev.tableIn 72 dX4_count_1 (by decide) (by decide) rfl (by decide) ?_
  refine Ev.aload_0 dX4_count_72 rfl ?_
  refine Ev.getf cf4 1 (by decide) wf_X4_19 dX4_count_73 rfl rfl ?_
  refine Ev.getf cf0 1 (by decide) wf_X4_206 dX4_count_76 rfl rfl ?_
  refine Ev.iret dX4_count_79 ?_
  exact ⟨rfl, rfl⟩

set_option maxHeartbeats 4000000 in
set_option maxRecDepth 100000 in
theorem c_count_2 {d : Nat} {h pg l s il is t k : Nat → Int32} {PF LF SF ILF ISF TF KF : Nat → Nat → Int32} {V N : Nat} (ok : LOK l LF V N)  : Ev (d + 4) yX4_count cX4_count (some .int) 0 [some (.ref 0), some (.int 2)] [] (clsW h pg PF l LF s SF il ILF is ISF t TF k KF) (Is (some (.int (bitc (wi (vC LF) N (-1))))) (clsW h pg PF l LF s SF il ILF is ISF t TF k KF)) := by
  refine Ev.iload_1 dX4_count_0 rfl ?_
  refine Ev.tableIn 80 dX4_count_1 (by decide) (by decide) rfl (by decide) ?_
  refine Ev.aload_0 dX4_count_80 rfl ?_
  refine Ev.getf cf4 1 (by decide) wf_X4_19 dX4_count_81 rfl rfl ?_
  refine kp_X0_weightsOnPlain [3, 4, 5, 6, 7, 8, 9] (e_X0_weightsOnPlain ok) dX4_count_84 wl_X4_200 rfl (Nat.le_of_ble_eq_true rfl) rfl (by decide) ⟨rfl, rfl⟩ rfl ?_
  refine Ev.iret dX4_count_87 ?_
  exact ⟨rfl, rfl⟩

set_option maxHeartbeats 4000000 in
set_option maxRecDepth 100000 in
theorem c_count_3 {d : Nat} {h pg l s il is t k : Nat → Int32} {PF LF SF ILF ISF TF KF : Nat → Nat → Int32} {V N : Nat} (ok : LOK l LF V N)  : Ev (d + 4) yX4_count cX4_count (some .int) 0 [some (.ref 0), some (.int 3)] [] (clsW h pg PF l LF s SF il ILF is ISF t TF k KF) (Is (some (.int (oa (vC LF) N))) (clsW h pg PF l LF s SF il ILF is ISF t TF k KF)) := by
  refine Ev.iload_1 dX4_count_0 rfl ?_
  refine Ev.tableIn 88 dX4_count_1 (by decide) (by decide) rfl (by decide) ?_
  refine Ev.aload_0 dX4_count_88 rfl ?_
  refine Ev.getf cf4 1 (by decide) wf_X4_19 dX4_count_89 rfl rfl ?_
  refine kp_X0_ouncesOfAll [3, 4, 5, 6, 7, 8, 9] (e_X0_ouncesOfAll ok) dX4_count_92 wl_X4_209 rfl (Nat.le_of_ble_eq_true rfl) rfl (by decide) ⟨rfl, rfl⟩ rfl ?_
  refine Ev.iret dX4_count_95 ?_
  exact ⟨rfl, rfl⟩

set_option maxHeartbeats 4000000 in
set_option maxRecDepth 100000 in
theorem c_count_4 {d : Nat} {h pg l s il is t k : Nat → Int32} {PF LF SF ILF ISF TF KF : Nat → Nat → Int32} {V N : Nat} (ok : LOK l LF V N) (hV : 0 < V)  : Ev (d + 4) yX4_count cX4_count (some .int) 0 [some (.ref 0), some (.int 4)] [] (clsW h pg PF l LF s SF il ILF is ISF t TF k KF) (Is (some (.int (loa (vC LF) V N))) (clsW h pg PF l LF s SF il ILF is ISF t TF k KF)) := by
  refine Ev.iload_1 dX4_count_0 rfl ?_
  refine Ev.tableIn 96 dX4_count_1 (by decide) (by decide) rfl (by decide) ?_
  refine Ev.aload_0 dX4_count_96 rfl ?_
  refine k_X4_hasTable (c_hasTable_t ok hV) dX4_count_97 wl_X4_143 rfl (Nat.le_of_ble_eq_true rfl) ?_
  refine Ev.if_eq 113 dX4_count_100 (by decide) (fun hcst => ?_) (fun hcst => ?_)
  · exact absurd hcst (by decide)
  refine Ev.aload_0 dX4_count_103 rfl ?_
  refine Ev.getf cf4 1 (by decide) wf_X4_19 dX4_count_104 rfl rfl ?_
  refine kp_X0_leastOfAll [3, 4, 5, 6, 7, 8, 9] (e_X0_leastOfAll ok) dX4_count_107 wl_X4_212 rfl (Nat.le_of_ble_eq_true rfl) rfl (by decide) ⟨rfl, rfl⟩ rfl ?_
  refine Ev.goto 114 dX4_count_110 (by decide) ?_
  refine Ev.iret dX4_count_114 ?_
  exact ⟨rfl, rfl⟩

set_option maxHeartbeats 4000000 in
set_option maxRecDepth 100000 in
theorem c_count_5 {d : Nat} {h pg l s il is t k : Nat → Int32} {PF LF SF ILF ISF TF KF : Nat → Nat → Int32} {V N : Nat} (ok : LOK l LF V N)  : Ev (d + 4) yX4_count cX4_count (some .int) 0 [some (.ref 0), some (.int 5)] [] (clsW h pg PF l LF s SF il ILF is ISF t TF k KF) (Is (some (.int (l 8))) (clsW h pg PF l LF s SF il ILF is ISF t TF k KF)) := by
  refine Ev.iload_1 dX4_count_0 rfl ?_
  refine Ev.tableIn 115 dX4_count_1 (by decide) (by decide) rfl (by decide) ?_
  refine Ev.aload_0 dX4_count_115 rfl ?_
  refine Ev.getf cf4 1 (by decide) wf_X4_19 dX4_count_116 rfl rfl ?_
  refine Ev.getf cf0 8 (by decide) wf_X4_146 dX4_count_119 rfl rfl ?_
  refine Ev.iret dX4_count_122 ?_
  exact ⟨rfl, rfl⟩

set_option maxHeartbeats 4000000 in
set_option maxRecDepth 100000 in
theorem c_count_6 {d : Nat} {h pg l s il is t k : Nat → Int32} {PF LF SF ILF ISF TF KF : Nat → Nat → Int32} {V N : Nat} (ok : LOK l LF V N)  : Ev (d + 4) yX4_count cX4_count (some .int) 0 [some (.ref 0), some (.int 6)] [] (clsW h pg PF l LF s SF il ILF is ISF t TF k KF) (Is (some (.int (l 9))) (clsW h pg PF l LF s SF il ILF is ISF t TF k KF)) := by
  refine Ev.iload_1 dX4_count_0 rfl ?_
  refine Ev.tableIn 123 dX4_count_1 (by decide) (by decide) rfl (by decide) ?_
  refine Ev.aload_0 dX4_count_123 rfl ?_
  refine Ev.getf cf4 1 (by decide) wf_X4_19 dX4_count_124 rfl rfl ?_
  refine Ev.getf cf0 9 (by decide) wf_X4_215 dX4_count_127 rfl rfl ?_
  refine Ev.iret dX4_count_130 ?_
  exact ⟨rfl, rfl⟩

set_option maxHeartbeats 4000000 in
set_option maxRecDepth 100000 in
theorem c_count_7 {d : Nat} {h pg l s il is t k : Nat → Int32} {PF LF SF ILF ISF TF KF : Nat → Nat → Int32} {V N : Nat} (ok : LOK l LF V N)  : Ev (d + 4) yX4_count cX4_count (some .int) 0 [some (.ref 0), some (.int 7)] [] (clsW h pg PF l LF s SF il ILF is ISF t TF k KF) (Is (some (.int (l 10))) (clsW h pg PF l LF s SF il ILF is ISF t TF k KF)) := by
  refine Ev.iload_1 dX4_count_0 rfl ?_
  refine Ev.tableIn 131 dX4_count_1 (by decide) (by decide) rfl (by decide) ?_
  refine Ev.aload_0 dX4_count_131 rfl ?_
  refine Ev.getf cf4 1 (by decide) wf_X4_19 dX4_count_132 rfl rfl ?_
  refine Ev.getf cf0 10 (by decide) wf_X4_218 dX4_count_135 rfl rfl ?_
  refine Ev.iret dX4_count_138 ?_
  exact ⟨rfl, rfl⟩

set_option maxHeartbeats 4000000 in
set_option maxRecDepth 100000 in
theorem c_count_8 {d : Nat} {h pg l s il is t k : Nat → Int32} {PF LF SF ILF ISF TF KF : Nat → Nat → Int32} {V N : Nat} (ok : LOK l LF V N)  : Ev (d + 4) yX4_count cX4_count (some .int) 0 [some (.ref 0), some (.int 8)] [] (clsW h pg PF l LF s SF il ILF is ISF t TF k KF) (Is (some (.int (s 0))) (clsW h pg PF l LF s SF il ILF is ISF t TF k KF)) := by
  refine Ev.iload_1 dX4_count_0 rfl ?_
  refine Ev.tableIn 139 dX4_count_1 (by decide) (by decide) rfl (by decide) ?_
  refine Ev.aload_0 dX4_count_139 rfl ?_
  refine Ev.getf cf4 2 (by decide) wf_X4_26 dX4_count_140 rfl rfl ?_
  refine Ev.getf cf3 0 (by decide) wf_X4_76 dX4_count_143 rfl rfl ?_
  refine Ev.iret dX4_count_146 ?_
  exact ⟨rfl, rfl⟩

set_option maxHeartbeats 4000000 in
set_option maxRecDepth 100000 in
theorem c_count_9 {d : Nat} {h pg l s il is t k : Nat → Int32} {PF LF SF ILF ISF TF KF : Nat → Nat → Int32} {V N : Nat} (ok : LOK l LF V N)  : Ev (d + 4) yX4_count cX4_count (some .int) 0 [some (.ref 0), some (.int 9)] [] (clsW h pg PF l LF s SF il ILF is ISF t TF k KF) (Is (some (.int (pg 1))) (clsW h pg PF l LF s SF il ILF is ISF t TF k KF)) := by
  refine Ev.iload_1 dX4_count_0 rfl ?_
  refine Ev.tableIn 147 dX4_count_1 (by decide) (by decide) rfl (by decide) ?_
  refine Ev.aload_0 dX4_count_147 rfl ?_
  refine Ev.getf cf4 0 (by decide) wf_X4_12 dX4_count_148 rfl rfl ?_
  refine Ev.getf cf2 1 (by decide) wf_X4_57 dX4_count_151 rfl rfl ?_
  refine Ev.iret dX4_count_154 ?_
  exact ⟨rfl, rfl⟩

set_option maxHeartbeats 4000000 in
set_option maxRecDepth 100000 in
theorem c_count_10 {d : Nat} {h pg l s il is t k : Nat → Int32} {PF LF SF ILF ISF TF KF : Nat → Nat → Int32} {V N : Nat} (ok : LOK l LF V N)  : Ev (d + 4) yX4_count cX4_count (some .int) 0 [some (.ref 0), some (.int 10)] [] (clsW h pg PF l LF s SF il ILF is ISF t TF k KF) (Is (some (.int (h 8))) (clsW h pg PF l LF s SF il ILF is ISF t TF k KF)) := by
  refine Ev.iload_1 dX4_count_0 rfl ?_
  refine Ev.tableIn 155 dX4_count_1 (by decide) (by decide) rfl (by decide) ?_
  refine Ev.aload_0 dX4_count_155 rfl ?_
  refine Ev.getf cf4 8 (by decide) wf_X4_50 dX4_count_156 rfl rfl ?_
  refine Ev.iret dX4_count_159 ?_
  exact ⟨rfl, rfl⟩

set_option maxHeartbeats 4000000 in
set_option maxRecDepth 100000 in
theorem c_count_11 {d : Nat} {h pg l s il is t k : Nat → Int32} {PF LF SF ILF ISF TF KF : Nat → Nat → Int32} {V N : Nat} (ok : LOK l LF V N)  : Ev (d + 4) yX4_count cX4_count (some .int) 0 [some (.ref 0), some (.int 11)] [] (clsW h pg PF l LF s SF il ILF is ISF t TF k KF) (Is (some (.int (h 9))) (clsW h pg PF l LF s SF il ILF is ISF t TF k KF)) := by
  refine Ev.iload_1 dX4_count_0 rfl ?_
  refine Ev.tableIn 160 dX4_count_1 (by decide) (by decide) rfl (by decide) ?_
  refine Ev.aload_0 dX4_count_160 rfl ?_
  refine Ev.getf cf4 9 (by decide) wf_X4_54 dX4_count_161 rfl rfl ?_
  refine Ev.iret dX4_count_164 ?_
  exact ⟨rfl, rfl⟩

set_option maxHeartbeats 4000000 in
set_option maxRecDepth 100000 in
theorem c_count_4z {d : Nat} {h pg l s il is t k : Nat → Int32} {PF LF SF ILF ISF TF KF : Nat → Nat → Int32} {N : Nat} (ok : LOK l LF 0 N)  : Ev (d + 4) yX4_count cX4_count (some .int) 0 [some (.ref 0), some (.int 4)] [] (clsW h pg PF l LF s SF il ILF is ISF t TF k KF) (Is (some (.int 0)) (clsW h pg PF l LF s SF il ILF is ISF t TF k KF)) := by
  refine Ev.iload_1 dX4_count_0 rfl ?_
  refine Ev.tableIn 96 dX4_count_1 (by decide) (by decide) rfl (by decide) ?_
  refine Ev.aload_0 dX4_count_96 rfl ?_
  refine k_X4_hasTable (c_hasTable_f ok) dX4_count_97 wl_X4_143 rfl (Nat.le_of_ble_eq_true rfl) ?_
  refine Ev.if_eq 113 dX4_count_100 (by decide) (fun hcst => ?_) (fun hcst => ?_)
  rotate_left
  · exact absurd hcst (by decide)
  refine Ev.iconst (v := 0) dX4_count_113 (by decide) ?_
  refine Ev.iret dX4_count_114 ?_
  exact ⟨rfl, rfl⟩

set_option maxHeartbeats 4000000 in
set_option maxRecDepth 100000 in
theorem c_count_o {d : Nat} {h pg l s il is t k : Nat → Int32} {PF LF SF ILF ISF TF KF : Nat → Nat → Int32} {x : Int32} (hx : x.toInt < 0 ∨ 11 < x.toInt) : Ev (d + 1) yX4_count cX4_count (some .int) 0 [some (.ref 0), some (.int x)] [] (clsW h pg PF l LF s SF il ILF is ISF t TF k KF) (Is (some (.int (-102))) (clsW h pg PF l LF s SF il ILF is ISF t TF k KF)) := by
  refine Ev.iload_1 dX4_count_0 rfl ?_
  refine Ev.tableOut 165 dX4_count_1 hx (by decide) ?_
  refine Ev.bipush (v := -102) dX4_count_165 (by decide) ?_
  refine Ev.iret dX4_count_167 ?_
  exact ⟨rfl, rfl⟩
