abbrev PSt : Type := (Nat → Int32) × (Nat → Nat → Int32)
def wgF (X : Nat → Nat → Int32) (set : Int32) : Nat → Nat → Int32 → Int32 → Int32 × Int32
  | 0, _, a, b => (a, b)
  | n + 1, k, a, b => if (set >>> (nI k &&& 31)) &&& 1 = 1 then wgF X set n (k + 1) (a + X 2 k) (b + bear (X 1 k) (X 2 k) 0) else wgF X set n (k + 1) a b
def wg (X : Nat → Nat → Int32) (N : Nat) (KF : Nat → Nat → Int32) (S : Nat) : Nat → Nat → Int32 := up2 (up2 KF 4 S (wgF X (nI S) N 0 0 0).1) 5 S ((wgF X (nI S) N 0 0 0).2 * lev 2 0)
def bcpF : Nat → Nat → (Nat → Nat → Int32) → Nat → Nat → Int32
  | 0, _, KF => KF
  | n + 1, k, KF => bcpF n (k + 1) (up2 KF 0 k (KF 3 k))
def kib (S : PSt) (st oz : Int32) : PSt := if S.1 1 < st ∨ (st = S.1 1 ∧ ¬ S.1 2 ≤ oz) then (upd (upd S.1 1 st) 2 oz, bcpF 4 0 S.2) else S
def dif (fr set : Nat) : Nat := (nI fr &&& (nI set ^^^ (-1))).toNatClampNeg
def chL (body : Nat → PSt → PSt) : Nat → Nat → PSt → PSt
  | 0, _, S => S
  | n + 1, set, S => chL body n (set + 1) (body set S)
def chB (rec : Nat → Int32 → Int32 → PSt → PSt) (b3 force : Int32) (v fr : Nat) (st oz : Int32) (set : Nat) (S : PSt) : PSt :=
  if nI set &&& (nI fr ^^^ (-1)) = 0 ∧ (lifs (b3 + S.2 5 set) force = 0 ∨ nI set = 0) then rec (dif fr set) (st + (if lifs (b3 + S.2 5 set) force = 0 then 1 else 0)) (oz + S.2 4 set) (S.1, up2 S.2 3 v (nI set)) else S
/-- chooseFrom: m villages to come -/
def chR (X : Nat → Nat → Int32) (force : Int32) : Nat → Nat → Nat → Int32 → Int32 → PSt → PSt
  | 0, _, _, st, oz, S => kib S st oz
  | m + 1, v, fr, st, oz, S => chL (fun set S => chB (fun fr' st' oz' S' => chR X force m (v + 1) fr' st' oz' S') (3 * X 0 v) force v fr st oz set S) (fr + 1) 0 S
def wgA (X : Nat → Nat → Int32) (N : Nat) : Nat → Nat → (Nat → Nat → Int32) → Nat → Nat → Int32
  | 0, _, KF => KF
  | n + 1, k, KF => wgA X N n (k + 1) (wg X N KF k)
def z4 : Nat → Nat → (Nat → Nat → Int32) → Nat → Nat → Int32
  | 0, _, KF => KF
  | n + 1, k, KF => z4 n (k + 1) (up2 (up2 KF 3 k 0) 0 k 0)
def srch (X : Nat → Nat → Int32) (V N : Nat) (force : Int32) (S : PSt) : PSt := chR X force V 0 (2 ^ N - 1) 0 0 (upd (upd S.1 1 (-1)) 2 0, z4 4 0 (wgA X N 32 0 S.2))
theorem dif_ok {fr set : Nat} (h1 : fr < 32) (h2 : set < 32) : nI fr &&& (nI set ^^^ (-1)) = nI (dif fr set) ∧ dif fr set < 32 := by
  have q : ∀ a b : Fin 32, nI a.val &&& (nI b.val ^^^ (-1)) = nI (dif a.val b.val) ∧ dif a.val b.val < 32 := by decide +kernel
  exact q ⟨fr, h1⟩ ⟨set, h2⟩
theorem pow_ok {N : Nat} (h : N ≤ 5) : ((1 : Int32) <<< (nI N &&& 31)) - 1 = nI (2 ^ N - 1) ∧ 2 ^ N - 1 < 32 := by
  have q : ∀ a : Fin 6, ((1 : Int32) <<< (nI a.val &&& 31)) - 1 = nI (2 ^ a.val - 1) ∧ 2 ^ a.val - 1 < 32 := by decide +kernel
  exact q ⟨N, by omega⟩

set_option maxHeartbeats 4000000 in
set_option maxRecDepth 100000 in
theorem e_weigh_loop {d : Nat} {k l : Nat → Int32} {KF LF : Nat → Nat → Int32} {Q : Option Value → List Ce → Prop} {V N : Nat} (ok : LOK l LF V N) {set : Int32}  : ∀ (n : Nat) (j : Nat) (a b : Int32) (R : Int32 × Int32), j + n = N → wgF (vC LF) set n j a b = R → Ev (d + 1) yX1_weigh cX1_weigh none 66 [some (.ref 0), some (.ref 5), some (.int set), some (.int R.1), some (.int R.2), some (.int (nI N))] [] (packLandW k KF l LF) Q → Ev (d + 1) yX1_weigh cX1_weigh none 8 [some (.ref 0), some (.ref 5), some (.int set), some (.int a), some (.int b), some (.int (nI j))] [] (packLandW k KF l LF) Q := by
  intro n
  induction n with
  | zero =>
    intro j a b R hk hR K
    have hk : j = N := by omega
    subst hk
    have hR : (a, b) = R := hR
    subst hR
    refine Ev.iload dX1_weigh_8 rfl ?_
    refine Ev.aload_1 dX1_weigh_10 rfl ?_
    refine Ev.getf cf0 1 (by decide) wf_X1_35 dX1_weigh_11 rfl rfl ?_
    refine Ev.icmp_ge 66 dX1_weigh_14 (by decide) (fun h14 => ?_) (fun h14 => ?_)
    · exact K
    · exact absurd (lp_le ok.2.1 (by omega) (by have := ok.2.2.2.1; omega)) h14
  | succ n ih =>
    intro j a b R hk hR K
    refine Ev.iload dX1_weigh_8 rfl ?_
    refine Ev.aload_1 dX1_weigh_10 rfl ?_
    refine Ev.getf cf0 1 (by decide) wf_X1_35 dX1_weigh_11 rfl rfl ?_
    refine Ev.icmp_ge 66 dX1_weigh_14 (by decide) (fun h14 => ?_) (fun h14 => ?_)
    · exact absurd h14 (lp_ge ok.2.1 (by omega) (by have := ok.2.2.2.1; omega))
    refine Ev.iload_2 dX1_weigh_17 rfl ?_
    refine Ev.iload dX1_weigh_18 rfl ?_
    refine Ev.ishr dX1_weigh_20 ?_
    refine Ev.iconst (v := 1) dX1_weigh_21 (by decide) ?_
    refine Ev.iand dX1_weigh_22 ?_
    refine Ev.iconst (v := 1) dX1_weigh_23 (by decide) ?_
    refine Ev.icmp_ne 60 dX1_weigh_24 (by decide) (fun h24 => ?_) (fun h24 => ?_)
    · first | refine Ev.incn5 dX1_weigh_60 rfl ?_ | refine Ev.inc5 dX1_weigh_60 rfl ?_
      refine Ev.goto 8 dX1_weigh_63 (by decide) ?_
      exact ih (j + 1) _ _ R (by omega) (by rw [← hR, wgF]; simp [vC, *]) K
    refine Ev.iload_3 dX1_weigh_27 rfl ?_
    refine Ev.aload_1 dX1_weigh_28 rfl ?_
    refine Ev.getf cf0 4 (by decide) wf_X1_44 dX1_weigh_29 rfl rfl ?_
    refine Ev.iload dX1_weigh_32 rfl ?_
    refine Ev.aldn dX1_weigh_34 rfl (by have := ok.2.2.2.1; omega) (by decide) ?_
    refine Ev.iadd dX1_weigh_35 ?_
    refine Ev.ist3 dX1_weigh_36 rfl ?_
    refine Ev.iload dX1_weigh_37 rfl ?_
    refine Ev.aload_1 dX1_weigh_39 rfl ?_
    refine Ev.getf cf0 3 (by decide) wf_X1_47 dX1_weigh_40 rfl rfl ?_
    refine Ev.iload dX1_weigh_43 rfl ?_
    refine Ev.aldn dX1_weigh_45 rfl (by have := ok.2.2.2.1; omega) (by decide) ?_
    refine Ev.aload_1 dX1_weigh_46 rfl ?_
    refine Ev.getf cf0 4 (by decide) wf_X1_44 dX1_weigh_47 rfl rfl ?_
    refine Ev.iload dX1_weigh_50 rfl ?_
    refine Ev.aldn dX1_weigh_52 rfl (by have := ok.2.2.2.1; omega) (by decide) ?_
    refine Ev.iconst (v := 0) dX1_weigh_53 (by decide) ?_
    refine kn_X4_bearing (e_X4_bearing _ _ _) dX1_weigh_54 (fun D cy s h => h.2.2.2.2.2.1) (Nat.le_of_ble_eq_true rfl) ?_
    refine Ev.iadd dX1_weigh_57 ?_
    refine Ev.ist4 dX1_weigh_58 rfl ?_
    first | refine Ev.incn5 dX1_weigh_60 rfl ?_ | refine Ev.inc5 dX1_weigh_60 rfl ?_
    refine Ev.goto 8 dX1_weigh_63 (by decide) ?_
    exact ih (j + 1) _ _ R (by omega) (by rw [← hR, wgF]; simp [vC, *]) K

set_option maxHeartbeats 4000000 in
set_option maxRecDepth 100000 in
theorem e_X1_weigh {d : Nat} {k l : Nat → Int32} {KF LF : Nat → Nat → Int32} {V N : Nat} (ok : LOK l LF V N) {S : Nat} (hS : S < 32) : Ev (d + 1) yX1_weigh cX1_weigh none 0 [some (.ref 0), some (.ref 5), some (.int (nI S)), none, none, none] [] (packLandW k KF l LF) (Is none (packLandW k (wg (vC LF) N KF S) l LF)) := by
  refine Ev.iconst (v := 0) dX1_weigh_0 (by decide) ?_
  refine Ev.ist3 dX1_weigh_1 rfl ?_
  refine Ev.iconst (v := 0) dX1_weigh_2 (by decide) ?_
  refine Ev.ist4 dX1_weigh_3 rfl ?_
  refine Ev.iconst (v := 0) dX1_weigh_5 (by decide) ?_
  refine Ev.ist5 dX1_weigh_6 rfl ?_
  refine e_weigh_loop ok N 0 _ _ _ (by omega) rfl ?_
  refine Ev.aload_0 dX1_weigh_66 rfl ?_
  refine Ev.getf cf1 4 (by decide) wf_X1_25 dX1_weigh_67 rfl rfl ?_
  refine Ev.iload_2 dX1_weigh_70 rfl ?_
  refine Ev.iload_3 dX1_weigh_71 rfl ?_
  refine aw_packLandW_3 dX1_weigh_72 (by omega) ?_
  refine Ev.aload_0 dX1_weigh_73 rfl ?_
  refine Ev.getf cf1 5 (by decide) wf_X1_28 dX1_weigh_74 rfl rfl ?_
  refine Ev.iload_2 dX1_weigh_77 rfl ?_
  refine Ev.iload dX1_weigh_78 rfl ?_
  refine Ev.iconst (v := 2) dX1_weigh_80 (by decide) ?_
  refine Ev.iconst (v := 0) dX1_weigh_81 (by decide) ?_
  refine kn_X4_leverage (e_X4_leverage _ _) dX1_weigh_82 (fun D cy s h => h.2.2.2.2.2.2.1) (Nat.le_of_ble_eq_true rfl) ?_
  refine Ev.imul dX1_weigh_85 ?_
  refine aw_packLandW_4 dX1_weigh_86 (by omega) ?_
  refine Ev.vret dX1_weigh_87 ?_
  exact ⟨rfl, rfl⟩

set_option maxHeartbeats 4000000 in
set_option maxRecDepth 100000 in
theorem e_keep_loop {d : Nat} {k l : Nat → Int32} {LF : Nat → Nat → Int32} {a b : Int32} {Q : Option Value → List Ce → Prop}  : ∀ (n : Nat) (j : Nat) (KF R : Nat → Nat → Int32), j + n = 4 → bcpF n j KF = R → Ev d yX1_keepIfBetter cX1_keepIfBetter none 59 [some (.ref 0), some (.int a), some (.int b), some (.int (nI 4))] [] (packLandW k R l LF) Q → Ev d yX1_keepIfBetter cX1_keepIfBetter none 36 [some (.ref 0), some (.int a), some (.int b), some (.int (nI j))] [] (packLandW k KF l LF) Q := by
  intro n
  induction n with
  | zero =>
    intro j KF R hk hR K
    have hk : j = 4 := by omega
    subst hk
    have hR : KF = R := hR
    subst hR
    refine Ev.iload_3 dX1_keepIfBetter_36 rfl ?_
    refine Ev.iconst (v := 4) dX1_keepIfBetter_37 (by decide) ?_
    refine Ev.icmp_ge 59 dX1_keepIfBetter_38 (by decide) (fun h38 => ?_) (fun h38 => ?_)
    · exact K
    · exact absurd (lp_le (x := 4) (N := 4) rfl (by omega) (by omega)) h38
  | succ n ih =>
    intro j KF R hk hR K
    refine Ev.iload_3 dX1_keepIfBetter_36 rfl ?_
    refine Ev.iconst (v := 4) dX1_keepIfBetter_37 (by decide) ?_
    refine Ev.icmp_ge 59 dX1_keepIfBetter_38 (by decide) (fun h38 => ?_) (fun h38 => ?_)
    · exact absurd h38 (lp_ge (x := 4) (N := 4) rfl (by omega) (by omega))
    refine Ev.aload_0 dX1_keepIfBetter_41 rfl ?_
    refine Ev.getf cf1 0 (by decide) wf_X1_9 dX1_keepIfBetter_42 rfl rfl ?_
    refine Ev.iload_3 dX1_keepIfBetter_45 rfl ?_
    refine Ev.aload_0 dX1_keepIfBetter_46 rfl ?_
    refine Ev.getf cf1 3 (by decide) wf_X1_22 dX1_keepIfBetter_47 rfl rfl ?_
    refine Ev.iload_3 dX1_keepIfBetter_50 rfl ?_
    refine Ev.aldn dX1_keepIfBetter_51 rfl (by omega) (by decide) ?_
    refine aw_packLandW_1 dX1_keepIfBetter_52 (by omega) ?_
    first | refine Ev.incn3 dX1_keepIfBetter_53 rfl ?_ | refine Ev.inc3 dX1_keepIfBetter_53 rfl ?_
    refine Ev.goto 36 dX1_keepIfBetter_56 (by decide) ?_
    exact ih (j + 1) _ R (by omega) (by rw [← hR]; rfl) K

set_option maxHeartbeats 4000000 in
set_option maxRecDepth 100000 in
theorem e_X1_keepIfBetter {d : Nat} {k l : Nat → Int32} {KF LF : Nat → Nat → Int32} (st oz : Int32) : Ev d yX1_keepIfBetter cX1_keepIfBetter none 0 [some (.ref 0), some (.int st), some (.int oz), none] [] (packLandW k KF l LF) (Is none (packLandW (kib (k, KF) st oz).1 (kib (k, KF) st oz).2 l LF)) := by
  refine Ev.iload_1 dX1_keepIfBetter_0 rfl ?_
  refine Ev.aload_0 dX1_keepIfBetter_1 rfl ?_
  refine Ev.getf cf1 1 (by decide) wf_X1_15 dX1_keepIfBetter_2 rfl rfl ?_
  refine Ev.icmp_gt 24 dX1_keepIfBetter_5 (by decide) (fun h5 => ?_) (fun h5 => ?_)
  · rw [show kib (k, KF) st oz = _ from if_pos (Or.inl h5)]
    refine Ev.aload_0 dX1_keepIfBetter_24 rfl ?_
    refine Ev.iload_1 dX1_keepIfBetter_25 rfl ?_
    refine pw_packLandW_0_1 dX1_keepIfBetter_26 wf_X1_15 ?_
    refine Ev.aload_0 dX1_keepIfBetter_29 rfl ?_
    refine Ev.iload_2 dX1_keepIfBetter_30 rfl ?_
    refine pw_packLandW_0_2 dX1_keepIfBetter_31 wf_X1_19 ?_
    refine Ev.iconst (v := 0) dX1_keepIfBetter_34 (by decide) ?_
    refine Ev.ist3 dX1_keepIfBetter_35 rfl ?_
    exact e_keep_loop 4 0 _ _ (by omega) rfl (Ev.vret dX1_keepIfBetter_59 ⟨rfl, rfl⟩)
  refine Ev.iload_1 dX1_keepIfBetter_8 rfl ?_
  refine Ev.aload_0 dX1_keepIfBetter_9 rfl ?_
  refine Ev.getf cf1 1 (by decide) wf_X1_15 dX1_keepIfBetter_10 rfl rfl ?_
  refine Ev.icmp_ne 59 dX1_keepIfBetter_13 (by decide) (fun h13 => ?_) (fun h13 => ?_)
  · rw [show kib (k, KF) st oz = _ from if_neg (fun q => q.elim h5 (fun q => h13 q.1))]
    refine Ev.vret dX1_keepIfBetter_59 ?_
    exact ⟨rfl, rfl⟩
  refine Ev.iload_2 dX1_keepIfBetter_16 rfl ?_
  refine Ev.aload_0 dX1_keepIfBetter_17 rfl ?_
  refine Ev.getf cf1 2 (by decide) wf_X1_19 dX1_keepIfBetter_18 rfl rfl ?_
  refine Ev.icmp_ge 59 dX1_keepIfBetter_21 (by decide) (fun h21 => ?_) (fun h21 => ?_)
  · rw [show kib (k, KF) st oz = _ from if_neg (fun q => q.elim h5 (fun q => q.2 h21))]
    refine Ev.vret dX1_keepIfBetter_59 ?_
    exact ⟨rfl, rfl⟩
  rw [show kib (k, KF) st oz = _ from if_pos (Or.inr ⟨h13, h21⟩)]
  refine Ev.aload_0 dX1_keepIfBetter_24 rfl ?_
  refine Ev.iload_1 dX1_keepIfBetter_25 rfl ?_
  refine pw_packLandW_0_1 dX1_keepIfBetter_26 wf_X1_15 ?_
  refine Ev.aload_0 dX1_keepIfBetter_29 rfl ?_
  refine Ev.iload_2 dX1_keepIfBetter_30 rfl ?_
  refine pw_packLandW_0_2 dX1_keepIfBetter_31 wf_X1_19 ?_
  refine Ev.iconst (v := 0) dX1_keepIfBetter_34 (by decide) ?_
  refine Ev.ist3 dX1_keepIfBetter_35 rfl ?_
  exact e_keep_loop 4 0 _ _ (by omega) rfl (Ev.vret dX1_keepIfBetter_59 ⟨rfl, rfl⟩)

set_option maxHeartbeats 4000000 in
set_option maxRecDepth 100000 in
theorem e_choose_loop {d m : Nat} {l : Nat → Int32} {LF : Nat → Nat → Int32} {v fr : Nat} {st oz force : Int32} (hv : v < 4) (h32 : fr < 32) (ihm : ∀ (fr : Nat) (st oz : Int32) (k : Nat → Int32) (KF : Nat → Nat → Int32), fr < 32 → Ev (d + m + 1) yX1_chooseFrom cX1_chooseFrom none 0 [some (.ref 0), some (.ref 5), some (.int force), some (.int (nI (v + 1))), some (.int (nI fr)), some (.int st), some (.int oz), none, none, none] [] (packLandW k KF l LF) (Is none (packLandW (chR (vC LF) force m (v + 1) fr st oz (k, KF)).1 (chR (vC LF) force m (v + 1) fr st oz (k, KF)).2 l LF))) : ∀ (n set : Nat) (k : Nat → Int32) (KF : Nat → Nat → Int32) (R : PSt) (x : Option Value), lok [some (.ref 0), some (.ref 5), some (.int force), some (.int (nI v)), some (.int (nI fr)), some (.int st), some (.int oz), some (.int (3 * LF 2 v)), some (.int (nI set)), x] 9 = true → set + n = fr + 1 → chL (fun set S => chB (fun fr1 st1 oz1 S1 => chR (vC LF) force m (v + 1) fr1 st1 oz1 S1) (3 * vC LF 0 v) force v fr st oz set S) n set (k, KF) = R → Ev (d + m + 1 + 1) yX1_chooseFrom cX1_chooseFrom none 35 [some (.ref 0), some (.ref 5), some (.int force), some (.int (nI v)), some (.int (nI fr)), some (.int st), some (.int oz), some (.int (3 * LF 2 v)), some (.int (nI set)), x] [] (packLandW k KF l LF) (Is none (packLandW R.1 R.2 l LF)) := by
  intro n
  induction n with
  | zero =>
    intro set k KF R x hx hk hR
    have hk : set = fr + 1 := by omega
    refine Ev.iload dX1_chooseFrom_35 rfl ?_
    refine Ev.iload dX1_chooseFrom_37 rfl ?_
    refine Ev.icmp_gt 146 dX1_chooseFrom_39 (by decide) (fun h39 => ?_) (fun h39 => ?_)
    · refine Ev.vret dX1_chooseFrom_146 ?_
      exact ⟨rfl, by rw [← hR]; rfl⟩
    · exact absurd (lp_lt (N := fr) rfl (by omega) (by omega)) h39
  | succ n ih =>
    intro set k KF R x hx hk hR
    refine Ev.iload dX1_chooseFrom_35 rfl ?_
    refine Ev.iload dX1_chooseFrom_37 rfl ?_
    refine Ev.icmp_gt 146 dX1_chooseFrom_39 (by decide) (fun h39 => ?_) (fun h39 => ?_)
    · exact absurd h39 (lp_gt (N := fr) rfl (by omega) (by omega))
    refine Ev.iload dX1_chooseFrom_42 rfl ?_
    refine Ev.bipush (v := 32) dX1_chooseFrom_44 (by decide) ?_
    refine Ev.icmp_ge 146 dX1_chooseFrom_46 (by decide) (fun h46 => ?_) (fun h46 => ?_)
    · exact absurd h46 (lp_ge (x := 32) (N := 32) rfl (by omega) (by omega))
    refine Ev.iload dX1_chooseFrom_49 rfl ?_
    refine Ev.aload_0 dX1_chooseFrom_51 rfl ?_
    refine Ev.getf cf1 5 (by decide) wf_X1_28 dX1_chooseFrom_52 rfl rfl ?_
    refine Ev.iload dX1_chooseFrom_55 rfl ?_
    refine Ev.aldn dX1_chooseFrom_57 rfl (by omega) (by decide) ?_
    refine Ev.iadd dX1_chooseFrom_58 ?_
    refine Ev.iload_2 dX1_chooseFrom_59 rfl ?_
    refine kn_X4_liftsAt (e_X4_liftsAt _ _) dX1_chooseFrom_60 (fun D cy s h => h.2.2.2.2.2.2.2.1) (Nat.le_of_ble_eq_true rfl) ?_
    refine Ev.if_ne 70 dX1_chooseFrom_63 (by decide) (fun h63 => ?_) (fun h63 => ?_)
    · refine Ev.iconst (v := 0) dX1_chooseFrom_70 (by decide) ?_
      refine Ev.ist9 dX1_chooseFrom_71 rfl ?_
      refine Ev.iload dX1_chooseFrom_73 rfl ?_
      refine Ev.iload dX1_chooseFrom_75 rfl ?_
      refine Ev.iconst (v := -1) dX1_chooseFrom_77 (by decide) ?_
      refine Ev.ixor dX1_chooseFrom_78 ?_
      refine Ev.iand dX1_chooseFrom_79 ?_
      refine Ev.if_ne 140 dX1_chooseFrom_80 (by decide) (fun h80 => ?_) (fun h80 => ?_)
      · have eb : (fun set S => chB (fun fr1 st1 oz1 S1 => chR (vC LF) force m (v + 1) fr1 st1 oz1 S1) (3 * vC LF 0 v) force v fr st oz set S) set (k, KF) = (k, KF) := if_neg (fun q => h80 q.1)
        first | refine Ev.incn8 dX1_chooseFrom_140 rfl ?_ | refine Ev.inc8 dX1_chooseFrom_140 rfl ?_
        refine Ev.goto 35 dX1_chooseFrom_143 (by decide) ?_
        exact ih (set + 1) _ _ R _ rfl (by omega) ((congrArg (chL (fun set S => chB (fun fr1 st1 oz1 S1 => chR (vC LF) force m (v + 1) fr1 st1 oz1 S1) (3 * vC LF 0 v) force v fr st oz set S) n (set + 1)) eb).symm.trans hR)
      refine Ev.iload dX1_chooseFrom_83 rfl ?_
      refine Ev.if_ne 93 dX1_chooseFrom_85 (by decide) (fun hcst => ?_) (fun hcst => ?_)
      · exact absurd hcst (by decide)
      refine Ev.iload dX1_chooseFrom_88 rfl ?_
      refine Ev.if_ne 140 dX1_chooseFrom_90 (by decide) (fun h90 => ?_) (fun h90 => ?_)
      · have eb : (fun set S => chB (fun fr1 st1 oz1 S1 => chR (vC LF) force m (v + 1) fr1 st1 oz1 S1) (3 * vC LF 0 v) force v fr st oz set S) set (k, KF) = (k, KF) := if_neg (fun q => q.2.elim h63 h90)
        first | refine Ev.incn8 dX1_chooseFrom_140 rfl ?_ | refine Ev.inc8 dX1_chooseFrom_140 rfl ?_
        refine Ev.goto 35 dX1_chooseFrom_143 (by decide) ?_
        exact ih (set + 1) _ _ R _ rfl (by omega) ((congrArg (chL (fun set S => chB (fun fr1 st1 oz1 S1 => chR (vC LF) force m (v + 1) fr1 st1 oz1 S1) (3 * vC LF 0 v) force v fr st oz set S) n (set + 1)) eb).symm.trans hR)
      refine Ev.aload_0 dX1_chooseFrom_93 rfl ?_
      refine Ev.getf cf1 3 (by decide) wf_X1_22 dX1_chooseFrom_94 rfl rfl ?_
      refine Ev.iload_3 dX1_chooseFrom_97 rfl ?_
      refine Ev.iload dX1_chooseFrom_98 rfl ?_
      refine aw_packLandW_2 dX1_chooseFrom_100 (by omega) ?_
      refine Ev.aload_0 dX1_chooseFrom_101 rfl ?_
      refine Ev.aload_1 dX1_chooseFrom_102 rfl ?_
      refine Ev.iload_2 dX1_chooseFrom_103 rfl ?_
      refine Ev.iload_3 dX1_chooseFrom_104 rfl ?_
      refine Ev.iconst (v := 1) dX1_chooseFrom_105 (by decide) ?_
      refine Ev.iadd dX1_chooseFrom_106 ?_
      refine Ev.iload dX1_chooseFrom_107 rfl ?_
      refine Ev.iload dX1_chooseFrom_109 rfl ?_
      refine Ev.iconst (v := -1) dX1_chooseFrom_111 (by decide) ?_
      refine Ev.ixor dX1_chooseFrom_112 ?_
      refine Ev.iand dX1_chooseFrom_113 ?_
      refine Ev.iload dX1_chooseFrom_114 rfl ?_
      refine Ev.iload dX1_chooseFrom_116 rfl ?_
      refine Ev.if_eq 125 dX1_chooseFrom_118 (by decide) (fun hcst => ?_) (fun hcst => ?_)
      rotate_left
      · exact absurd hcst (by decide)
      refine Ev.iconst (v := 0) dX1_chooseFrom_125 (by decide) ?_
      refine Ev.iadd dX1_chooseFrom_126 ?_
      refine Ev.iload dX1_chooseFrom_127 rfl ?_
      refine Ev.aload_0 dX1_chooseFrom_129 rfl ?_
      refine Ev.getf cf1 4 (by decide) wf_X1_25 dX1_chooseFrom_130 rfl rfl ?_
      refine Ev.iload dX1_chooseFrom_133 rfl ?_
      refine Ev.aldn dX1_chooseFrom_135 rfl (by omega) (by decide) ?_
      refine Ev.iadd dX1_chooseFrom_136 ?_
      rw [nI_1 v, (dif_ok (fr := fr) (set := set) h32 (by omega)).1]
      refine k_X1_chooseFrom (ihm (dif fr set) _ _ k (up2 KF 3 v (nI set)) (dif_ok h32 (by omega)).2) dX1_chooseFrom_137 wl_X1_40 rfl (Nat.le_of_ble_eq_true rfl) ?_
      first
        | have eb : (fun set S => chB (fun fr1 st1 oz1 S1 => chR (vC LF) force m (v + 1) fr1 st1 oz1 S1) (3 * vC LF 0 v) force v fr st oz set S) set (k, KF) = chR (vC LF) force m (v + 1) (dif fr set) (st + 1) (oz + KF 4 set) (k, up2 KF 3 v (nI set)) := (if_pos ⟨h80, Or.inl h63⟩).trans (by show chR _ _ _ _ _ (st + (if lifs (3 * LF 2 v + KF 5 set) force = 0 then 1 else 0)) _ _ = _; rw [if_pos h63])
        | have eb : (fun set S => chB (fun fr1 st1 oz1 S1 => chR (vC LF) force m (v + 1) fr1 st1 oz1 S1) (3 * vC LF 0 v) force v fr st oz set S) set (k, KF) = chR (vC LF) force m (v + 1) (dif fr set) (st + 0) (oz + KF 4 set) (k, up2 KF 3 v (nI set)) := (if_pos ⟨h80, Or.inr h90⟩).trans (by show chR _ _ _ _ _ (st + (if lifs (3 * LF 2 v + KF 5 set) force = 0 then 1 else 0)) _ _ = _; rw [if_neg h63])
      first | refine Ev.incn8 dX1_chooseFrom_140 rfl ?_ | refine Ev.inc8 dX1_chooseFrom_140 rfl ?_
      refine Ev.goto 35 dX1_chooseFrom_143 (by decide) ?_
      exact ih (set + 1) _ _ R _ rfl (by omega) ((congrArg (chL (fun set S => chB (fun fr1 st1 oz1 S1 => chR (vC LF) force m (v + 1) fr1 st1 oz1 S1) (3 * vC LF 0 v) force v fr st oz set S) n (set + 1)) eb).symm.trans hR)
    refine Ev.iconst (v := 1) dX1_chooseFrom_66 (by decide) ?_
    refine Ev.goto 71 dX1_chooseFrom_67 (by decide) ?_
    refine Ev.ist9 dX1_chooseFrom_71 rfl ?_
    refine Ev.iload dX1_chooseFrom_73 rfl ?_
    refine Ev.iload dX1_chooseFrom_75 rfl ?_
    refine Ev.iconst (v := -1) dX1_chooseFrom_77 (by decide) ?_
    refine Ev.ixor dX1_chooseFrom_78 ?_
    refine Ev.iand dX1_chooseFrom_79 ?_
    refine Ev.if_ne 140 dX1_chooseFrom_80 (by decide) (fun h80 => ?_) (fun h80 => ?_)
    · have eb : (fun set S => chB (fun fr1 st1 oz1 S1 => chR (vC LF) force m (v + 1) fr1 st1 oz1 S1) (3 * vC LF 0 v) force v fr st oz set S) set (k, KF) = (k, KF) := if_neg (fun q => h80 q.1)
      first | refine Ev.incn8 dX1_chooseFrom_140 rfl ?_ | refine Ev.inc8 dX1_chooseFrom_140 rfl ?_
      refine Ev.goto 35 dX1_chooseFrom_143 (by decide) ?_
      exact ih (set + 1) _ _ R _ rfl (by omega) ((congrArg (chL (fun set S => chB (fun fr1 st1 oz1 S1 => chR (vC LF) force m (v + 1) fr1 st1 oz1 S1) (3 * vC LF 0 v) force v fr st oz set S) n (set + 1)) eb).symm.trans hR)
    refine Ev.iload dX1_chooseFrom_83 rfl ?_
    refine Ev.if_ne 93 dX1_chooseFrom_85 (by decide) (fun hcst => ?_) (fun hcst => ?_)
    rotate_left
    · exact absurd hcst (by decide)
    refine Ev.aload_0 dX1_chooseFrom_93 rfl ?_
    refine Ev.getf cf1 3 (by decide) wf_X1_22 dX1_chooseFrom_94 rfl rfl ?_
    refine Ev.iload_3 dX1_chooseFrom_97 rfl ?_
    refine Ev.iload dX1_chooseFrom_98 rfl ?_
    refine aw_packLandW_2 dX1_chooseFrom_100 (by omega) ?_
    refine Ev.aload_0 dX1_chooseFrom_101 rfl ?_
    refine Ev.aload_1 dX1_chooseFrom_102 rfl ?_
    refine Ev.iload_2 dX1_chooseFrom_103 rfl ?_
    refine Ev.iload_3 dX1_chooseFrom_104 rfl ?_
    refine Ev.iconst (v := 1) dX1_chooseFrom_105 (by decide) ?_
    refine Ev.iadd dX1_chooseFrom_106 ?_
    refine Ev.iload dX1_chooseFrom_107 rfl ?_
    refine Ev.iload dX1_chooseFrom_109 rfl ?_
    refine Ev.iconst (v := -1) dX1_chooseFrom_111 (by decide) ?_
    refine Ev.ixor dX1_chooseFrom_112 ?_
    refine Ev.iand dX1_chooseFrom_113 ?_
    refine Ev.iload dX1_chooseFrom_114 rfl ?_
    refine Ev.iload dX1_chooseFrom_116 rfl ?_
    refine Ev.if_eq 125 dX1_chooseFrom_118 (by decide) (fun hcst => ?_) (fun hcst => ?_)
    · exact absurd hcst (by decide)
    refine Ev.iconst (v := 1) dX1_chooseFrom_121 (by decide) ?_
    refine Ev.goto 126 dX1_chooseFrom_122 (by decide) ?_
    refine Ev.iadd dX1_chooseFrom_126 ?_
    refine Ev.iload dX1_chooseFrom_127 rfl ?_
    refine Ev.aload_0 dX1_chooseFrom_129 rfl ?_
    refine Ev.getf cf1 4 (by decide) wf_X1_25 dX1_chooseFrom_130 rfl rfl ?_
    refine Ev.iload dX1_chooseFrom_133 rfl ?_
    refine Ev.aldn dX1_chooseFrom_135 rfl (by omega) (by decide) ?_
    refine Ev.iadd dX1_chooseFrom_136 ?_
    rw [nI_1 v, (dif_ok (fr := fr) (set := set) h32 (by omega)).1]
    refine k_X1_chooseFrom (ihm (dif fr set) _ _ k (up2 KF 3 v (nI set)) (dif_ok h32 (by omega)).2) dX1_chooseFrom_137 wl_X1_40 rfl (Nat.le_of_ble_eq_true rfl) ?_
    first
      | have eb : (fun set S => chB (fun fr1 st1 oz1 S1 => chR (vC LF) force m (v + 1) fr1 st1 oz1 S1) (3 * vC LF 0 v) force v fr st oz set S) set (k, KF) = chR (vC LF) force m (v + 1) (dif fr set) (st + 1) (oz + KF 4 set) (k, up2 KF 3 v (nI set)) := (if_pos ⟨h80, Or.inl h63⟩).trans (by show chR _ _ _ _ _ (st + (if lifs (3 * LF 2 v + KF 5 set) force = 0 then 1 else 0)) _ _ = _; rw [if_pos h63])
      | have eb : (fun set S => chB (fun fr1 st1 oz1 S1 => chR (vC LF) force m (v + 1) fr1 st1 oz1 S1) (3 * vC LF 0 v) force v fr st oz set S) set (k, KF) = chR (vC LF) force m (v + 1) (dif fr set) (st + 0) (oz + KF 4 set) (k, up2 KF 3 v (nI set)) := (if_pos ⟨h80, Or.inr h90⟩).trans (by show chR _ _ _ _ _ (st + (if lifs (3 * LF 2 v + KF 5 set) force = 0 then 1 else 0)) _ _ = _; rw [if_neg h63])
    first | refine Ev.incn8 dX1_chooseFrom_140 rfl ?_ | refine Ev.inc8 dX1_chooseFrom_140 rfl ?_
    refine Ev.goto 35 dX1_chooseFrom_143 (by decide) ?_
    exact ih (set + 1) _ _ R _ rfl (by omega) ((congrArg (chL (fun set S => chB (fun fr1 st1 oz1 S1 => chR (vC LF) force m (v + 1) fr1 st1 oz1 S1) (3 * vC LF 0 v) force v fr st oz set S) n (set + 1)) eb).symm.trans hR)

set_option maxHeartbeats 4000000 in
set_option maxRecDepth 100000 in
theorem e_X1_chooseFrom {d : Nat} {l : Nat → Int32} {LF : Nat → Nat → Int32} {V N : Nat} (ok : LOK l LF V N) {force : Int32} : ∀ (m v fr : Nat) (st oz : Int32) (k : Nat → Int32) (KF : Nat → Nat → Int32), v + m = V → fr < 32 → Ev (d + m + 1) yX1_chooseFrom cX1_chooseFrom none 0 [some (.ref 0), some (.ref 5), some (.int force), some (.int (nI v)), some (.int (nI fr)), some (.int st), some (.int oz), none, none, none] [] (packLandW k KF l LF) (Is none (packLandW (chR (vC LF) force m v fr st oz (k, KF)).1 (chR (vC LF) force m v fr st oz (k, KF)).2 l LF)) := by
  intro m
  induction m with
  | zero =>
    intro v fr st oz k KF hm h32
    refine Ev.iload_3 dX1_chooseFrom_0 rfl ?_
    refine Ev.aload_1 dX1_chooseFrom_1 rfl ?_
    refine Ev.getf cf0 0 (by decide) wf_X1_58 dX1_chooseFrom_2 rfl rfl ?_
    refine Ev.icmp_ge 13 dX1_chooseFrom_5 (by decide) (fun h5 => ?_) (fun h5 => ?_)
    · refine Ev.aload_0 dX1_chooseFrom_13 rfl ?_
      refine Ev.iload dX1_chooseFrom_14 rfl ?_
      refine Ev.iload dX1_chooseFrom_16 rfl ?_
      refine k_X1_keepIfBetter (e_X1_keepIfBetter _ _) dX1_chooseFrom_18 wl_X1_61 rfl (Nat.le_of_ble_eq_true rfl) ?_
      refine Ev.vret dX1_chooseFrom_21 ?_
      exact ⟨rfl, rfl⟩
    · exact absurd (lp_le ok.1 (by omega) (by have := ok.2.2.1; omega)) h5
  | succ m ih =>
    intro v fr st oz k KF hm h32
    refine Ev.iload_3 dX1_chooseFrom_0 rfl ?_
    refine Ev.aload_1 dX1_chooseFrom_1 rfl ?_
    refine Ev.getf cf0 0 (by decide) wf_X1_58 dX1_chooseFrom_2 rfl rfl ?_
    refine Ev.icmp_ge 13 dX1_chooseFrom_5 (by decide) (fun h5 => ?_) (fun h5 => ?_)
    · exact absurd h5 (lp_ge ok.1 (by omega) (by have := ok.2.2.1; omega))
    refine Ev.iload_3 dX1_chooseFrom_8 rfl ?_
    refine Ev.iconst (v := 4) dX1_chooseFrom_9 (by decide) ?_
    refine Ev.icmp_lt 22 dX1_chooseFrom_10 (by decide) (fun h10 => ?_) (fun h10 => ?_)
    · refine Ev.iconst (v := 3) dX1_chooseFrom_22 (by decide) ?_
      refine Ev.aload_1 dX1_chooseFrom_23 rfl ?_
      refine Ev.getf cf0 2 (by decide) wf_X1_65 dX1_chooseFrom_24 rfl rfl ?_
      refine Ev.iload_3 dX1_chooseFrom_27 rfl ?_
      refine Ev.aldn dX1_chooseFrom_28 rfl (by have := ok.2.2.1; omega) (by decide) ?_
      refine Ev.imul dX1_chooseFrom_29 ?_
      refine Ev.ist7 dX1_chooseFrom_30 rfl ?_
      refine Ev.iconst (v := 0) dX1_chooseFrom_32 (by decide) ?_
      refine Ev.ist8 dX1_chooseFrom_33 rfl ?_
      exact e_choose_loop (by have := ok.2.2.1; omega) h32 (fun fr st oz k KF h => ih (v + 1) fr st oz k KF (by omega) h) (fr + 1) 0 k KF _ _ rfl (by omega) rfl
    · exact absurd (nI_lt (a := v) (b := 4) (by have := ok.2.2.1; omega) (by omega)) h10

set_option maxHeartbeats 4000000 in
set_option maxRecDepth 100000 in
theorem e_search_1 {d : Nat} {k l : Nat → Int32} {LF : Nat → Nat → Int32} {Q : Option Value → List Ce → Prop} {V N : Nat} (ok : LOK l LF V N) {force : Int32}  : ∀ (n : Nat) (j : Nat) (KF R : Nat → Nat → Int32), j + n = 32 → wgA (vC LF) N n j KF = R → Ev (d + 2) yX1_search cX1_search none 20 [some (.ref 0), some (.ref 5), some (.int force), some (.int (nI 32))] [] (packLandW k R l LF) Q → Ev (d + 2) yX1_search cX1_search none 2 [some (.ref 0), some (.ref 5), some (.int force), some (.int (nI j))] [] (packLandW k KF l LF) Q := by
  intro n
  induction n with
  | zero =>
    intro j KF R hk hR K
    have hk : j = 32 := by omega
    subst hk
    have hR : KF = R := hR
    subst hR
    refine Ev.iload_3 dX1_search_2 rfl ?_
    refine Ev.bipush (v := 32) dX1_search_3 (by decide) ?_
    refine Ev.icmp_ge 20 dX1_search_5 (by decide) (fun h5 => ?_) (fun h5 => ?_)
    · exact K
    · exact absurd (lp_le (x := 32) (N := 32) rfl (by omega) (by omega)) h5
  | succ n ih =>
    intro j KF R hk hR K
    refine Ev.iload_3 dX1_search_2 rfl ?_
    refine Ev.bipush (v := 32) dX1_search_3 (by decide) ?_
    refine Ev.icmp_ge 20 dX1_search_5 (by decide) (fun h5 => ?_) (fun h5 => ?_)
    · exact absurd h5 (lp_ge (x := 32) (N := 32) rfl (by omega) (by omega))
    refine Ev.aload_0 dX1_search_8 rfl ?_
    refine Ev.aload_1 dX1_search_9 rfl ?_
    refine Ev.iload_3 dX1_search_10 rfl ?_
    refine k_X1_weigh (e_X1_weigh ok (by omega)) dX1_search_11 wl_X1_31 rfl (Nat.le_of_ble_eq_true rfl) ?_
    first | refine Ev.incn3 dX1_search_14 rfl ?_ | refine Ev.inc3 dX1_search_14 rfl ?_
    refine Ev.goto 2 dX1_search_17 (by decide) ?_
    exact ih (j + 1) _ R (by omega) (by rw [← hR]; rfl) K

set_option maxHeartbeats 4000000 in
set_option maxRecDepth 100000 in
theorem e_search_2 {d : Nat} {k l : Nat → Int32} {LF : Nat → Nat → Int32} {Q : Option Value → List Ce → Prop} {force : Int32}  : ∀ (n : Nat) (j : Nat) (KF R : Nat → Nat → Int32), j + n = 4 → z4 n j KF = R → Ev (d + 2) yX1_search cX1_search none 47 [some (.ref 0), some (.ref 5), some (.int force), some (.int (nI 4))] [] (packLandW k R l LF) Q → Ev (d + 2) yX1_search cX1_search none 22 [some (.ref 0), some (.ref 5), some (.int force), some (.int (nI j))] [] (packLandW k KF l LF) Q := by
  intro n
  induction n with
  | zero =>
    intro j KF R hk hR K
    have hk : j = 4 := by omega
    subst hk
    have hR : KF = R := hR
    subst hR
    refine Ev.iload_3 dX1_search_22 rfl ?_
    refine Ev.iconst (v := 4) dX1_search_23 (by decide) ?_
    refine Ev.icmp_ge 47 dX1_search_24 (by decide) (fun h24 => ?_) (fun h24 => ?_)
    · exact K
    · exact absurd (lp_le (x := 4) (N := 4) rfl (by omega) (by omega)) h24
  | succ n ih =>
    intro j KF R hk hR K
    refine Ev.iload_3 dX1_search_22 rfl ?_
    refine Ev.iconst (v := 4) dX1_search_23 (by decide) ?_
    refine Ev.icmp_ge 47 dX1_search_24 (by decide) (fun h24 => ?_) (fun h24 => ?_)
    · exact absurd h24 (lp_ge (x := 4) (N := 4) rfl (by omega) (by omega))
    refine Ev.aload_0 dX1_search_27 rfl ?_
    refine Ev.getf cf1 3 (by decide) wf_X1_22 dX1_search_28 rfl rfl ?_
    refine Ev.iload_3 dX1_search_31 rfl ?_
    refine Ev.iconst (v := 0) dX1_search_32 (by decide) ?_
    refine aw_packLandW_2 dX1_search_33 (by omega) ?_
    refine Ev.aload_0 dX1_search_34 rfl ?_
    refine Ev.getf cf1 0 (by decide) wf_X1_9 dX1_search_35 rfl rfl ?_
    refine Ev.iload_3 dX1_search_38 rfl ?_
    refine Ev.iconst (v := 0) dX1_search_39 (by decide) ?_
    refine aw_packLandW_1 dX1_search_40 (by omega) ?_
    first | refine Ev.incn3 dX1_search_41 rfl ?_ | refine Ev.inc3 dX1_search_41 rfl ?_
    refine Ev.goto 22 dX1_search_44 (by decide) ?_
    exact ih (j + 1) _ R (by omega) (by rw [← hR]; rfl) K

set_option maxHeartbeats 4000000 in
set_option maxRecDepth 100000 in
theorem e_X1_search {d : Nat} {k l : Nat → Int32} {KF LF : Nat → Nat → Int32} {V N : Nat} (ok : LOK l LF V N) (force : Int32) : Ev (d + V + 2) yX1_search cX1_search none 0 [some (.ref 0), some (.ref 5), some (.int force), none] [] (packLandW k KF l LF) (Is none (packLandW (srch (vC LF) V N force (k, KF)).1 (srch (vC LF) V N force (k, KF)).2 l LF)) := by
  refine Ev.iconst (v := 0) dX1_search_0 (by decide) ?_
  refine Ev.ist3 dX1_search_1 rfl ?_
  refine e_search_1 ok 32 0 _ _ (by omega) rfl ?_
  refine Ev.iconst (v := 0) dX1_search_20 (by decide) ?_
  refine Ev.ist3 dX1_search_21 rfl ?_
  refine e_search_2 4 0 _ _ (by omega) rfl ?_
  refine Ev.aload_0 dX1_search_47 rfl ?_
  refine Ev.iconst (v := -1) dX1_search_48 (by decide) ?_
  refine pw_packLandW_0_1 dX1_search_49 wf_X1_15 ?_
  refine Ev.aload_0 dX1_search_52 rfl ?_
  refine Ev.iconst (v := 0) dX1_search_53 (by decide) ?_
  refine pw_packLandW_0_2 dX1_search_54 wf_X1_19 ?_
  refine Ev.aload_0 dX1_search_57 rfl ?_
  refine Ev.aload_1 dX1_search_58 rfl ?_
  refine Ev.iload_2 dX1_search_59 rfl ?_
  refine Ev.iconst (v := 0) dX1_search_60 (by decide) ?_
  refine Ev.iconst (v := 1) dX1_search_61 (by decide) ?_
  refine Ev.aload_1 dX1_search_62 rfl ?_
  refine Ev.getf cf0 1 (by decide) wf_X1_35 dX1_search_63 rfl rfl ?_
  refine Ev.ishl dX1_search_66 ?_
  refine Ev.iconst (v := 1) dX1_search_67 (by decide) ?_
  refine Ev.isub dX1_search_68 ?_
  refine Ev.iconst (v := 0) dX1_search_69 (by decide) ?_
  refine Ev.iconst (v := 0) dX1_search_70 (by decide) ?_
  rw [ok.2.1, (pow_ok ok.2.2.2.1).1]
  refine k_X1_chooseFrom (e_X1_chooseFrom (d := d) ok V 0 _ 0 0 _ _ (by omega) (pow_ok ok.2.2.2.1).2) dX1_search_71 wl_X1_40 rfl (Nat.le_of_ble_eq_true rfl) ?_
  refine Ev.vret dX1_search_74 ?_
  exact ⟨rfl, rfl⟩
