/-! the page, letter by letter -/
theorem ch_eq {n : Nat} (h : n < 128) : isdg (nI n) 0 9 = wtn (nI n - 48) 0 9 ∧ isdg (nI n) 1 9 = wtn (nI n - 48) 1 9 ∧ isdg (nI n) 0 4 = wtn (nI n - 48) 0 4 ∧ kix (nI n) = mkb (nI n) ∧ (kix (nI n) < 0 ↔ mkb (nI n) = -1) := by
  have q : ∀ n : Fin 128, isdg (nI n.val) 0 9 = wtn (nI n.val - 48) 0 9 ∧ isdg (nI n.val) 1 9 = wtn (nI n.val - 48) 1 9 ∧ isdg (nI n.val) 0 4 = wtn (nI n.val - 48) 0 4 ∧ kix (nI n.val) = mkb (nI n.val) ∧ (kix (nI n.val) < 0 ↔ mkb (nI n.val) = -1) := by decide +kernel
  exact q ⟨n, h⟩
theorem ch_hm {n V : Nat} (h : n < 128) (hV : V ≤ 4) (h1 : 1 ≤ V) : isdg (nI n) 0 (nI V - 1) = wtn (nI n - 48) 0 (nI V - 1) := by
  have q : ∀ n : Fin 128, ∀ V : Fin 5, 1 ≤ V.val → isdg (nI n.val) 0 (nI V.val - 1) = wtn (nI n.val - 48) 0 (nI V.val - 1) := by decide +kernel
  exact q ⟨n, h⟩ ⟨V, by omega⟩ h1
theorem ch_dg {n : Nat} (h : n < 128) : (¬ wtn (nI n - 48) 0 9 = 0 → ∃ d, d ≤ 9 ∧ nI n - 48 = nI d) ∧ (¬ wtn (nI n - 48) 1 9 = 0 → ∃ d, 1 ≤ d ∧ d ≤ 9 ∧ nI n - 48 = nI d) ∧ (¬ wtn (nI n - 48) 0 4 = 0 → ∃ d, d ≤ 4 ∧ nI n - 48 = nI d) ∧ (¬ mkb (nI n) = -1 → ∃ d, d ≤ 4 ∧ mkb (nI n) = nI d) := by
  have q : ∀ n : Fin 128, (¬ wtn (nI n.val - 48) 0 9 = 0 → n.val - 48 ≤ 9 ∧ nI n.val - 48 = nI (n.val - 48)) ∧ (¬ wtn (nI n.val - 48) 1 9 = 0 → 1 ≤ n.val - 48 ∧ n.val - 48 ≤ 9 ∧ nI n.val - 48 = nI (n.val - 48)) ∧ (¬ wtn (nI n.val - 48) 0 4 = 0 → n.val - 48 ≤ 4 ∧ nI n.val - 48 = nI (n.val - 48)) ∧ (¬ mkb (nI n.val) = -1 → (mkb (nI n.val)).toNatClampNeg ≤ 4 ∧ mkb (nI n.val) = nI (mkb (nI n.val)).toNatClampNeg) := by decide +kernel
  obtain ⟨a, b, c, d⟩ := q ⟨n, h⟩
  exact ⟨fun z => ⟨_, a z⟩, fun z => ⟨_, b z⟩, fun z => ⟨_, c z⟩, fun z => ⟨_, d z⟩⟩
theorem ch_vl {n V : Nat} (h : n < 128) (hV : V ≤ 4) (h1 : 1 ≤ V) (hw : ¬ wtn (nI n - 48) 0 (nI V - 1) = 0) : ∃ d, d < V ∧ nI n - 48 = nI d := by
  have q : ∀ n : Fin 128, ∀ V : Fin 5, 1 ≤ V.val → ¬ wtn (nI n.val - 48) 0 (nI V.val - 1) = 0 → n.val - 48 < V.val ∧ nI n.val - 48 = nI (n.val - 48) := by decide +kernel
  exact ⟨_, q ⟨n, h⟩ ⟨V, by omega⟩ h1 hw⟩
/-- nothing stands behind the last letter -/
theorem at_end {lt : Nat → Int32} {L k : Nat} (h : L ≤ k) : atv lt L k = 0 := if_neg (by omega)
theorem at_in {lt : Nat → Int32} {L k : Nat} (h : k < L) : atv lt L k = lt k := if_pos h
theorem fig_end {lt : Nat → Int32} {L k : Nat} {lo hi : Int32} (h : L ≤ k) (hlo : 0 ≤ lo) : fig lt L k lo hi = 0 := by
  unfold fig
  rw [at_end h]
  refine wtn_is0 (Or.inl ?_)
  rw [i32_lt]
  rw [i32_le] at hlo
  have e1 : ((0 : Int32) - 48).toInt = -48 := by decide
  have e2 : (0 : Int32).toInt = 0 := by decide
  omega
section SC
variable {lt : Nat → Int32} {L : Nat}
def PP (L a b q : Nat) (pg : Nat → Int32) : Prop := pg 1 = nI L ∧ pg 2 = nI a ∧ pg 3 = nI b ∧ pg 4 = nI q
def wok (lt : Nat → Int32) (V u : Nat) : Prop := (∃ c, c ≤ 4 ∧ mkb (lt (2 * V + 5 * u)) = nI c) ∧ (∃ o, 1 ≤ o ∧ o ≤ 9 ∧ lt (2 * V + 5 * u + 1) - 48 = nI o) ∧ (∃ v, v < V ∧ lt (2 * V + 5 * u + 2) - 48 = nI v) ∧ ∃ p, p ≤ 4 ∧ lt (2 * V + 5 * u + 3) - 48 = nI p
def TAB (lt : Nat → Int32) (L V N : Nat) : Prop := L + 1 = 2 * V + 5 * N ∧ 2 ≤ V ∧ V ≤ 4 ∧ 1 ≤ N ∧ N ≤ 5 ∧ (∀ v, v < V → ∃ b, b ≤ 9 ∧ lt (2 * v) - 48 = nI b) ∧ ∀ u, u < N → wok lt V u
def OUT (lt : Nat → Int32) (L : Nat) (S : Int32 × (Nat → Int32)) (T : Nat × (Nat → Int32)) : Prop := S.1 = nI T.1 ∧ S.2 1 = nI L ∧ T.1 ≤ L ∧ ((¬ (S.1 = nI L ∧ S.2 4 = 6) ∧ T.2 20 = 0) ∨ (S.1 = nI L ∧ S.2 4 = 6 ∧ ¬ T.2 20 = 0 ∧ ∃ V N, S.2 2 = nI V ∧ S.2 3 = nI N ∧ T.2 21 = nI V ∧ T.2 22 = nI N ∧ TAB lt L V N))
theorem sc_bad {n i : Nat} {pg : Nat → Int32} (h1 : pg 1 = nI L) (h : (db pg (lt i)).1 = 7) : (scF lt (n + 1) i pg).1 = nI i ∧ (scF lt (n + 1) i pg).2 1 = nI L ∧ ¬ (scF lt (n + 1) i pg).2 4 = 6 := by
  rw [scF, if_pos h]
  refine ⟨rfl, ?_, ?_⟩
  · show upd (db pg (lt i)).2 4 (db pg (lt i)).1 1 = _
    rw [pk_un (by decide), db_1, h1]
  · show ¬ upd (db pg (lt i)).2 4 (db pg (lt i)).1 4 = 6
    rw [pk_us, h]; decide
theorem out_bad {n i : Nat} {pg : Nat → Int32} {g : Nat → Int32} (h1 : pg 1 = nI L) (hi : i ≤ L) (h : (db pg (lt i)).1 = 7) (hg : g 20 = 0) : OUT lt L (scF lt (n + 1) i pg) (i, g) := by
  obtain ⟨a, b, c⟩ := sc_bad (n := n) h1 h
  exact ⟨a, b, hi, Or.inl ⟨fun z => c z.2, hg⟩⟩
theorem out_end {a b q i : Nat} {pg g : Nat → Int32} (hp : PP L a b q pg) (hi : i = L) (hq : ¬ q = 6) (hq7 : q < 7) (hg : g 20 = 0) : OUT lt L (scF lt (L - i) i pg) (i, g) := by
  subst hi
  rw [Nat.sub_self, scF]
  exact ⟨hp.1, hp.1, Nat.le_refl _, Or.inl ⟨fun z => by
    have z : pg 4 = 6 := z.2
    rw [hp.2.2.2] at z
    exact hq ((nI_eq (b := 6) (by omega) (by decide)).mp z), hg⟩⟩
theorem db_at {a b q : Nat} {pg : Nat → Int32} {c : Int32} (hp : PP L a b q pg) (hq : q < 7) : db pg c = if q = 0 then bB pg c else if q = 1 then (bS pg c, pg) else if q = 2 then ((if kix c < 0 then 7 else 3), pg) else if q = 3 then ((if isdg c 1 9 = 0 then 7 else 4), pg) else if q = 4 then ((if isdg c 0 (pg 2 - 1) = 0 then 7 else 5), pg) else if q = 5 then bP pg c else ((if c = 44 ∧ ¬ 5 ≤ pg 3 then 2 else 7), pg) := by
  unfold db
  rw [hp.2.2.2]
  match q, hq with
  | 0, _ => rfl
  | 1, _ => rfl
  | 2, _ => rfl
  | 3, _ => rfl
  | 4, _ => rfl
  | 5, _ => rfl
  | 6, _ => rfl
theorem pp_4 {a b q q' : Nat} {pg : Nat → Int32} (hp : PP L a b q pg) : PP L a b q' (upd pg 4 (nI q')) := ⟨(pk_un (by decide)).trans hp.1, (pk_un (by decide)).trans hp.2.1, (pk_un (by decide)).trans hp.2.2.1, pk_us⟩
theorem sc_ok {n i q' : Nat} {pg : Nat → Int32} (h : (db pg (lt i)).1 = nI q') (hq : q' < 7) : scF lt (n + 1) i pg = scF lt n (i + 1) (upd (db pg (lt i)).2 4 (nI q')) := by
  rw [scF, if_neg (by rw [h]; exact fun z => absurd ((nI_eq (b := 7) (by omega) (by decide)).mp z) (by omega)), h]
theorem left_1 {k : Nat} (h : k < L) : L - k = L - (k + 1) + 1 := by omega
/-- one weight -/
theorem rw_one (hc : ∀ j, j < L → ∃ n, n < 128 ∧ lt j = nI n) {V : Nat} (h2 : 2 ≤ V) (h4 : V ≤ 4) (hb : ∀ v, v < V → ∃ b, b ≤ 9 ∧ lt (2 * v) - 48 = nI b) (n k w : Nat) (pg g : Nat → Int32) (hw : w + (n + 1) = 5) (hk : k = 2 * V + 5 * w) (hkL : k ≤ L) (hp : PP L V w 2 pg) (h21 : g 21 = nI V) (h22 : g 22 = nI w) (h20 : g 20 = 0) (hu : ∀ u, u < w → wok lt V u)
    (ih : ¬ n = 0 → ∀ (pg' g' : Nat → Int32), k + 5 ≤ L → PP L V (w + 1) 2 pg' → g' 21 = nI V → g' 22 = nI (w + 1) → g' 20 = 0 → (∀ u, u < w + 1 → wok lt V u) → OUT lt L (scF lt (L - (k + 5)) (k + 5) pg') (rwF lt L n (k + 5) g')) : OUT lt L (scF lt (L - k) k pg) (rwF lt L (n + 1) k g) := by
  rw [rwF]
  -- the kind
  rcases Nat.lt_or_ge k L with l0 | l0
  case inr =>
    rw [at_end l0, if_pos (by decide)]
    exact out_end hp (by omega) (by decide) (by decide) h20
  obtain ⟨c0, hc0, e0⟩ := hc k l0
  rw [at_in l0, left_1 l0]
  have d0 := db_at (c := lt k) hp (by decide)
  rw [if_neg (by decide), if_neg (by decide), if_pos rfl] at d0
  by_cases q0 : mkb (lt k) = -1
  · rw [if_pos q0]
    refine out_bad hp.1 hkL ?_ h20
    rw [d0]
    exact if_pos (by rw [e0] at q0 ⊢; exact (ch_eq hc0).2.2.2.2.mpr q0)
  rw [if_neg q0, sc_ok (q' := 3) (by rw [d0]; exact if_neg (by rw [e0] at q0 ⊢; exact fun z => q0 ((ch_eq hc0).2.2.2.2.mp z))) (by decide), d0]
  have p1 : PP L V w 3 (upd pg 4 (nI 3)) := pp_4 hp
  show OUT lt L (scF lt (L - (k + 1)) (k + 1) (upd pg 4 (nI 3))) _
  generalize upd pg 4 (nI 3) = pg1 at p1 ⊢
  -- the ounces
  rcases Nat.lt_or_ge (k + 1) L with l1 | l1
  case inr =>
    rw [fig_end (lt := lt) l1 (by decide), if_pos rfl]
    exact out_end p1 (by omega) (by decide) (by decide) h20
  obtain ⟨c1, hc1, e1⟩ := hc (k + 1) l1
  have f1 : fig lt L (k + 1) 1 9 = wtn (lt (k + 1) - 48) 1 9 := by rw [fig, at_in l1]
  rw [f1, left_1 l1]
  have d1 := db_at (c := lt (k + 1)) p1 (by decide)
  rw [if_neg (by decide), if_neg (by decide), if_neg (by decide), if_pos rfl] at d1
  have t1 : isdg (lt (k + 1)) 1 9 = wtn (lt (k + 1) - 48) 1 9 := by rw [e1]; exact (ch_eq hc1).2.1
  rw [t1] at d1
  by_cases q1 : wtn (lt (k + 1) - 48) 1 9 = 0
  · rw [if_pos q1]
    refine out_bad p1.1 (by omega) ?_ h20
    rw [d1]; exact if_pos q1
  rw [if_neg q1, sc_ok (q' := 4) (by rw [d1]; exact if_neg q1) (by decide), d1]
  have p2 : PP L V w 4 (upd pg1 4 (nI 4)) := pp_4 p1
  show OUT lt L (scF lt (L - (k + 1 + 1)) (k + 1 + 1) (upd pg1 4 (nI 4))) _
  generalize upd pg1 4 (nI 4) = pg2 at p2 ⊢
  -- the village
  rcases Nat.lt_or_ge (k + 2) L with l2 | l2
  case inr =>
    rw [fig_end (lt := lt) l2 (by decide), if_pos rfl]
    exact out_end p2 (by omega) (by decide) (by decide) h20
  obtain ⟨c2, hc2, e2⟩ := hc (k + 2) l2
  have f2 : fig lt L (k + 2) 0 (g 21 - 1) = wtn (lt (k + 2) - 48) 0 (nI V - 1) := by rw [fig, at_in l2, h21]
  rw [f2, left_1 l2]
  have d2 := db_at (c := lt (k + 2)) p2 (by decide)
  rw [if_neg (by decide), if_neg (by decide), if_neg (by decide), if_neg (by decide), if_pos rfl, p2.2.1] at d2
  have t2 : isdg (lt (k + 2)) 0 (nI V - 1) = wtn (lt (k + 2) - 48) 0 (nI V - 1) := by rw [e2]; exact ch_hm hc2 h4 (by omega)
  rw [t2] at d2
  by_cases q2 : wtn (lt (k + 2) - 48) 0 (nI V - 1) = 0
  · rw [if_pos q2]
    refine out_bad p2.1 (by omega) ?_ h20
    rw [d2]; exact if_pos q2
  rw [if_neg q2, sc_ok (q' := 5) (by rw [d2]; exact if_neg q2) (by decide), d2]
  have p3 : PP L V w 5 (upd pg2 4 (nI 5)) := pp_4 p2
  show OUT lt L (scF lt (L - (k + 2 + 1)) (k + 2 + 1) (upd pg2 4 (nI 5))) _
  generalize upd pg2 4 (nI 5) = pg3 at p3 ⊢
  -- the place
  rcases Nat.lt_or_ge (k + 3) L with l3 | l3
  case inr =>
    rw [fig_end (lt := lt) l3 (by decide), if_pos rfl]
    exact out_end p3 (by omega) (by decide) (by decide) h20
  obtain ⟨c3, hc3, e3⟩ := hc (k + 3) l3
  have f3 : fig lt L (k + 3) 0 4 = wtn (lt (k + 3) - 48) 0 4 := by rw [fig, at_in l3]
  rw [f3, left_1 l3]
  have d3 := db_at (c := lt (k + 3)) p3 (by decide)
  rw [if_neg (by decide), if_neg (by decide), if_neg (by decide), if_neg (by decide), if_neg (by decide), if_pos rfl, bP] at d3
  have t3 : isdg (lt (k + 3)) 0 4 = wtn (lt (k + 3) - 48) 0 4 := by rw [e3]; exact (ch_eq hc3).2.2.1
  rw [t3] at d3
  by_cases q3 : wtn (lt (k + 3) - 48) 0 4 = 0
  · rw [if_pos q3] at d3 ⊢
    refine out_bad p3.1 (by omega) ?_ h20
    rw [d3]
  rw [if_neg q3] at d3 ⊢
  rw [sc_ok (q' := 6) (by rw [d3]; rfl) (by decide), d3]
  have p4 : PP L V (w + 1) 6 (upd (upd pg3 3 (pg3 3 + 1)) 4 (nI 6)) := pp_4 (q := 5) ⟨(pk_un (by decide)).trans p3.1, (pk_un (by decide)).trans p3.2.1, by rw [pk_us, p3.2.2.1, nI_1], (pk_un (by decide)).trans p3.2.2.2⟩
  show OUT lt L (scF lt (L - (k + 3 + 1)) (k + 3 + 1) (upd (upd pg3 3 (pg3 3 + 1)) 4 (nI 6))) _
  generalize upd (upd pg3 3 (pg3 3 + 1)) 4 (nI 6) = pg4 at p4 ⊢
  have hwk : ∀ u, u < w + 1 → wok lt V u := fun u h => by
    by_cases e : u = w
    · subst e
      rw [hk] at q0 q1 q2 q3 e0 e1 e2 e3
      unfold wok
      rw [e0] at q0 ⊢
      rw [e1] at q1 ⊢
      rw [e2] at q2 ⊢
      rw [e3] at q3 ⊢
      exact ⟨(ch_dg hc0).2.2.2 q0, (ch_dg hc1).2.1 q1, ch_vl hc2 h4 (by omega) q2, (ch_dg hc3).2.2.1 q3⟩
    · exact hu u (by omega)
  have g21 : rw2 L k g 21 = nI V := by rw [rw2, pk_un (by decide), pk_un (by decide), h21]
  have g22 : rw2 L k g 22 = nI (w + 1) := by rw [rw2, pk_un (by decide), pk_us, h22, nI_1]
  have g20 : rw2 L k g 20 = if k + 4 = L then 1 else 0 := pk_us
  -- behind it
  rcases Nat.lt_or_ge (k + 4) L with l4 | l4
  case inr =>
    have eL : k + 4 = L := by omega
    rw [at_end l4, if_pos (Or.inr (by decide))]
    rw [show L - (k + 3 + 1) = 0 from by omega, scF]
    rw [if_pos eL] at g20
    exact ⟨by rw [p4.1, eL], p4.1, by omega, Or.inr ⟨p4.1, p4.2.2.2, by show ¬ rw2 L k g 20 = 0; rw [g20]; decide, V, w + 1, p4.2.1, p4.2.2.1, g21, g22, by omega, h2, h4, by omega, by omega, hb, hwk⟩⟩
  rw [if_neg (by omega)] at g20
  obtain ⟨c4, hc4, e4⟩ := hc (k + 4) l4
  rw [at_in l4, left_1 l4]
  have d4 := db_at (c := lt (k + 4)) p4 (by decide)
  rw [if_neg (by decide), if_neg (by decide), if_neg (by decide), if_neg (by decide), if_neg (by decide), if_neg (by decide), p4.2.2.1] at d4
  by_cases q4 : n = 0 ∨ ¬ lt (k + 4) = 44
  · rw [if_pos q4]
    refine out_bad p4.1 (by omega) ?_ g20
    rw [d4]
    refine if_neg (fun z => ?_)
    rcases q4 with q | q
    · exact z.2 (nI_le (a := 5) (by omega) (by omega))
    · exact q z.1
  · rw [if_neg q4]
    have hn : ¬ n = 0 := fun z => q4 (Or.inl z)
    have h44 : lt (k + 4) = 44 := by
      by_cases z : lt (k + 4) = 44
      · exact z
      · exact absurd (Or.inr z) q4
    have q5 : lt (k + 4) = 44 ∧ ¬ (5 : Int32) ≤ nI (w + 1) := ⟨h44, nI_ge (b := 5) (by omega) (by decide)⟩
    rw [if_pos q5] at d4
    rw [show k + 3 + 1 = k + 4 from rfl, sc_ok (q' := 2) (by rw [d4]; rfl) (by decide), d4]
    exact ih hn _ _ (by omega) (pp_4 p4) g21 g22 g20 hwk
/-- weights to come -/
theorem rw_out (hc : ∀ j, j < L → ∃ n, n < 128 ∧ lt j = nI n) {V : Nat} (h2 : 2 ≤ V) (h4 : V ≤ 4) (hb : ∀ v, v < V → ∃ b, b ≤ 9 ∧ lt (2 * v) - 48 = nI b) : ∀ (n k w : Nat) (pg g : Nat → Int32), w + (n + 1) = 5 → k = 2 * V + 5 * w → k ≤ L → PP L V w 2 pg → g 21 = nI V → g 22 = nI w → g 20 = 0 → (∀ u, u < w → wok lt V u) → OUT lt L (scF lt (L - k) k pg) (rwF lt L (n + 1) k g) := by
  intro n
  induction n with
  | zero =>
    intro k w pg g hw hk hkL hp h21 h22 h20 hu
    exact rw_one hc h2 h4 hb 0 k w pg g hw hk hkL hp h21 h22 h20 hu (fun z => absurd rfl z)
  | succ n ih =>
    intro k w pg g hw hk hkL hp h21 h22 h20 hu
    exact rw_one hc h2 h4 hb (n + 1) k w pg g hw hk hkL hp h21 h22 h20 hu (fun _ pg' g' hk' hp' h21' h22' h20' hu' => ih (k + 5) (w + 1) pg' g' (by omega) (by omega) hk' hp' h21' h22' h20' hu')
theorem rd_one (hc : ∀ j, j < L → ∃ n, n < 128 ∧ lt j = nI n) (n k v : Nat) (pg g : Nat → Int32) (hv : v + (n + 1) = 4) (hk : k = 2 * v) (hkL : k ≤ L) (hp : PP L v 0 0 pg) (h21 : g 21 = nI v) (h22 : g 22 = 0) (h20 : g 20 = 0) (hb : ∀ u, u < v → ∃ b, b ≤ 9 ∧ lt (2 * u) - 48 = nI b)
    (ih : ¬ n = 0 → ∀ (pg' g' : Nat → Int32), k + 2 ≤ L → PP L (v + 1) 0 0 pg' → g' 21 = nI (v + 1) → g' 22 = 0 → g' 20 = 0 → (∀ u, u < v + 1 → ∃ b, b ≤ 9 ∧ lt (2 * u) - 48 = nI b) → OUT lt L (scF lt (L - (k + 2)) (k + 2) pg') (rdF lt L n (k + 2) g')) : OUT lt L (scF lt (L - k) k pg) (rdF lt L (n + 1) k g) := by
  rw [rdF]
  rcases Nat.lt_or_ge k L with l0 | l0
  case inr =>
    rw [fig_end (lt := lt) l0 (by decide), if_pos rfl]
    exact out_end hp (by omega) (by decide) (by decide) h20
  obtain ⟨c0, hc0, e0⟩ := hc k l0
  have f0 : fig lt L k 0 9 = wtn (lt k - 48) 0 9 := by rw [fig, at_in l0]
  rw [f0, left_1 l0]
  have d0 := db_at (c := lt k) hp (by decide)
  rw [if_pos rfl, bB] at d0
  have t0 : isdg (lt k) 0 9 = wtn (lt k - 48) 0 9 := by rw [e0]; exact (ch_eq hc0).1
  rw [t0] at d0
  by_cases q0 : wtn (lt k - 48) 0 9 = 0
  · rw [if_pos q0] at d0 ⊢
    refine out_bad hp.1 hkL ?_ h20
    rw [d0]
  rw [if_neg q0] at d0 ⊢
  rw [sc_ok (q' := 1) (by rw [d0]; rfl) (by decide), d0]
  have p1 : PP L (v + 1) 0 1 (upd (upd pg 2 (pg 2 + 1)) 4 (nI 1)) := pp_4 (q := 0) ⟨(pk_un (by decide)).trans hp.1, by rw [pk_us, hp.2.1, nI_1], (pk_un (by decide)).trans hp.2.2.1, (pk_un (by decide)).trans hp.2.2.2⟩
  show OUT lt L (scF lt (L - (k + 1)) (k + 1) (upd (upd pg 2 (pg 2 + 1)) 4 (nI 1))) _
  generalize upd (upd pg 2 (pg 2 + 1)) 4 (nI 1) = pg1 at p1 ⊢
  have hb1 : ∀ u, u < v + 1 → ∃ b, b ≤ 9 ∧ lt (2 * u) - 48 = nI b := fun u h => by
    by_cases e : u = v
    · rw [e, ← hk]
      rw [e0] at q0 ⊢
      exact (ch_dg hc0).1 q0
    · exact hb u (by omega)
  have e21 : g 21 + 1 = nI (v + 1) := by rw [h21, nI_1]
  rw [e21]
  have g21 : upd g 21 (nI (v + 1)) 21 = nI (v + 1) := pk_us
  have g22 : upd g 21 (nI (v + 1)) 22 = 0 := (pk_un (by decide)).trans h22
  have g20 : upd g 21 (nI (v + 1)) 20 = 0 := (pk_un (by decide)).trans h20
  generalize upd g 21 (nI (v + 1)) = g1 at g21 g22 g20 ⊢
  rcases Nat.lt_or_ge (k + 1) L with l1 | l1
  case inr =>
    rw [at_end l1, if_neg (fun z => absurd z.1 (by decide)), if_pos (Or.inr (by decide))]
    exact out_end p1 (by omega) (by decide) (by decide) g20
  obtain ⟨c1, hc1, e1⟩ := hc (k + 1) l1
  rw [at_in l1, left_1 l1]
  have d1 := db_at (c := lt (k + 1)) p1 (by decide)
  rw [if_neg (by decide), if_pos rfl, bS, p1.2.1] at d1
  by_cases q1 : lt (k + 1) = 59 ∧ ¬ nI (v + 1) ≤ 1
  · rw [if_pos q1]
    have hv2 : 2 ≤ v + 1 := by
      rcases Nat.lt_or_ge 1 (v + 1) with z | z
      · exact z
      · exact absurd (nI_le (b := 1) z (by decide)) q1.2
    rw [if_neg (fun z => absurd (z.1.symm.trans q1.1) (by decide)), if_pos ⟨q1.1, nI_nlt (b := 2) hv2 (by omega)⟩] at d1
    rw [sc_ok (q' := 2) (by rw [d1]; rfl) (by decide), d1]
    exact rw_out hc hv2 (by omega) hb1 4 (k + 2) 0 _ g1 (by omega) (by omega) (by omega) (pp_4 p1) g21 g22 g20 (fun u h => absurd h (by omega))
  · rw [if_neg q1]
    by_cases q2 : n = 0 ∨ ¬ lt (k + 1) = 44
    · rw [if_pos q2]
      refine out_bad p1.1 (by omega) ?_ g20
      rw [d1]
      show (if lt (k + 1) = 44 ∧ ¬ (4 : Int32) ≤ nI (v + 1) then (0 : Int32) else if lt (k + 1) = 59 ∧ ¬ nI (v + 1) < 2 then 2 else 7) = 7
      rw [if_neg (fun z => ?_), if_neg (fun z => ?_)]
      · refine q1 ⟨z.1, fun y => z.2 ?_⟩
        have y := (nI_leI (b := 1) (by omega) (by decide)).mp y
        exact nI_lt (b := 2) (by omega) (by decide)
      · rcases q2 with q | q
        · exact z.2 (nI_le (a := 4) (by omega) (by omega))
        · exact q z.1
    · rw [if_neg q2]
      have hn : ¬ n = 0 := fun z => q2 (Or.inl z)
      have h44 : lt (k + 1) = 44 := by
        by_cases z : lt (k + 1) = 44
        · exact z
        · exact absurd (Or.inr z) q2
      rw [if_pos ⟨h44, nI_ge (b := 4) (by omega) (by decide)⟩] at d1
      rw [sc_ok (q' := 0) (by rw [d1]; rfl) (by decide), d1]
      exact ih hn _ _ (by omega) (pp_4 p1) g21 g22 g20 hb1
theorem rd_out (hc : ∀ j, j < L → ∃ n, n < 128 ∧ lt j = nI n) : ∀ (n k v : Nat) (pg g : Nat → Int32), v + (n + 1) = 4 → k = 2 * v → k ≤ L → PP L v 0 0 pg → g 21 = nI v → g 22 = 0 → g 20 = 0 → (∀ u, u < v → ∃ b, b ≤ 9 ∧ lt (2 * u) - 48 = nI b) → OUT lt L (scF lt (L - k) k pg) (rdF lt L (n + 1) k g) := by
  intro n
  induction n with
  | zero =>
    intro k v pg g hv hk hkL hp h21 h22 h20 hb
    exact rd_one hc 0 k v pg g hv hk hkL hp h21 h22 h20 hb (fun z => absurd rfl z)
  | succ n ih =>
    intro k v pg g hv hk hkL hp h21 h22 h20 hb
    exact rd_one hc (n + 1) k v pg g hv hk hkL hp h21 h22 h20 hb (fun _ pg' g' hk' hp' h21' h22' h20' hb' => ih (k + 2) (v + 1) pg' g' (by omega) (by omega) hk' hp' h21' h22' h20' hb')
theorem page_out (hc : ∀ j, j < L → ∃ n, n < 128 ∧ lt j = nI n) {pg g : Nat → Int32} (h1 : pg 1 = nI L) : OUT lt L (sc lt L pg) (rd lt L g) := by
  have := rd_out hc 3 0 0 (upd (upd (upd pg 2 0) 3 0) 4 0) (upd (upd (upd g 20 0) 21 0) 22 0) (by omega) (by omega) (by omega) ⟨by rw [pk_un (by decide), pk_un (by decide), pk_un (by decide), h1], by rw [pk_un (by decide), pk_un (by decide), pk_us]; rfl, by rw [pk_un (by decide), pk_us]; rfl, pk_us⟩ (by rw [pk_un (by decide), pk_us]; rfl) pk_us (by rw [pk_un (by decide), pk_un (by decide), pk_us]) (fun u h => absurd h (by omega))
  exact this
end SC
/-- what reading leaves -/
theorem rwF_g {lt : Nat → Int32} {L : Nat} : ∀ (n k : Nat) (g : Nat → Int32) (i : Nat), ¬ i = 20 → ¬ i = 21 → ¬ i = 22 → (rwF lt L n k g).2 i = g i
  | 0, _, _, _, _, _, _ => rfl
  | n + 1, k, g, i, h0, h1, h2 => by
    have e : rw2 L k g i = g i := by rw [rw2, pk_un h0, pk_un h2]
    rw [rwF]
    split
    · rfl
    · split
      · rfl
      · split
        · rfl
        · split
          · rfl
          · split
            · exact e
            · rw [rwF_g n _ _ i h0 h1 h2, e]
theorem rdF_g {lt : Nat → Int32} {L : Nat} : ∀ (n k : Nat) (g : Nat → Int32) (i : Nat), ¬ i = 20 → ¬ i = 21 → ¬ i = 22 → (rdF lt L n k g).2 i = g i
  | 0, _, _, _, _, _, _ => rfl
  | n + 1, k, g, i, h0, h1, h2 => by
    rw [rdF]
    split
    · rfl
    · split
      · rw [rwF_g _ _ _ i h0 h1 h2, pk_un h1]
      · split
        · exact pk_un h1
        · rw [rdF_g n _ _ i h0 h1 h2, pk_un h1]
theorem rd_g {lt : Nat → Int32} {L : Nat} {g : Nat → Int32} {i : Nat} (h0 : ¬ i = 20) (h1 : ¬ i = 21) (h2 : ¬ i = 22) : (rd lt L g).2 i = g i := by
  rw [rd, rdF_g _ _ _ i h0 h1 h2, pk_un h2, pk_un h1, pk_un h0]
