/-! a weight behind a wind -/
abbrev V5 : Type := Int32 × Int32 × Int32 × Int32 × Int32
def wz (c o hm p s : Int32) : V5 := (c, if c = 2 ∧ ¬ o ≤ 1 then o - 1 else o, hm, p, if c = 3 ∧ ¬ 3 ≤ s then s + 1 else s)
def wv (bits st c o hm p s : Int32) : V5 := if hm = -1 then (c, o, hm, p, s) else if ¬ (bits >>> (hm &&& 31)) &&& 1 = 1 then wz c o hm p s else if p + st < 0 ∨ ¬ p + st ≤ 4 then (c, o, -1, -1, 0) else wz c o hm (p + st) s
def vlC (A : Nat → Nat → Int32) (j : Nat) : V5 := (A 3 j, A 4 j, A 5 j, A 6 j, A 7 j)
def vlM (A : Nat → Nat → Int32) (j : Nat) : V5 := (A 4 j, A 5 j, A 6 j, A 7 j, A 8 j)
theorem v5 {a b c d e a' b' c' d' e' : Int32} (h1 : a = a') (h2 : b = b') (h3 : c = c') (h4 : d = d') (h5 : e = e') : ((a, b, c, d, e) : V5) = (a', b', c', d', e') := by subst h1 h2 h3 h4 h5; rfl
theorem wth_v {A : Nat → Nat → Int32} {j : Nat} (h : ¬ A 5 j = -1) : vlC (wth A j) j = wz (A 3 j) (A 4 j) (A 5 j) (A 6 j) (A 7 j) := by
  have e1 : ∀ a, ¬ a = 4 → wth1 A j a j = A a j := fun a ha => by
    unfold wth1; split
    · exact up2_ne (fun z => ha z.1)
    · rfl
  have e4 : wth1 A j 4 j = if A 3 j = 2 ∧ ¬ A 4 j ≤ 1 then A 4 j - 1 else A 4 j := by
    unfold wth1; split
    · exact up2_at _ _ _ _
    · rfl
  have f1 : ∀ a, ¬ a = 7 → wth2 (wth1 A j) j a j = wth1 A j a j := fun a ha => by
    unfold wth2; split
    · exact up2_ne (fun z => ha z.1)
    · rfl
  have f7 : wth2 (wth1 A j) j 7 j = if A 3 j = 3 ∧ ¬ 3 ≤ A 7 j then A 7 j + 1 else A 7 j := by
    unfold wth2
    rw [e1 3 (by decide), e1 7 (by decide)]
    split
    · exact up2_at _ _ _ _
    · exact e1 7 (by decide)
  unfold vlC wz
  rw [wth, if_neg h]
  exact v5 (by rw [f1 3 (by decide), e1 3 (by decide)]) (by rw [f1 4 (by decide), e4]) (by rw [f1 5 (by decide), e1 5 (by decide)]) (by rw [f1 6 (by decide), e1 6 (by decide)]) f7
theorem mwr_v {A : Nat → Nat → Int32} {j : Nat} (h : ¬ A 6 j = -1) : vlM (mwr A j) j = wz (A 4 j) (A 5 j) (A 6 j) (A 7 j) (A 8 j) := by
  have e1 : ∀ a, ¬ a = 5 → mw1 A j a j = A a j := fun a ha => up2_ne (fun z => ha z.1)
  have e5 : mw1 A j 5 j = if A 4 j = 2 ∧ ¬ A 5 j ≤ 1 then A 5 j - 1 else A 5 j := by
    unfold mw1
    rw [up2_at]
    split
    · rfl
    · simp
  have f1 : ∀ a, ¬ a = 8 → mw2 (mw1 A j) j a j = mw1 A j a j := fun a ha => up2_ne (fun z => ha z.1)
  have f8 : mw2 (mw1 A j) j 8 j = if A 4 j = 3 ∧ ¬ 3 ≤ A 8 j then A 8 j + 1 else A 8 j := by
    unfold mw2
    rw [up2_at, e1 4 (by decide), e1 8 (by decide)]
    split
    · rfl
    · simp
  unfold vlM wz
  rw [mwr, if_neg h]
  exact v5 (by rw [f1 4 (by decide), e1 4 (by decide)]) (by rw [f1 5 (by decide), e5]) (by rw [f1 6 (by decide), e1 6 (by decide)]) (by rw [f1 7 (by decide), e1 7 (by decide)]) f8
theorem stC_v (bits st : Int32) (A : Nat → Nat → Int32) (j : Nat) : vlC (stC bits st A j) j = wv bits st (A 3 j) (A 4 j) (A 5 j) (A 6 j) (A 7 j) := by
  unfold stC wv
  by_cases h1 : A 5 j = -1
  · rw [if_pos (Or.inl h1), if_pos h1]
    unfold vlC
    rw [wth, if_pos h1]
  · rw [if_neg h1]
    by_cases h2 : (bits >>> (A 5 j &&& 31)) &&& 1 = 1
    · rw [if_neg (fun z => z.elim h1 (fun q => q h2)), if_neg (fun z => z h2)]
      by_cases h3 : A 6 j + st < 0 ∨ ¬ A 6 j + st ≤ 4
      · rw [if_pos h3]
        have e : (sld (fun _ => 0) A j st).2 = mv A j (-1) (-1) := by rw [sld, if_pos h3]
        rw [e]
        have m5 : mv A j (-1) (-1) 5 j = -1 := by unfold mv; rw [up2_ne (by omega), up2_ne (by omega), up2_at]
        unfold vlC
        rw [wth, if_pos m5]
        unfold mv
        exact v5 (by rw [up2_ne (by omega), up2_ne (by omega), up2_ne (by omega)]) (by rw [up2_ne (by omega), up2_ne (by omega), up2_ne (by omega)]) (by rw [up2_ne (by omega), up2_ne (by omega), up2_at]) (by rw [up2_ne (by omega), up2_at]) (up2_at _ _ _ _)
      · rw [if_neg h3]
        have e : (sld (fun _ => 0) A j st).2 = up2 A 6 j (A 6 j + st) := by rw [sld, if_neg h3]
        have n5 : up2 A 6 j (A 6 j + st) 5 j = A 5 j := up2_ne (by omega)
        rw [e, wth_v (by rw [n5]; exact h1), n5, up2_at, up2_ne (by omega), up2_ne (by omega), up2_ne (by omega)]
    · rw [if_pos (Or.inr h2), if_pos h2, wth_v h1]
theorem stS_v (bits side : Int32) (A : Nat → Nat → Int32) (j : Nat) : vlM (mwr (stS bits side A j) j) j = wv bits (stp side) (A 4 j) (A 5 j) (A 6 j) (A 7 j) (A 8 j) := by
  unfold stS wv
  by_cases h1 : A 6 j = -1
  · rw [if_pos (Or.inl h1), if_pos h1]
    unfold vlM
    rw [mwr, if_pos h1]
  · rw [if_neg h1]
    by_cases h2 : (bits >>> (A 6 j &&& 31)) &&& 1 = 1
    · rw [if_neg (fun z => z.elim h1 (fun q => isin_0.mp q h2)), if_neg (fun z => z h2)]
      by_cases h3 : A 7 j + stp side < 0 ∨ ¬ A 7 j + stp side ≤ 4
      · rw [if_pos h3]
        have e : (msl (fun _ => 0) A j side).2 = gaw (up2 A 7 j (A 7 j + stp side)) j := by rw [msl, if_pos (wtn04.mpr h3)]
        rw [e]
        have m5 : gaw (up2 A 7 j (A 7 j + stp side)) j 6 j = -1 := by unfold gaw; rw [up2_ne (by omega), up2_ne (by omega), up2_at]
        unfold vlM
        rw [mwr, if_pos m5]
        unfold gaw
        exact v5 (by rw [up2_ne (by omega), up2_ne (by omega), up2_ne (by omega), up2_ne (by omega)]) (by rw [up2_ne (by omega), up2_ne (by omega), up2_ne (by omega), up2_ne (by omega)]) (by rw [up2_ne (by omega), up2_ne (by omega), up2_at]) (by rw [up2_ne (by omega), up2_at]) (up2_at _ _ _ _)
      · rw [if_neg h3]
        have e : (msl (fun _ => 0) A j side).2 = up2 A 7 j (A 7 j + stp side) := by rw [msl, if_neg (fun z => h3 (wtn04.mp z))]
        have n5 : up2 A 7 j (A 7 j + stp side) 6 j = A 6 j := up2_ne (by omega)
        rw [e, mwr_v (by rw [n5]; exact h1), n5, up2_at, up2_ne (by omega), up2_ne (by omega), up2_ne (by omega)]
    · rw [if_pos (Or.inr (isin_0.mpr h2)), if_pos h2, mwr_v h1]
/-- what a weight's numbers may be -/
def R5 (V : Nat) (x : V5) : Prop := (∃ c, c ≤ 4 ∧ x.1 = nI c) ∧ (∃ o, 1 ≤ o ∧ o ≤ 9 ∧ x.2.1 = nI o) ∧ ((x.2.2.1 = -1 ∧ x.2.2.2.1 = -1) ∨ ∃ v p, v < V ∧ p ≤ 4 ∧ x.2.2.1 = nI v ∧ x.2.2.2.1 = nI p) ∧ ∃ s, s ≤ 3 ∧ x.2.2.2.2 = nI s ∧ (¬ x.1 = 3 → s = 0)
theorem wz_R {V : Nat} {c o hm p s : Int32} (h : R5 V (c, o, hm, p, s)) : R5 V (wz c o hm p s) := by
  obtain ⟨h1, ⟨o', ho1, ho9, ho⟩, h3, ⟨s', hs3, hs, hs0⟩⟩ := h
  refine ⟨h1, ?_, h3, ?_⟩
  · show ∃ o', 1 ≤ o' ∧ o' ≤ 9 ∧ (if c = 2 ∧ ¬ o ≤ 1 then o - 1 else o) = nI o'
    have ho : o = nI o' := ho
    by_cases q : c = 2 ∧ ¬ o ≤ 1
    · rw [if_pos q]
      have : ¬ o' ≤ 1 := fun z => q.2 (by rw [ho]; exact nI_le (b := 1) z (by decide))
      exact ⟨o' - 1, by omega, by omega, by rw [ho]; exact pk_sub (b := 1) (by omega)⟩
    · rw [if_neg q]; exact ⟨o', ho1, ho9, ho⟩
  · show ∃ s', s' ≤ 3 ∧ (if c = 3 ∧ ¬ 3 ≤ s then s + 1 else s) = nI s' ∧ (¬ c = 3 → s' = 0)
    have hs : s = nI s' := hs
    by_cases q : c = 3 ∧ ¬ 3 ≤ s
    · rw [if_pos q]
      have : ¬ 3 ≤ s' := fun z => q.2 (by rw [hs]; exact nI_le (a := 3) z (by omega))
      exact ⟨s' + 1, by omega, by rw [hs, nI_1], fun z => absurd q.1 z⟩
    · rw [if_neg q]; exact ⟨s', hs3, hs, hs0⟩
theorem wv_R {V : Nat} {bits st c o hm p s : Int32} (hst : st = 1 ∨ st = -1) (h : R5 V (c, o, hm, p, s)) : R5 V (wv bits st c o hm p s) := by
  unfold wv
  by_cases h1 : hm = -1
  · rw [if_pos h1]; exact h
  · rw [if_neg h1]
    by_cases h2 : (bits >>> (hm &&& 31)) &&& 1 = 1
    · rw [if_neg (fun z => z h2)]
      by_cases h3 : p + st < 0 ∨ ¬ p + st ≤ 4
      · rw [if_pos h3]
        exact ⟨h.1, h.2.1, Or.inl ⟨rfl, rfl⟩, 0, by omega, rfl, fun _ => rfl⟩
      · rw [if_neg h3]
        apply wz_R
        refine ⟨h.1, h.2.1, Or.inr ?_, h.2.2.2⟩
        rcases h.2.2.1 with q | ⟨v, p', hv, hp, e1, e2⟩
        · exact absurd q.1 h1
        · have e2 : p = nI p' := e2
          have h3a : ¬ p + st < 0 := fun z => h3 (Or.inl z)
          have h3b : p + st ≤ 4 := by
            by_cases z : p + st ≤ 4
            · exact z
            · exact absurd (Or.inr z) h3
          obtain ⟨k, hk, hk2⟩ := nI_of h3a
          refine ⟨v, k, hv, ?_, e1, hk2⟩
          rw [hk2] at h3b
          exact (nI_leI (b := 4) hk (by decide)).mp h3b
    · rw [if_pos h2]
      exact wz_R h
theorem RNG.col {X : Nat → Nat → Int32} {V N : Nat} (R : RNG X V N) {k : Nat} (hk : k < N) : R5 V (X 1 k, X 2 k, X 3 k, X 4 k, X 5 k) := R.2 k hk
theorem stp_or (side : Int32) : stp side = 1 ∨ stp side = -1 := by
  unfold stp; split
  · exact Or.inl rfl
  · exact Or.inr rfl
/-! the rows that no wind changes -/
theorem sld_row {l : Nat → Int32} {LF : Nat → Nat → Int32} {w a : Nat} {step : Int32} (ha : ¬ a = 5 ∧ ¬ a = 6 ∧ ¬ a = 7) : (sld l LF w step).2 a = LF a := by
  unfold sld mv
  split
  · show up2 _ 7 w 0 a = _
    rw [up2, if_neg ha.2.2, up2, if_neg ha.2.1, up2, if_neg ha.1]
  · show up2 _ 6 w _ a = _
    rw [up2, if_neg ha.2.1]
theorem wth_row {LF : Nat → Nat → Int32} {w a : Nat} (ha : ¬ a = 4 ∧ ¬ a = 7) : wth LF w a = LF a := by
  have e1 : wth1 LF w a = LF a := by
    unfold wth1
    split
    · exact if_neg ha.1
    · rfl
  unfold wth
  split
  · rfl
  · rw [← e1]
    generalize wth1 LF w = A
    unfold wth2
    split
    · exact if_neg ha.2
    · rfl
theorem stC_row {bits step : Int32} {LF : Nat → Nat → Int32} {w a : Nat} (ha : a < 4) : stC bits step LF w a = LF a := by
  unfold stC
  split
  · exact wth_row (by omega)
  · rw [wth_row (by omega), sld_row (by omega)]
theorem msl_row {g : Nat → Int32} {F : Nat → Nat → Int32} {w a : Nat} {side : Int32} (ha : ¬ a = 6 ∧ ¬ a = 7 ∧ ¬ a = 8) : (msl g F w side).2 a = F a := by
  unfold msl
  split
  · show gaw _ w a = _
    rw [gaw, up2, if_neg ha.2.2, up2, if_neg ha.2.1, up2, if_neg ha.1, up2, if_neg ha.2.1]
  · show up2 _ 7 w _ a = _
    rw [up2, if_neg ha.2.1]
theorem mwr_row {F : Nat → Nat → Int32} {w a : Nat} (ha : ¬ a = 5 ∧ ¬ a = 8) : mwr F w a = F a := by
  unfold mwr
  split
  · rfl
  · rw [mw2, up2, if_neg ha.2, mw1, up2, if_neg ha.1]
theorem msF_row (bits side : Int32) {a : Nat} (ha : ¬ a = 6 ∧ ¬ a = 7 ∧ ¬ a = 8) : ∀ (n k : Nat) (g : Nat → Int32) (F : Nat → Nat → Int32), (msF bits side n k g F).2 a = F a
  | 0, _, _, _ => rfl
  | n + 1, k, g, F => by
    rw [msF]
    split
    · exact msF_row bits side ha n _ _ _
    · rw [msF_row bits side ha n, msl_row ha]
theorem mrF_row {a : Nat} (ha : ¬ a = 5 ∧ ¬ a = 8) : ∀ (n k : Nat) (F : Nat → Nat → Int32), mrF n k F a = F a
  | 0, _, _ => rfl
  | n + 1, k, F => by rw [mrF, mrF_row ha n, mwr_row ha]
theorem mwF_row {g : Nat → Int32} {F : Nat → Nat → Int32} {V N : Nat} {side force : Int32} {a : Nat} (ha : a < 5 ∨ 8 < a) : mwF g F V N side force a = F a := by
  rw [mwF, mrF_row (by omega), mwS, msF_row _ _ (by omega)]
theorem wdF_row (bits step : Int32) {a : Nat} (ha : a < 4) : ∀ (n k : Nat) (l : Nat → Int32) (LF : Nat → Nat → Int32), (wdF bits step n k l LF).2 a = LF a
  | 0, _, _, _ => rfl
  | n + 1, k, l, LF => by
    rw [wdF]
    split
    · rw [wdF_row bits step ha n, wth_row (by omega)]
    · rw [wdF_row bits step ha n, wth_row (by omega), sld_row (by omega)]
/-! a wind on both -/
section WD
variable {l g : Nat → Int32} {LF F : Nat → Nat → Int32} {V N : Nat}
theorem lbF_set {X : Nat → Nat → Int32} {side force : Int32} : ∀ (n v S : Nat), v + n ≤ 5 → S < 2 ^ v → ∃ T, T < 2 ^ (v + n) ∧ lbF X N side force n v (nI S) = nI T
  | 0, v, S, _, hS => ⟨S, hS, rfl⟩
  | n + 1, v, S, h, hS => by
    have e : v + (n + 1) = v + 1 + n := by omega
    rw [lbF, e]
    split
    · exact lbF_set n (v + 1) S (by omega) (by rw [Nat.pow_succ]; omega)
    · rw [or_add (by omega) hS]
      exact lbF_set n (v + 1) (S + 2 ^ v) (by omega) (by rw [Nat.pow_succ]; omega)
theorem bits_eq (E : EQV (vC LF) (vM F) V N) (side force : Int32) : tkB LF V N side force = mwB F V N side force := lbF_c E side force V 0 0 (by omega)
theorem bits_sz (h4 : V ≤ 4) (side force : Int32) : bitc (mwB F V N side force) = siz (mwB F V N side force) := by
  obtain ⟨T, h1, h2⟩ := lbF_set (N := N) (X := vM F) (side := side) (force := force) V 0 0 (by omega) (by decide)
  have e : mwB F V N side force = nI T := h2
  have h32 : T < 32 := by
    have : 2 ^ (0 + V) ≤ 16 := Nat.le_trans (Nat.pow_le_pow_right (by decide) (show 0 + V ≤ 4 by omega)) (by decide)
    omega
  rw [e, (bitc_5 h32).1, (bitc_5 h32).2]
theorem wind_v (E : EQV (vC LF) (vM F) V N) (side force : Int32) {j : Nat} (hj : j < N) : vlC (tkS l LF V N side force).2 j = wv (mwB F V N side force) (stp side) (F 4 j) (F 5 j) (F 6 j) (F 7 j) (F 8 j) ∧ vlM (mwF g F V N side force) j = wv (mwB F V N side force) (stp side) (F 4 j) (F 5 j) (F 6 j) (F 7 j) (F 8 j) := by
  constructor
  · have e : ∀ a, (tkS l LF V N side force).2 a j = stC (mwB F V N side force) (stp side) LF j a j := fun a => by
      rw [tkS, bits_eq E, wdF_st, if_pos (by omega)]
    have e2 : vlC (tkS l LF V N side force).2 j = vlC (stC (mwB F V N side force) (stp side) LF j) j := v5 (e 3) (e 4) (e 5) (e 6) (e 7)
    obtain ⟨c1, c2, c3, c4, c5⟩ := E.2 j hj
    rw [e2, stC_v]
    show wv _ _ (vC LF 1 j) (vC LF 2 j) (vC LF 3 j) (vC LF 4 j) (vC LF 5 j) = _
    rw [c1, c2, c3, c4, c5]
    rfl
  · have e : ∀ a, mwF g F V N side force a j = mwr (stS (mwB F V N side force) side F j) j a j := fun a => by
      rw [mwF, mrF_st, if_pos (by omega)]
      exact mwr_col (fun a => by rw [mwS, msF_st, if_pos (by omega)]) a
    have e2 : vlM (mwF g F V N side force) j = vlM (mwr (stS (mwB F V N side force) side F j) j) j := v5 (e 4) (e 5) (e 6) (e 7) (e 8)
    rw [e2, stS_v]
theorem v5_inj {a b c d e a' b' c' d' e' : Int32} (h : ((a, b, c, d, e) : V5) = (a', b', c', d', e')) : a = a' ∧ b = b' ∧ c = c' ∧ d = d' ∧ e = e' := by
  simp only [Prod.mk.injEq] at h
  exact h
theorem wind_E (E : EQV (vC LF) (vM F) V N) (side force : Int32) : EQV (vC (tkS l LF V N side force).2) (vM (mwF g F V N side force)) V N := by
  refine ⟨fun v hv => ?_, fun k hk => ?_⟩
  · show (tkS l LF V N side force).2 2 v = mwF g F V N side force 3 v
    rw [mwF_row (by omega), tkS, wdF_row _ _ (by omega)]
    exact E.1 v hv
  · have h := (wind_v (l := l) (g := g) E side force hk)
    exact v5_inj (h.1.trans h.2.symm)
theorem wind_R (E : EQV (vC LF) (vM F) V N) (R : RNG (vM F) V N) (side force : Int32) : RNG (vM (mwF g F V N side force)) V N := by
  refine ⟨fun v hv => ?_, fun k hk => ?_⟩
  · have : vM (mwF g F V N side force) 0 v = vM F 0 v := by
      show mwF g F V N side force 3 v = F 3 v
      rw [mwF_row (by omega)]
    rw [this]
    exact R.1 v hv
  · have h := (wind_v (l := fun _ => 0) (g := g) E side force hk).2
    have q : R5 V (vlM (mwF g F V N side force) k) := by
      rw [h]
      exact wv_R (stp_or side) (R.col hk)
    exact q
theorem wind_l (E : EQV (vC LF) (vM F) V N) (h4 : V ≤ 4) (side force : Int32) (h10 : l 10 = g 11) (h9 : l 9 = g 10) : tkL l LF V N side force 10 = mwG g F V N side force 11 ∧ tkL l LF V N side force 9 = mwG g F V N side force 10 ∧ tkL l LF V N side force 8 = l 8 + 1 ∧ (∀ i, i < 8 → tkL l LF V N side force i = l i) ∧ ∀ i, ¬ i = 10 → ¬ i = 11 → mwG g F V N side force i = g i := by
  have hl := wdF_l (mwB F V N side force) (stp side) N 0 l LF
  have hg := msF_g (mwB F V N side force) side N 0 g F
  have es : tkS l LF V N side force = wdF (mwB F V N side force) (stp side) N 0 l LF := by rw [tkS, bits_eq E]
  refine ⟨?_, ?_, ?_, fun i hi => ?_, fun i h1 h2 => ?_⟩
  · rw [tkL, mwG, pk_un (by decide), pk_un (by decide), pk_un (by decide), es, hl.1, mwS, hg.1, h10]
    exact flF_c N 0 _ (fun j _ hj => ⟨(E.2 j (by omega)).2.2.1, (E.2 j (by omega)).2.2.2.1⟩)
  · rw [tkL, mwG, pk_us, pk_us, bits_eq E, bits_sz h4, es, hl.2 9 (by decide), mwS, hg.2 10 (by decide), h9]
  · rw [tkL, pk_un (by decide), pk_us, es, hl.2 8 (by decide)]
  · rw [tkL, pk_un (by omega), pk_un (by omega), es, hl.2 i (by omega)]
  · rw [mwG, pk_un h1, mwS, hg.2 i h2]
end WD
