/-! the class and the reference, alike -/
def RLd (l : Nat → Int32) (LF : Nat → Nat → Int32) (g : Nat → Int32) (F : Nat → Nat → Int32) (V N : Nat) : Prop := LOK l LF V N ∧ MOK g F V N ∧ EQV (vC LF) (vM F) V N ∧ RNG (vM F) V N ∧ (∃ W, W ≤ 999 ∧ l 8 = nI W ∧ g 9 = nI W) ∧ l 9 = g 10 ∧ l 10 = g 11
def RS (s : Nat → Int32) (SF : Nat → Nat → Int32) (g : Nat → Int32) (F : Nat → Nat → Int32) (K : Nat) : Prop := s 0 = nI K ∧ g 13 = nI K ∧ K ≤ 8 ∧ EQS SF (vS F) K ∧ ∀ i, i < K → F 17 i = 0 ∨ F 17 i = 1
def RP (pg : Nat → Int32) (PF : Nat → Nat → Int32) (g : Nat → Int32) (F : Nat → Nat → Int32) (L : Nat) : Prop := pg 1 = nI L ∧ g 18 = nI L ∧ L ≤ 36 ∧ ∀ j, j < L → ∃ n, 32 ≤ n ∧ n ≤ 126 ∧ PF 0 j = nI n ∧ F 19 j = nI n
def RC (n : Nat) (h g : Nat → Int32) : Prop := (∃ T, T ≤ n ∧ h 8 = nI T ∧ g 0 = nI T) ∧ ∃ P, P ≤ 20 ∧ h 9 = nI P ∧ g 12 = nI P
def vI (F : Nat → Nat → Int32) : Nat → Nat → Int32 := fun a => if a = 0 then F 40 else if a = 1 then F 4 else F (39 + a)
def vJ (F : Nat → Nat → Int32) : Nat → Nat → Int32 := fun a => F (44 + a)
def RI (n : Nat) (h il : Nat → Int32) (ILF : Nat → Nat → Int32) (is : Nat → Int32) (ISF : Nat → Nat → Int32) (g : Nat → Int32) (F : Nat → Nat → Int32) (V N : Nat) : Prop :=
  (h 7 = 0 ∧ (g 34 = 0 ∨ (g 34 = 1 ∧ ∃ T0 T, T0 < T ∧ T ≤ n ∧ g 35 = nI T0 ∧ g 0 = nI T))) ∨ (h 7 = 1 ∧ g 34 = 1 ∧ g 35 = g 0 ∧ il 0 = nI V ∧ il 1 = nI N ∧ EQV (vC ILF) (vI F) V N ∧ RNG (vI F) V N ∧ (∃ W, W ≤ 999 ∧ il 8 = nI W ∧ g 36 = nI W) ∧ il 9 = g 37 ∧ il 10 = g 38 ∧ ∃ K, K ≤ 8 ∧ is 0 = nI K ∧ g 39 = nI K ∧ EQS ISF (vJ F) K ∧ ∀ i, i < K → F 48 i = 0 ∨ F 48 i = 1)
def Rel (n : Nat) (h pg : Nat → Int32) (PF : Nat → Nat → Int32) (l : Nat → Int32) (LF : Nat → Nat → Int32) (s : Nat → Int32) (SF : Nat → Nat → Int32) (il : Nat → Int32) (ILF : Nat → Nat → Int32) (is : Nat → Int32) (ISF : Nat → Nat → Int32) (g : Nat → Int32) (F : Nat → Nat → Int32) (V N L K : Nat) : Prop := RLd l LF g F V N ∧ RS s SF g F K ∧ RP pg PF g F L ∧ RC n h g ∧ RI n h il ILF is ISF g F V N
def RW (n : Nat) (wc wm : List Ce) : Prop := ∃ (h pg : Nat → Int32) (PF : Nat → Nat → Int32) (l : Nat → Int32) (LF : Nat → Nat → Int32) (s : Nat → Int32) (SF : Nat → Nat → Int32) (il : Nat → Int32) (ILF : Nat → Nat → Int32) (is : Nat → Int32) (ISF : Nat → Nat → Int32) (t : Nat → Int32) (TF : Nat → Nat → Int32) (k : Nat → Int32) (KF : Nat → Nat → Int32) (g : Nat → Int32) (G : Nat → Int64) (F : Nat → Nat → Int32) (V N L K : Nat), wc = clsW h pg PF l LF s SF il ILF is ISF t TF k KF ∧ wm = modW g G F ∧ Rel n h pg PF l LF s SF il ILF is ISF g F V N L K
theorem RC.up {n : Nat} {h g : Nat → Int32} (c : RC n h g) : RC (n + 1) h g := by
  obtain ⟨⟨T, h1, h2⟩, h3⟩ := c
  exact ⟨⟨T, by omega, h2⟩, h3⟩
theorem RI.up {n : Nat} {h il : Nat → Int32} {ILF : Nat → Nat → Int32} {is : Nat → Int32} {ISF : Nat → Nat → Int32} {g : Nat → Int32} {F : Nat → Nat → Int32} {V N : Nat} (c : RI n h il ILF is ISF g F V N) : RI (n + 1) h il ILF is ISF g F V N := by
  rcases c with ⟨h1, h2⟩ | h
  · refine Or.inl ⟨h1, ?_⟩
    rcases h2 with h2 | ⟨h2, T0, T, h3, h4, h5⟩
    · exact Or.inl h2
    · exact Or.inr ⟨h2, T0, T, h3, by omega, h5⟩
  · exact Or.inr h
theorem RW.up {n : Nat} {wc wm : List Ce} (h : RW n wc wm) : RW (n + 1) wc wm := by
  obtain ⟨h, pg, PF, l, LF, s, SF, il, ILF, is, ISF, t, TF, k, KF, g, G, F, V, N, L, K, e1, e2, r1, r2, r3, r4, r5⟩ := h
  exact ⟨h, pg, PF, l, LF, s, SF, il, ILF, is, ISF, t, TF, k, KF, g, G, F, V, N, L, K, e1, e2, r1, r2, r3, r4.up, r5.up⟩
/-- an answer is an int, or a long -/
def Num (ret : Option FieldType) (rv : Value) : Prop := (ret = some .int ∧ ∃ v, rv = .int v) ∨ (ret = some .long ∧ ∃ v, rv = .long v)
/-- a call: both answer alike, and are alike behind it -/
def OP (n : Nat) (yC : MethodName) (cC : ByteArray) (lC : List (Option Value)) (yM : MethodName) (cM : ByteArray) (lM : List (Option Value)) (ret : Option FieldType) (wc wm : List Ce) : Prop := ∃ (rv : Value) (Q : List Ce → Prop), Ev 12 yC cC ret 0 lC [] wc (fun r w => r = some rv ∧ Q w) ∧ (∀ w, Q w → Ev 12 yM cM ret 0 lM [] wm (fun r w' => r = some rv ∧ RW (n + 1) w w')) ∧ Num ret rv
section OPS
variable {n : Nat} {yC : MethodName} {cC : ByteArray} {lC : List (Option Value)} {yM : MethodName} {cM : ByteArray} {lM : List (Option Value)} {ret : Option FieldType} {wc wm Wc Wm : List Ce} {rv : Value}
theorem OP.go (hC : Ev 12 yC cC ret 0 lC [] wc (Is (some rv) Wc)) (hM : Ev 12 yM cM ret 0 lM [] wm (Is (some rv) Wm)) (hR : RW (n + 1) Wc Wm) (hN : Num ret rv := by exact Or.inl ⟨rfl, _, rfl⟩) : OP n yC cC lC yM cM lM ret wc wm :=
  ⟨rv, fun w => w = Wc, hC, fun w hw => hM.mono (fun r w' h => ⟨h.1, by rw [hw, h.2]; exact hR⟩), hN⟩
end OPS
/-! numbers of a call -/
theorem arg_in {x : Int32} {a b : Nat} (hb : b < 2 ^ 31) (hab : a ≤ b) (h1 : ¬ x < nI a) (h2 : x ≤ nI b) : ∃ n, a ≤ n ∧ n ≤ b ∧ x = nI n := by
  have h0 : ¬ x < 0 := fun z => h1 (by
    rw [i32_lt] at z ⊢
    rw [nI_toInt (by omega)]
    have : (0 : Int32).toInt = 0 := by decide
    omega)
  obtain ⟨j, hj, e⟩ := nI_of h0
  rw [e] at h1 h2
  refine ⟨j, ?_, (nI_leI hj hb).mp h2, e⟩
  rw [nI_ltI hj (by omega)] at h1
  omega
theorem nle_lt {x y : Int32} : ¬ x ≤ y ↔ y < x := by rw [i32_le, i32_lt]; omega
theorem nlt_le {x y : Int32} : ¬ x < y ↔ y ≤ x := by rw [i32_le, i32_lt]; omega
theorem RLd.mk {l : Nat → Int32} {LF : Nat → Nat → Int32} {g : Nat → Int32} {F : Nat → Nat → Int32} {V N : Nat} (h1 : l 0 = nI V) (h2 : l 1 = nI N) (h3 : g 1 = nI V) (h4 : g 2 = nI N) (hV : V ≤ 4) (hN : N ≤ 5) (E : EQV (vC LF) (vM F) V N) (R : RNG (vM F) V N) (hW : ∃ W, W ≤ 999 ∧ l 8 = nI W ∧ g 9 = nI W) (h9 : l 9 = g 10) (h10 : l 10 = g 11) : RLd l LF g F V N :=
  ⟨⟨h1, h2, hV, hN, fun k hk => by
    have := R.hom k hk
    rw [← (E.2 k hk).2.2.1] at this
    exact this⟩, ⟨h3, h4, hV, hN, R.hom⟩, E, R, hW, h9, h10⟩
theorem EQV.col {X Y X' Y' : Nat → Nat → Int32} {V N w : Nat} (E : EQV X Y V N) (hX0 : X' 0 = X 0) (hY0 : Y' 0 = Y 0) (hX : ∀ a j, ¬ j = w → X' a j = X a j) (hY : ∀ a j, ¬ j = w → Y' a j = Y a j) (h : X' 1 w = Y' 1 w ∧ X' 2 w = Y' 2 w ∧ X' 3 w = Y' 3 w ∧ X' 4 w = Y' 4 w ∧ X' 5 w = Y' 5 w) : EQV X' Y' V N := by
  refine ⟨fun v hv => by rw [hX0, hY0]; exact E.1 v hv, fun k hk => ?_⟩
  by_cases e : k = w
  · rw [e]; exact h
  · rw [hX 1 k e, hX 2 k e, hX 3 k e, hX 4 k e, hX 5 k e, hY 1 k e, hY 2 k e, hY 3 k e, hY 4 k e, hY 5 k e]
    exact E.2 k hk
theorem RNG.upc {Y Y' : Nat → Nat → Int32} {V N w : Nat} (R : RNG Y V N) (hY0 : Y' 0 = Y 0) (hY : ∀ a j, ¬ j = w → Y' a j = Y a j) (h : R5 V (Y' 1 w, Y' 2 w, Y' 3 w, Y' 4 w, Y' 5 w)) : RNG Y' V N := by
  refine ⟨fun v hv => by rw [hY0]; exact R.1 v hv, fun k hk => ?_⟩
  by_cases e : k = w
  · rw [e]; exact h
  · rw [hY 1 k e, hY 2 k e, hY 3 k e, hY 4 k e, hY 5 k e]
    exact R.2 k hk
/-! the calls that change nothing that counts -/
section OPA
variable {n : Nat} {wc wm : List Ce}
theorem op_letter (x : Int32) (H : RW n wc wm) : OP n yX4_letter cX4_letter [some (.ref 0), some (.int x)] yX5_letter cX5_letter [some (.ref 0), some (.int x)] (some .int) wc wm := by
  have H1 := H.up
  obtain ⟨h, pg, PF, l, LF, s, SF, il, ILF, is, ISF, t, TF, k, KF, g, G, F, V, N, L, K, rfl, rfl, r1, r2, r3, r4, r5⟩ := H
  by_cases hx : x < 32 ∨ ¬ x ≤ 126
  · exact OP.go (c_letter_o hx) (m_letter_o (hx.imp id nle_lt.mp)) H1
  · obtain ⟨m, hm1, hm2, rfl⟩ := arg_in (a := 32) (b := 126) (by decide) (by decide) (fun z => hx (Or.inl z)) (by
      by_cases z : x ≤ 126
      · exact z
      · exact absurd (Or.inr z) hx)
    obtain ⟨p1, p2, p3, p4⟩ := r3
    by_cases hL : L = 36
    · subst hL
      exact OP.go (c_letter_f hm1 hm2 p1) (m_letter_f hm1 hm2 p2) H1
    · refine OP.go (c_letter_k hm1 hm2 p1 (by omega)) (m_letter_k hm1 hm2 p2 (by omega)) ⟨h, _, _, l, LF, s, SF, il, ILF, is, ISF, t, TF, k, KF, _, G, _, V, N, L + 1, K, rfl, rfl, r1, r2, ⟨rfl, rfl, by omega, fun j hj => ?_⟩, r4.up, r5.up⟩
      by_cases e : j = L
      · subst e
        exact ⟨m, hm1, hm2, up2_at _ _ _ _, up2_at _ _ _ _⟩
      · obtain ⟨q, q1, q2, q3, q4⟩ := p4 j (by omega)
        exact ⟨q, q1, q2, (up2_ne (by omega)).trans q3, (up2_ne (by omega)).trans q4⟩
theorem op_blank (H : RW n wc wm) : OP n yX4_blank cX4_blank [some (.ref 0), none] yX5_blank cX5_blank [some (.ref 0), none] (some .int) wc wm := by
  obtain ⟨h, pg, PF, l, LF, s, SF, il, ILF, is, ISF, t, TF, k, KF, g, G, F, V, N, L, K, rfl, rfl, r1, r2, r3, r4, r5⟩ := H
  obtain ⟨p1, p2, p3, p4⟩ := r3
  have hM : Ev 12 yX5_blank cX5_blank (some .int) 0 [some (.ref 0), none] [] (modW g G F) (Is (some (.int (pg 1))) (modW (upd g 18 0) G F)) := by rw [p1, ← p2]; exact m_blank
  refine OP.go c_blank hM ⟨h, _, PF, l, LF, s, SF, il, ILF, is, ISF, t, TF, k, KF, _, G, F, V, N, 0, K, rfl, rfl, r1, r2, ⟨rfl, rfl, by omega, fun j hj => absurd hj (by omega)⟩, r4.up, r5.up⟩
theorem op_as (x y : Int32) (H : RW n wc wm) : OP n yX4_as cX4_as [some (.ref 0), some (.int x), some (.int y)] yX5_as cX5_as [some (.ref 0), some (.int x), some (.int y), none] (some .int) wc wm := by
  have H1 := H.up
  obtain ⟨h, pg, PF, l, LF, s, SF, il, ILF, is, ISF, t, TF, k, KF, g, G, F, V, N, L, K, rfl, rfl, r1, r2, r3, r4, r5⟩ := H
  obtain ⟨okC, okM, E, R, _⟩ := r1
  by_cases hx : ∃ w, w < N ∧ x = nI w
  · obtain ⟨w, hw, rfl⟩ := hx
    by_cases hy : y < 0 ∨ 5 ≤ y
    · refine OP.go (c_as_o okC hw hy) (m_as_o okM hw (hy.imp id (fun z => ?_))) H1
      rw [i32_le, show (5 : Int32).toInt = 5 from by decide] at z
      rw [i32_lt, show (4 : Int32).toInt = 4 from by decide]; omega
    · have h0 : ¬ y < 0 := fun z => hy (Or.inl z)
      have h5 : y < 5 := by
        by_cases z : 5 ≤ y
        · exact absurd (Or.inr z) hy
        · exact nle_lt.mp z
      refine OP.go (c_as_k okC hw h0 h5) ?_ H1
      rw [show LF 3 w = F 4 w from (E.2 w hw).1]
      refine m_as_k okM hw h0 (fun z => ?_)
      rw [i32_lt, show (5 : Int32).toInt = 5 from by decide] at h5
      rw [i32_lt, show (4 : Int32).toInt = 4 from by decide] at z
      omega
  · have hx : ∀ w, w < N → x ≠ nI w := fun w hw e => hx ⟨w, hw, e⟩
    exact OP.go (c_as_u okC hx y) (m_as_u okM hx y) H1
theorem op_lifts (x y z : Int32) (H : RW n wc wm) : OP n yX4_lifts cX4_lifts [some (.ref 0), some (.int x), some (.int y), some (.int z)] yX5_lifts cX5_lifts [some (.ref 0), some (.int x), some (.int y), some (.int z)] (some .int) wc wm := by
  have H1 := H.up
  obtain ⟨h, pg, PF, l, LF, s, SF, il, ILF, is, ISF, t, TF, k, KF, g, G, F, V, N, L, K, rfl, rfl, r1, r2, r3, r4, r5⟩ := H
  obtain ⟨okC, okM, E, R, _⟩ := r1
  by_cases hx : ∃ w, w < V ∧ x = nI w
  · obtain ⟨v, hv, rfl⟩ := hx
    by_cases hw : ∃ a b, a < 2 ∧ b < 100 ∧ y = nI a ∧ z = nI b
    · obtain ⟨a, b, ha, hb, rfl, rfl⟩ := hw
      refine OP.go (c_lifts_k okC hv ha hb) ?_ H1
      rw [hld_c E _ _ hv]
      exact m_lifts_k okM hv ha hb
    · have hw : ∀ a b, a < 2 → b < 100 → ¬ (y = nI a ∧ z = nI b) := fun a b ha hb e => hw ⟨a, b, ha, hb, e.1, e.2⟩
      exact OP.go (c_lifts_o okC hv hw) (m_lifts_o okM hv hw) H1
  · have hx : ∀ w, w < V → x ≠ nI w := fun w hw e => hx ⟨w, hw, e⟩
    exact OP.go (c_lifts_u okC hx y z) (m_lifts_u okM hx y z) H1
theorem op_where (x y z : Int32) (H : RW n wc wm) : OP n yX4_where cX4_where [some (.ref 0), some (.int x), some (.int y), some (.int z), none] yX5_where cX5_where [some (.ref 0), some (.int x), some (.int y), some (.int z)] (some .int) wc wm := by
  have H1 := H.up
  obtain ⟨h, pg, PF, l, LF, s, SF, il, ILF, is, ISF, t, TF, k, KF, g, G, F, V, N, L, K, rfl, rfl, r1, r2, r3, r4, r5⟩ := H
  obtain ⟨okC, okM, E, R, _⟩ := r1
  by_cases hx : ∃ w, w < N ∧ x = nI w
  · obtain ⟨w, hw, rfl⟩ := hx
    by_cases hy : ∃ v, v < V ∧ y = nI v
    · obtain ⟨v, hv, rfl⟩ := hy
      by_cases hz : z < 0 ∨ ¬ z ≤ 1
      · exact OP.go (c_where_o okC hw hv hz) (m_where_o okM hw hv (hz.imp id nle_lt.mp)) H1
      · obtain ⟨q, _, q2, rfl⟩ := arg_in (a := 0) (b := 1) (x := z) (by decide) (by decide) (fun q => hz (Or.inl q)) (by
          by_cases q : z ≤ 1
          · exact q
          · exact absurd (Or.inr q) hz)
        match q, q2 with
        | 0, _ =>
          refine OP.go (c_where_0 okC hw hv) ?_ H1
          rw [bp_c E hw hv, ← mwh_1 okM.2.2.2.1 hw]
          exact m_where_0 okM hw hv
        | 1, _ =>
          refine OP.go (c_where_1 okC hw hv) ?_ H1
          rw [bp_c E hw hv, lip_c E hw hv, ← mwh_2 R okM.2.2.2.1 okM.2.2.1 hw hv]
          exact m_where_1 okM hw hv
    · have hy : ∀ w, w < V → y ≠ nI w := fun w hw e => hy ⟨w, hw, e⟩
      exact OP.go (c_where_u2 okC hw hy z) (m_where_u2 okM hw hy z) H1
  · have hx : ∀ w, w < N → x ≠ nI w := fun w hw e => hx ⟨w, hw, e⟩
    exact OP.go (c_where_u1 okC hx y z) (m_where_u1 okM hx y z) H1
theorem op_mend (H : RW n wc wm) : OP n yX4_mend cX4_mend [some (.ref 0)] yX5_mend cX5_mend [some (.ref 0)] (some .int) wc wm := by
  have H1 := H.up
  obtain ⟨h, pg, PF, l, LF, s, SF, il, ILF, is, ISF, t, TF, k, KF, g, G, F, V, N, L, K, rfl, rfl, r1, r2, r3, r4, r5⟩ := H
  obtain ⟨okC, okM, E, R, _⟩ := r1
  by_cases hV : V = 0
  · subst hV
    exact OP.go (c_mend_s okC) (m_mend_s okM) H1
  · refine OP.go (c_mend_k okC (by omega)) ?_ H1
    rw [bm_c E okC.2.2.2.2 okC.2.2.1, ← mmd_bm R.hom okM.2.2.2.1 okM.2.2.1 (by omega)]
    exact m_mend_k okM (by omega)
theorem op_odds (x y : Int32) (H : RW n wc wm) : OP n yX4_odds cX4_odds [some (.ref 0), some (.int x), some (.int y), none, none, none, none] yX5_odds cX5_odds [some (.ref 0), some (.int x), some (.int y)] (some .int) wc wm := by
  have H1 := H.up
  obtain ⟨h, pg, PF, l, LF, s, SF, il, ILF, is, ISF, t, TF, k, KF, g, G, F, V, N, L, K, rfl, rfl, r1, r2, r3, r4, r5⟩ := H
  obtain ⟨okC, okM, E, R, _⟩ := r1
  by_cases hx : x < 1 ∨ 4 < x
  · exact OP.go (c_odds_o (hx.elim Or.inl (fun z => Or.inr (Or.inl z)))) (m_odds_o1 hx) H1
  · obtain ⟨a, ha1, ha4, rfl⟩ := arg_in (a := 1) (b := 4) (by decide) (by decide) (fun q => hx (Or.inl q)) (nlt_le.mp (fun q => hx (Or.inr q)))
    by_cases hy : y < 0 ∨ ¬ y ≤ 1
    · exact OP.go (c_odds_o (Or.inr (Or.inr hy))) (m_odds_o2 ha1 ha4 (hy.imp id nle_lt.mp)) H1
    · have hy0 : ¬ y < 0 := fun q => hy (Or.inl q)
      have hy1 : y ≤ 1 := by
        by_cases q : y ≤ 1
        · exact q
        · exact absurd (Or.inr q) hy
      by_cases hV : V = 0
      · subst hV
        exact OP.go (c_odds_s okC ha1 ha4 hy0 hy1) (m_odds_s okM ha1 ha4 hy0 (fun z => absurd hy1 (nle_lt.mpr z))) H1
      · obtain ⟨gd, g2, g20, e1, e2⟩ := gd_hw R okM.2.2.1 okM.2.2.2.1
        obtain ⟨q, _, q2, rfl⟩ := arg_in (a := 0) (b := 1) (x := y) (by decide) (by decide) hy0 hy1
        match q, q2 with
        | 0, _ =>
          refine OP.go (c_odds_0 okC (by omega) ha1 ha4) ?_ H1
          rw [hw_c E, e2, (odds_ok g2 g20 ha1 ha4).1]
          exact m_oddsP_0 okM (by omega) ha1 ha4 e1 g20
        | 1, _ =>
          refine OP.go (c_odds_1 okC (by omega) ha1 ha4) ?_ H1
          rw [hw_c E, e2, (odds_ok g2 g20 ha1 ha4).2]
          exact m_oddsP_1 okM (by omega) ha1 ha4 e1 g20
/-- what a village answers -/
theorem vA_mvA {LF F : Nat → Nat → Int32} {V N v : Nat} (E : EQV (vC LF) (vM F) V N) (hN : N ≤ 5) (hv : v < V) (j : Nat) : vA LF N v j = mvA F N v j := by
  unfold vA mvA
  rw [hld_c E _ _ hv, hld_c E _ _ hv, lst_c E hv, wi_c E, oz_c E, mls_lst, os_oz _ _ hN, show LF 2 v = F 3 v from E.1 v hv]
theorem op_village (x y : Int32) (H : RW n wc wm) : OP n yX4_village cX4_village [some (.ref 0), some (.int x), some (.int y)] yX5_village cX5_village [some (.ref 0), some (.int x), some (.int y)] (some .int) wc wm := by
  have H1 := H.up
  obtain ⟨h, pg, PF, l, LF, s, SF, il, ILF, is, ISF, t, TF, k, KF, g, G, F, V, N, L, K, rfl, rfl, r1, r2, r3, r4, r5⟩ := H
  obtain ⟨okC, okM, E, R, _⟩ := r1
  by_cases hx : ∃ w, w < V ∧ x = nI w
  · obtain ⟨v, hv, rfl⟩ := hx
    by_cases hy : y < 0 ∨ 7 < y
    · refine OP.go (c_village_o okC hv ?_) (m_village_o okM hv hy) H1
      rw [i32_lt, i32_lt] at hy
      exact hy
    · obtain ⟨j, _, hj, rfl⟩ := arg_in (a := 0) (b := 7) (by decide) (by decide) (fun q => hy (Or.inl q)) (nlt_le.mp (fun q => hy (Or.inr q)))
      refine OP.go (c_village_n okC hv j (by omega)) ?_ H1
      rw [vA_mvA E okM.2.2.2.1 hv]
      exact m_village_k okM hv (by omega)
  · have hx : ∀ w, w < V → x ≠ nI w := fun w hw e => hx ⟨w, hw, e⟩
    exact OP.go (c_village_u okC hx y) (m_village_u okM hx y) H1
/-- what a weight answers -/
theorem wA_mwA {LF F SF : Nat → Nat → Int32} {V N K w : Nat} (E : EQV (vC LF) (vM F) V N) (R : RNG (vM F) V N) (HC : HOM (vC LF) V N) (h4 : V ≤ 4) (hN : N ≤ 5) (S : EQS SF (vS F) K) (h01 : ∀ i, i < K → F 17 i = 0 ∨ F 17 i = 1) (hw : w < N) (j : Nat) : wA LF SF N K w j = mwA F N K w j := by
  obtain ⟨e1, e2, e3, e4, e5⟩ := E.2 w hw
  have e1 : LF 3 w = F 4 w := e1
  have e2 : LF 4 w = F 5 w := e2
  have e3 : LF 5 w = F 6 w := e3
  have e4 : LF 6 w = F 7 w := e4
  have e5 : LF 7 w = F 8 w := e5
  have e6 : (if F 4 w = 3 then F 8 w else 0) = F 8 w := by
    by_cases q : F 4 w = 3
    · rw [if_pos q]
    · obtain ⟨s, _, hs, h0⟩ := (R.2 w hw).2.2.2
      rw [if_neg q]
      have hs : F 8 w = nI s := hs
      rw [hs, h0 q]; rfl
  unfold wA mwA
  rw [e1, e2, e3, e4, e5, e6, po_c E HC h4 S hw, ww_c E HC h4 S hw, mch_po R.hom h4 hN hw h01, mwf_ww R.hom h4 hN hw h01]
theorem op_weight (x y : Int32) (H : RW n wc wm) : OP n yX4_weight cX4_weight [some (.ref 0), some (.int x), some (.int y)] yX5_weight cX5_weight [some (.ref 0), some (.int x), some (.int y)] (some .int) wc wm := by
  have H1 := H.up
  obtain ⟨h, pg, PF, l, LF, s, SF, il, ILF, is, ISF, t, TF, k, KF, g, G, F, V, N, L, K, rfl, rfl, r1, r2, r3, r4, r5⟩ := H
  have r1' := r1
  have r2' := r2
  obtain ⟨okC, okM, E, R, _⟩ := r1
  obtain ⟨s1, s2, s3, s4, s5⟩ := r2
  by_cases hx : ∃ w, w < N ∧ x = nI w
  · obtain ⟨w, hw, rfl⟩ := hx
    by_cases hy : y < 0 ∨ 7 < y
    · refine OP.go (c_weight_o okC hw ?_) (m_weight_o okM hw hy) H1
      rw [i32_lt, i32_lt] at hy
      exact hy
    · obtain ⟨j, _, hj, rfl⟩ := arg_in (a := 0) (b := 7) (by decide) (by decide) (fun q => hy (Or.inl q)) (nlt_le.mp (fun q => hy (Or.inr q)))
      have hSF : ∀ a, a ≠ 5 → (if j = 7 then wwS (vC LF) SF N K w else SF) a = SF a := fun a ha => by
        split
        · exact wwS_ne _ SF N K w ha
        · rfl
      refine OP.go (c_weight_n okC s1 s3 hw j (by omega)) (by rw [wA_mwA E R okC.2.2.2.2 okM.2.2.1 okM.2.2.2.1 s4 s5 hw]; exact m_weight_k okM s2 s3 hw (by omega)) ⟨h, pg, PF, l, LF, s, _, il, ILF, is, ISF, t, TF, k, KF, g, G, F, V, N, L, K, rfl, rfl, r1', ⟨s1, s2, s3, fun i hi => ?_, s5⟩, r3, r4.up, r5.up⟩
      rw [hSF 1 (by decide), hSF 2 (by decide), hSF 3 (by decide), hSF 4 (by decide)]
      exact s4 i hi
  · have hx : ∀ w, w < N → x ≠ nI w := fun w hw e => hx ⟨w, hw, e⟩
    exact OP.go (c_weight_u okC hx y) (m_weight_u okM hx y) H1
theorem cA_mcA {h pg l s g : Nat → Int32} {PF LF SF F : Nat → Nat → Int32} {il : Nat → Int32} {ILF : Nat → Nat → Int32} {is : Nat → Int32} {ISF : Nat → Nat → Int32} {V N L K : Nat} (r : Rel n h pg PF l LF s SF il ILF is ISF g F V N L K) (j : Nat) : cA h pg l s LF V N j = mcA g F V N j := by
  obtain ⟨⟨okC, okM, E, R, ⟨W, _, w1, w2⟩, h9, h10⟩, ⟨s1, s2, _⟩, ⟨p1, p2, _⟩, ⟨⟨T, _, t1, t2⟩, P, _, q1, q2⟩, _⟩ := r
  unfold cA mcA
  have e4 : (if V = 0 then (0 : Int32) else loa (vC LF) V N) = mla (vM F) V N := by
    by_cases z : V = 0
    · rw [if_pos z, mla, if_pos z]
    · rw [if_neg z, loa_c E, mla_loa _ N (by omega)]
  rw [okC.1, okC.2.1, okM.1, okM.2.1, wi_c E, ← pn_bitc _ okM.2.2.2.1, oa_c E, ← os_31 _ okM.2.2.2.1, e4, w1, w2, h9, h10, s1, s2, p1, p2, t1, t2, q1, q2]
theorem op_count (x : Int32) (H : RW n wc wm) : OP n yX4_count cX4_count [some (.ref 0), some (.int x)] yX5_count cX5_count [some (.ref 0), some (.int x)] (some .int) wc wm := by
  have H1 := H.up
  obtain ⟨h, pg, PF, l, LF, s, SF, il, ILF, is, ISF, t, TF, k, KF, g, G, F, V, N, L, K, rfl, rfl, r⟩ := H
  by_cases hx : x.toInt < 0 ∨ 11 < x.toInt
  · exact OP.go (c_count_o hx) (m_count_o hx) H1
  · obtain ⟨j, _, hj, rfl⟩ := arg_in (a := 0) (b := 11) (x := x) (by decide) (by decide) (fun q => hx (Or.inl (i32_lt.mp q))) (nlt_le.mp (fun q => hx (Or.inr (i32_lt.mp q))))
    refine OP.go (c_count_n r.1.1 j (by omega)) ?_ H1
    rw [cA_mcA r]
    exact m_count_k r.1.2.1 (by omega)
end OPA
