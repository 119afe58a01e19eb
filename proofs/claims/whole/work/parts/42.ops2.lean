/-! pack, decades, image, restore, digest -/
theorem RNG.pk {X : Nat → Nat → Int32} {V N : Nat} (R : RNG X V N) : PK X V N (fun v => (X 0 v).toNatClampNeg) (fun k => (X 2 k).toNatClampNeg) (fun k => (bear (X 1 k) (X 2 k) 0).toNatClampNeg) := by
  refine ⟨fun v hv => ?_, fun k hk => ?_, fun k hk => ?_⟩
  · obtain ⟨b, h1, h2⟩ := R.1 v hv
    show X 0 v = nI (X 0 v).toNatClampNeg ∧ (X 0 v).toNatClampNeg ≤ 9
    rw [h2, nI_clamp (by omega)]
    exact ⟨rfl, h1⟩
  · obtain ⟨_, ⟨o, h1, h2, h3⟩, _⟩ := R.2 k hk
    show X 2 k = nI (X 2 k).toNatClampNeg ∧ (X 2 k).toNatClampNeg ≤ 9 ∧ 1 ≤ (X 2 k).toNatClampNeg
    rw [h3, nI_clamp (by omega)]
    exact ⟨rfl, h2, h1⟩
  · obtain ⟨⟨c, c1, c2⟩, ⟨o, h1, h2, h3⟩, _⟩ := R.2 k hk
    show bear (X 1 k) (X 2 k) 0 = nI (bear (X 1 k) (X 2 k) 0).toNatClampNeg ∧ (bear (X 1 k) (X 2 k) 0).toNatClampNeg ≤ 100
    obtain ⟨b, b1, b2⟩ := bear_nn (c := c) (o := o) (s := 0) (by omega) (by omega)
    rw [c2, h3, show (0 : Int32) = nI 0 from rfl, b2, nI_clamp (by omega)]
    exact ⟨rfl, b1⟩
theorem PK.e {X Y : Nat → Nat → Int32} {V N : Nat} {b o r : Nat → Nat} (E : EQV X Y V N) (pk : PK Y V N b o r) : PK X V N b o r :=
  ⟨fun v hv => by rw [E.1 v hv]; exact pk.1 v hv, fun k hk => by rw [(E.2 k hk).2.1]; exact pk.2.1 k hk, fun k hk => by rw [(E.2 k hk).1, (E.2 k hk).2.1]; exact pk.2.2 k hk⟩
theorem ipa_0 {y : Int32} (h : ipa y = 0) : wtn y 0 1 = 0 ∧ wtn y 10 13 = 0 := by
  unfold ipa at h
  by_cases h0 : y = 0
  · rw [if_pos h0] at h; exact absurd h (by decide)
  · rw [if_neg h0] at h
    by_cases h1 : y = 1
    · rw [if_pos h1] at h; exact absurd h (by decide)
    · rw [if_neg h1] at h
      have z0 : ¬ y.toInt = 0 := fun z => h0 (i32_eq z)
      have z1 : ¬ y.toInt = 1 := fun z => h1 (i32_eq z)
      have c0 : (0 : Int32).toInt = 0 := by decide
      have c1 : (1 : Int32).toInt = 1 := by decide
      have c10 : (10 : Int32).toInt = 10 := by decide
      have c13 : (13 : Int32).toInt = 13 := by decide
      have c14 : (14 : Int32).toInt = 14 := by decide
      refine ⟨wtn_is0 ?_, wtn_is0 ?_⟩
      · rw [i32_lt, i32_lt, c0, c1]; omega
      · by_cases h2 : y < 10
        · exact Or.inl h2
        · rw [if_neg h2] at h
          by_cases h3 : 14 ≤ y
          · rw [i32_le, c14] at h3
            refine Or.inr ?_
            rw [i32_lt, c13]; omega
          · rw [if_neg h3] at h; exact absurd h (by decide)
theorem ipa_1 {y : Int32} (h : ¬ ipa y = 0) : y = 0 ∨ y = 1 ∨ ∃ j, j < 4 ∧ y = nI (10 + j) := by
  unfold ipa at h
  by_cases h0 : y = 0
  · exact Or.inl h0
  · rw [if_neg h0] at h
    by_cases h1 : y = 1
    · exact Or.inr (Or.inl h1)
    · rw [if_neg h1] at h
      by_cases h2 : y < 10
      · rw [if_pos h2] at h; exact absurd rfl h
      · rw [if_neg h2] at h
        by_cases h3 : 14 ≤ y
        · rw [if_pos h3] at h; exact absurd rfl h
        · obtain ⟨m, m1, m2, m3⟩ := arg_in (a := 10) (b := 13) (x := y) (by decide) (by decide) h2 (by
            have h3 := nle_lt.mp h3
            rw [i32_lt, show (14 : Int32).toInt = 14 from by decide] at h3
            rw [i32_le, nI_toInt (by decide)]; omega)
          exact Or.inr (Or.inr ⟨m - 10, by omega, by rw [m3]; congr 1; omega⟩)
section OPC
variable {n : Nat} {wc wm : List Ce}
theorem pack_RW {h pg : Nat → Int32} {PF : Nat → Nat → Int32} {l : Nat → Int32} {LF : Nat → Nat → Int32} {s : Nat → Int32} {SF : Nat → Nat → Int32} {il : Nat → Int32} {ILF : Nat → Nat → Int32} {is : Nat → Int32} {ISF : Nat → Nat → Int32} {t : Nat → Int32} {TF : Nat → Nat → Int32} {k : Nat → Int32} {KF : Nat → Nat → Int32} {g g1 : Nat → Int32} {G : Nat → Int64} {F F1 : Nat → Nat → Int32} {V N L K P : Nat} (r : Rel n h pg PF l LF s SF il ILF is ISF g F V N L K) (hP : P < 20) (hh : h 9 = nI P) (hg12 : g 12 = nI P) (hg : ∀ i, i ≠ 12 → i ≠ 27 → i ≠ 28 → g1 i = g i) (h12 : g1 12 = g 12 + 1) (hA : Ag F F1) : RW (n + 1) (clsW (upd h 9 (h 9 + 1)) pg PF l LF s SF il ILF is ISF t TF k KF) (modW g1 G F1) := by
  obtain ⟨r1, r2, r3, r4, r5⟩ := r
  have rF : ∀ a, a < 23 ∨ 26 < a → F1 a = F a := hA
  have r1F : RLd l LF g F1 V N := by
    obtain ⟨okC, okM, E, R, q⟩ := r1
    have e : ∀ a, a ≤ 5 → vM F1 a = vM F a := fun a ha => rF (a + 3) (by omega)
    exact ⟨okC, okM.ag hA, E.r e, R.r e, q⟩
  refine ⟨_, pg, PF, l, LF, s, SF, il, ILF, is, ISF, t, TF, k, KF, g1, G, F1, V, N, L, K, rfl, rfl, r1F.gg (hg 1 (by decide) (by decide) (by decide)) (hg 2 (by decide) (by decide) (by decide)) (hg 9 (by decide) (by decide) (by decide)) (hg 10 (by decide) (by decide) (by decide)) (hg 11 (by decide) (by decide) (by decide)), (r2.gg (g' := g1) (hg 13 (by decide) (by decide) (by decide))).f (fun a _ _ => rF a (by omega)), (r3.gg (g' := g1) (hg 18 (by decide) (by decide) (by decide))).f (rF 19 (by omega)), ⟨?_, P + 1, by omega, ?_, ?_⟩, (r5.up.gg (g' := g1) (hg 0 (by decide) (by decide) (by decide)) (hg 34 (by decide) (by decide) (by decide)) (hg 35 (by decide) (by decide) (by decide)) (hg 36 (by decide) (by decide) (by decide)) (hg 37 (by decide) (by decide) (by decide)) (hg 38 (by decide) (by decide) (by decide)) (hg 39 (by decide) (by decide) (by decide))).f (rF 4 (by omega)) (fun a _ _ => rF a (by omega))⟩
  · obtain ⟨T, t1, t2, t3⟩ := r4.1
    exact ⟨T, by omega, t2, (hg 0 (by decide) (by decide) (by decide)).trans t3⟩
  · show h 9 + 1 = nI (P + 1)
    rw [hh, nI_1]
  · rw [h12, hg12, nI_1]
theorem op_pack (x y : Int32) (H : RW n wc wm) : OP n yX4_pack cX4_pack [some (.ref 0), some (.int x), some (.int y)] yX5_pack cX5_pack [some (.ref 0), some (.int x), some (.int y)] (some .int) wc wm := by
  have H1 := H.up
  obtain ⟨h, pg, PF, l, LF, s, SF, il, ILF, is, ISF, t, TF, k, KF, g, G, F, V, N, L, K, rfl, rfl, r⟩ := H
  have okC := r.1.1
  have okM := r.1.2.1
  have E := r.1.2.2.1
  have R := r.1.2.2.2.1
  obtain ⟨P, hP, q1, q2⟩ := r.2.2.2.1.2
  by_cases hx : x < 1 ∨ 20 < x
  · exact OP.go (c_pack_o (hx.elim Or.inl (fun z => Or.inr (Or.inl z)))) (m_pack_o1 (wtn_is0 hx)) H1
  · have hx1 : ¬ x < 1 := fun z => hx (Or.inl z)
    have hx20 : ¬ 20 < x := fun z => hx (Or.inr z)
    have hxw : ¬ wtn x 1 20 = 0 := by rw [wtn_is1 hx1 hx20]; decide
    by_cases hy : ipa y = 0
    · obtain ⟨y1, y2⟩ := ipa_0 hy
      exact OP.go (c_pack_o (Or.inr (Or.inr hy))) (m_pack_o2 hxw y1 y2) H1
    · have hyw : ¬ wtn y 0 1 = 0 ∨ ¬ wtn y 10 13 = 0 := by
        rcases ipa_1 hy with z | z | ⟨j, hj, z⟩
        · exact Or.inl (by rw [z]; decide)
        · exact Or.inl (by rw [z]; decide)
        · exact Or.inr (by rw [z]; exact wtn_b hj)
      by_cases hV : V = 0
      · subst hV
        exact OP.go (c_pack_s1 okC hx1 hx20 hy) (m_pack_s1 hxw hyw okM.1) H1
      · by_cases hP20 : P = 20
        · subst hP20
          exact OP.go (c_pack_s2 okC (by omega) hx1 hx20 hy (by rw [q1]; exact nI_nlt (b := 20) (Nat.le_refl _) (by decide))) (m_pack_s2 hxw hyw (by rw [okM.1]; exact nI_ne0 (by omega) (by have := okM.2.2.1; omega)) q2) H1
        · obtain ⟨f, f1, f20, rfl⟩ := arg_in (a := 1) (b := 20) (x := x) (by decide) (by decide) hx1 (nlt_le.mp hx20)
          have h9 : h 9 < 20 := by rw [q1]; exact nI_lt (b := 20) (by omega) (by decide)
          have h12 : ¬ g 12 = 20 := by rw [q2]; exact fun z => hP20 ((nI_eq (b := 20) (by omega) (by decide)).mp z)
          have pk := R.pk
          have h4 := okM.2.2.1
          have h5 := okM.2.2.2.1
          have e12 : (12 : Nat) = 9 - V + V + 3 := by omega
          obtain ⟨pC, fC, a1, a2, a3⟩ := srch_FO (f := f) (PK.e E pk) h4 h5 f20 (k, KF)
          have ho := fun k (hk : k < N) => (pk.2.1 k hk).2.1
          rcases ipa_1 hy with z | z | ⟨j, hj, z⟩
          · subst z
            refine ⟨_, fun w => w = _, by rw [e12]; exact c_pack_0 okC (by omega) hx1 hx20 h9, fun w hw => (m_pack_0 (d := 8) okM pk f1 f20 (by omega) h12).mono (fun rv w' hq => ?_), Or.inl ⟨rfl, _, rfl⟩⟩
            obtain ⟨p, g1, F1, hp, hg, hg12, hA, rfl, rfl⟩ := hq
            obtain ⟨u1, _, _⟩ := FO_uniq h4 h5 ho hp fC
            subst hw
            exact ⟨by rw [a1, u1], pack_RW r (by omega) q1 q2 hg hg12 hA⟩
          · subst z
            refine ⟨_, fun w => w = _, by rw [e12]; exact c_pack_1 okC (by omega) hx1 hx20 h9, fun w hw => (m_pack_1 (d := 8) okM pk f1 f20 (by omega) h12).mono (fun rv w' hq => ?_), Or.inl ⟨rfl, _, rfl⟩⟩
            obtain ⟨p, g1, F1, hp, hg, hg12, hA, rfl, rfl⟩ := hq
            obtain ⟨_, u1, _⟩ := FO_uniq h4 h5 ho hp fC
            subst hw
            exact ⟨by rw [a2, u1], pack_RW r (by omega) q1 q2 hg hg12 hA⟩
          · subst z
            refine ⟨_, fun w => w = _, by rw [e12]; exact c_pack_b okC (by omega) hx1 hx20 hj h9, fun w hw => (m_pack_b (d := 8) okM pk f1 f20 (by omega) h12 hj).mono (fun rv w' hq => ?_), Or.inl ⟨rfl, _, rfl⟩⟩
            obtain ⟨p, g1, F1, hp, hg, hg12, hA, rfl, rfl⟩ := hq
            obtain ⟨_, _, u1⟩ := FO_uniq h4 h5 ho hp fC
            subst hw
            refine ⟨?_, pack_RW r (by omega) q1 q2 hg hg12 hA⟩
            rw [a3 j hj]
            by_cases hjV : j < V
            · rw [if_pos hjV, if_pos hjV, u1 j hjV]
            · rw [if_neg hjV, if_neg hjV]
end OPC
