/-! decades, image, restore, digest -/
section ALK
variable {X Y Z : Nat → Nat → Int32} {V N : Nat}
theorem EQV.tr (a : EQV X Y V N) (b : EQV Y Z V N) : EQV X Z V N :=
  ⟨fun v hv => (a.1 v hv).trans (b.1 v hv), fun k hk => ⟨(a.2 k hk).1.trans (b.2 k hk).1, (a.2 k hk).2.1.trans (b.2 k hk).2.1, (a.2 k hk).2.2.1.trans (b.2 k hk).2.2.1, (a.2 k hk).2.2.2.1.trans (b.2 k hk).2.2.2.1, (a.2 k hk).2.2.2.2.trans (b.2 k hk).2.2.2.2⟩⟩
theorem EQV.sy (a : EQV X Y V N) : EQV Y X V N :=
  ⟨fun v hv => (a.1 v hv).symm, fun k hk => ⟨(a.2 k hk).1.symm, (a.2 k hk).2.1.symm, (a.2 k hk).2.2.1.symm, (a.2 k hk).2.2.2.1.symm, (a.2 k hk).2.2.2.2.symm⟩⟩
theorem RNG.e (R : RNG Y V N) (E : EQV X Y V N) : RNG X V N := by
  refine ⟨fun v hv => by rw [E.1 v hv]; exact R.1 v hv, fun k hk => ?_⟩
  obtain ⟨e1, e2, e3, e4, e5⟩ := E.2 k hk
  rw [e1, e2, e3, e4, e5]
  exact R.2 k hk
end ALK
theorem cp_E (L2 LF : Nat → Nat → Int32) {V N : Nat} (h4 : V ≤ 4) (h5 : N ≤ 5) : EQV (vC (cpW L2 5 0 (cpB L2 4 0 LF))) (vC L2) V N :=
  ⟨fun v hv => cp_at L2 LF 2 v (Or.inl ⟨rfl, by omega⟩), fun k hk => ⟨cp_at L2 LF 3 k (Or.inr ⟨by omega, by omega, by omega⟩), cp_at L2 LF 4 k (Or.inr ⟨by omega, by omega, by omega⟩), cp_at L2 LF 5 k (Or.inr ⟨by omega, by omega, by omega⟩), cp_at L2 LF 6 k (Or.inr ⟨by omega, by omega, by omega⟩), cp_at L2 LF 7 k (Or.inr ⟨by omega, by omega, by omega⟩)⟩⟩
theorem RLd.f {l g : Nat → Int32} {LF F F' : Nat → Nat → Int32} {V N : Nat} (r : RLd l LF g F V N) (hF : ∀ a, 3 ≤ a → a ≤ 8 → F' a = F a) : RLd l LF g F' V N := by
  obtain ⟨okC, okM, E, R, q⟩ := r
  have e : ∀ a, a ≤ 5 → vM F' a = vM F a := fun a ha => hF (a + 3) (by omega) (by omega)
  refine ⟨okC, ⟨okM.1, okM.2.1, okM.2.2.1, okM.2.2.2.1, fun k hk => ?_⟩, E.r e, R.r e, q⟩
  rw [hF 6 (by omega) (by omega)]
  exact okM.2.2.2.2 k hk
theorem RLd.e {l g : Nat → Int32} {LF F F' : Nat → Nat → Int32} {V N : Nat} (r : RLd l LF g F V N) (e : EQV (vM F') (vM F) V N) : RLd l LF g F' V N := by
  obtain ⟨okC, okM, E, R, hW, h9, h10⟩ := r
  exact RLd.mk okC.1 okC.2.1 okM.1 okM.2.1 okM.2.2.1 okM.2.2.2.1 (E.tr e.sy) (R.e e) hW h9 h10
theorem im4_row : ∀ (n k : Nat) (F : Nat → Nat → Int32) {a : Nat}, ¬ a = 40 → im4 n k F a = F a
  | 0, _, _, _, _ => rfl
  | n + 1, k, F, a, h => by
    rw [im4, im4_row n (k + 1) _ h, up2, if_neg (by omega)]
theorem im5_row : ∀ (n k : Nat) (F : Nat → Nat → Int32) {a : Nat}, (a < 41 ∨ 44 < a) → im5 n k F a = F a
  | 0, _, _, _, _ => rfl
  | n + 1, k, F, a, h => by
    rw [im5, im5_row n (k + 1) _ h, up2, if_neg (by omega), up2, if_neg (by omega), up2, if_neg (by omega), up2, if_neg (by omega)]
theorem im8_row : ∀ (n k : Nat) (F : Nat → Nat → Int32) {a : Nat}, (a < 45 ∨ 48 < a) → im8 n k F a = F a
  | 0, _, _, _, _ => rfl
  | n + 1, k, F, a, h => by
    rw [im8, im8_row n (k + 1) _ h, up2, if_neg (by omega), up2, if_neg (by omega), up2, if_neg (by omega), up2, if_neg (by omega)]
theorem re4_row : ∀ (n k : Nat) (F : Nat → Nat → Int32) {a : Nat}, ¬ a = 3 → re4 n k F a = F a
  | 0, _, _, _, _ => rfl
  | n + 1, k, F, a, h => by
    rw [re4, re4_row n (k + 1) _ h, up2, if_neg (by omega)]
theorem re5_row : ∀ (n k : Nat) (F : Nat → Nat → Int32) {a : Nat}, (a < 5 ∨ 8 < a) → re5 n k F a = F a
  | 0, _, _, _, _ => rfl
  | n + 1, k, F, a, h => by
    rw [re5, re5_row n (k + 1) _ h, up2, if_neg (by omega), up2, if_neg (by omega), up2, if_neg (by omega), up2, if_neg (by omega)]
theorem re8_row : ∀ (n k : Nat) (F : Nat → Nat → Int32) {a : Nat}, (a < 14 ∨ 17 < a) → re8 n k F a = F a
  | 0, _, _, _, _ => rfl
  | n + 1, k, F, a, h => by
    rw [re8, re8_row n (k + 1) _ h, up2, if_neg (by omega), up2, if_neg (by omega), up2, if_neg (by omega), up2, if_neg (by omega)]
theorem svF_row : ∀ (n k : Nat) (F : Nat → Nat → Int32) {a : Nat}, (a < 30 ∨ 33 < a) → svF n k F a = F a
  | 0, _, _, _, _ => rfl
  | n + 1, k, F, a, h => by
    rw [svF, svF_row n (k + 1) _ h, up2, if_neg (by omega), up2, if_neg (by omega), up2, if_neg (by omega), up2, if_neg (by omega)]
theorem im4_at (F : Nat → Nat → Int32) : ∀ (j : Nat), j < 4 → im4 4 0 F 40 j = F 3 j
  | 0, _ => rfl
  | 1, _ => rfl
  | 2, _ => rfl
  | 3, _ => rfl
  | j + 4, h => absurd h (by omega)
theorem re4_at (F : Nat → Nat → Int32) : ∀ (j : Nat), j < 4 → re4 4 0 F 3 j = F 40 j
  | 0, _ => rfl
  | 1, _ => rfl
  | 2, _ => rfl
  | 3, _ => rfl
  | j + 4, h => absurd h (by omega)
theorem im5_at (F : Nat → Nat → Int32) : ∀ (j : Nat), j < 5 → im5 5 0 F 41 j = F 5 j ∧ im5 5 0 F 42 j = F 6 j ∧ im5 5 0 F 43 j = F 7 j ∧ im5 5 0 F 44 j = F 8 j
  | 0, _ => ⟨rfl, rfl, rfl, rfl⟩
  | 1, _ => ⟨rfl, rfl, rfl, rfl⟩
  | 2, _ => ⟨rfl, rfl, rfl, rfl⟩
  | 3, _ => ⟨rfl, rfl, rfl, rfl⟩
  | 4, _ => ⟨rfl, rfl, rfl, rfl⟩
  | j + 5, h => absurd h (by omega)
theorem re5_at (F : Nat → Nat → Int32) : ∀ (j : Nat), j < 5 → re5 5 0 F 5 j = F 41 j ∧ re5 5 0 F 6 j = F 42 j ∧ re5 5 0 F 7 j = F 43 j ∧ re5 5 0 F 8 j = F 44 j
  | 0, _ => ⟨rfl, rfl, rfl, rfl⟩
  | 1, _ => ⟨rfl, rfl, rfl, rfl⟩
  | 2, _ => ⟨rfl, rfl, rfl, rfl⟩
  | 3, _ => ⟨rfl, rfl, rfl, rfl⟩
  | 4, _ => ⟨rfl, rfl, rfl, rfl⟩
  | j + 5, h => absurd h (by omega)
theorem im8_at (F : Nat → Nat → Int32) : ∀ (j : Nat), j < 8 → im8 8 0 F 45 j = F 14 j ∧ im8 8 0 F 46 j = F 15 j ∧ im8 8 0 F 47 j = F 16 j ∧ im8 8 0 F 48 j = F 17 j
  | 0, _ => ⟨rfl, rfl, rfl, rfl⟩
  | 1, _ => ⟨rfl, rfl, rfl, rfl⟩
  | 2, _ => ⟨rfl, rfl, rfl, rfl⟩
  | 3, _ => ⟨rfl, rfl, rfl, rfl⟩
  | 4, _ => ⟨rfl, rfl, rfl, rfl⟩
  | 5, _ => ⟨rfl, rfl, rfl, rfl⟩
  | 6, _ => ⟨rfl, rfl, rfl, rfl⟩
  | 7, _ => ⟨rfl, rfl, rfl, rfl⟩
  | j + 8, h => absurd h (by omega)
theorem re8_at (F : Nat → Nat → Int32) : ∀ (j : Nat), j < 8 → re8 8 0 F 14 j = F 45 j ∧ re8 8 0 F 15 j = F 46 j ∧ re8 8 0 F 16 j = F 47 j ∧ re8 8 0 F 17 j = F 48 j
  | 0, _ => ⟨rfl, rfl, rfl, rfl⟩
  | 1, _ => ⟨rfl, rfl, rfl, rfl⟩
  | 2, _ => ⟨rfl, rfl, rfl, rfl⟩
  | 3, _ => ⟨rfl, rfl, rfl, rfl⟩
  | 4, _ => ⟨rfl, rfl, rfl, rfl⟩
  | 5, _ => ⟨rfl, rfl, rfl, rfl⟩
  | 6, _ => ⟨rfl, rfl, rfl, rfl⟩
  | 7, _ => ⟨rfl, rfl, rfl, rfl⟩
  | j + 8, h => absurd h (by omega)
theorem cpS_at (S2 F : Nat → Nat → Int32) : ∀ (j : Nat), j < 8 → cpS S2 8 0 F 1 j = S2 1 j ∧ cpS S2 8 0 F 2 j = S2 2 j ∧ cpS S2 8 0 F 3 j = S2 3 j ∧ cpS S2 8 0 F 4 j = vp_nar .boolean (S2 4 j)
  | 0, _ => ⟨rfl, rfl, rfl, rfl⟩
  | 1, _ => ⟨rfl, rfl, rfl, rfl⟩
  | 2, _ => ⟨rfl, rfl, rfl, rfl⟩
  | 3, _ => ⟨rfl, rfl, rfl, rfl⟩
  | 4, _ => ⟨rfl, rfl, rfl, rfl⟩
  | 5, _ => ⟨rfl, rfl, rfl, rfl⟩
  | 6, _ => ⟨rfl, rfl, rfl, rfl⟩
  | 7, _ => ⟨rfl, rfl, rfl, rfl⟩
  | j + 8, h => absurd h (by omega)
theorem nar01 {x : Int32} (h : x = 0 ∨ x = 1) : vp_nar .boolean x = x := by
  rcases h with q | q
  · rw [q]; decide
  · rw [q]; decide
def imF (F : Nat → Nat → Int32) : Nat → Nat → Int32 := im8 8 0 (im5 5 0 (im4 4 0 F))
def reF (F : Nat → Nat → Int32) : Nat → Nat → Int32 := re8 8 0 (re5 5 0 (re4 4 0 F))
theorem imF_row (F : Nat → Nat → Int32) {a : Nat} (h : a < 40 ∨ 48 < a) : imF F a = F a := by
  unfold imF
  rw [im8_row _ _ _ (by omega), im5_row _ _ _ (by omega), im4_row _ _ _ (by omega)]
theorem reF_row (F : Nat → Nat → Int32) {a : Nat} (h : ¬ a = 3 ∧ (a < 5 ∨ 8 < a) ∧ (a < 14 ∨ 17 < a)) : reF F a = F a := by
  unfold reF
  rw [re8_row _ _ _ (by omega), re5_row _ _ _ (by omega), re4_row _ _ _ (by omega)]
theorem vI_0 (F : Nat → Nat → Int32) (v : Nat) : vI F 0 v = F 40 v := rfl
theorem vI_1 (F : Nat → Nat → Int32) (v : Nat) : vI F 1 v = F 4 v := rfl
theorem vI_2 (F : Nat → Nat → Int32) (v : Nat) : vI F 2 v = F 41 v := rfl
theorem vI_3 (F : Nat → Nat → Int32) (v : Nat) : vI F 3 v = F 42 v := rfl
theorem vI_4 (F : Nat → Nat → Int32) (v : Nat) : vI F 4 v = F 43 v := rfl
theorem vI_5 (F : Nat → Nat → Int32) (v : Nat) : vI F 5 v = F 44 v := rfl
theorem vM_a (F : Nat → Nat → Int32) (a v : Nat) : vM F a v = F (a + 3) v := rfl
theorem EQV.mkI {F Y : Nat → Nat → Int32} {V N : Nat} (h0 : ∀ v, v < V → F 40 v = Y 0 v) (h : ∀ k, k < N → F 4 k = Y 1 k ∧ F 41 k = Y 2 k ∧ F 42 k = Y 3 k ∧ F 43 k = Y 4 k ∧ F 44 k = Y 5 k) : EQV (vI F) Y V N := ⟨h0, h⟩
theorem EQV.mkM {F Y : Nat → Nat → Int32} {V N : Nat} (h0 : ∀ v, v < V → F 3 v = Y 0 v) (h : ∀ k, k < N → F 4 k = Y 1 k ∧ F 5 k = Y 2 k ∧ F 6 k = Y 3 k ∧ F 7 k = Y 4 k ∧ F 8 k = Y 5 k) : EQV (vM F) Y V N := ⟨h0, h⟩
theorem EQS.mkJ {A F : Nat → Nat → Int32} {K : Nat} (h : ∀ i, i < K → A 1 i = F 45 i ∧ A 2 i = F 46 i ∧ A 3 i = F 47 i ∧ A 4 i = F 48 i) : EQS A (vJ F) K := h
theorem EQS.mkS {A F : Nat → Nat → Int32} {K : Nat} (h : ∀ i, i < K → A 1 i = F 14 i ∧ A 2 i = F 15 i ∧ A 3 i = F 16 i ∧ A 4 i = F 17 i) : EQS A (vS F) K := h
theorem imF_E (F : Nat → Nat → Int32) {V N : Nat} (h4 : V ≤ 4) (h5 : N ≤ 5) : EQV (vI (imF F)) (vM F) V N := by
  refine EQV.mkI (fun v hv => ?_) (fun k hk => ?_)
  · unfold imF
    rw [vM_a, im8_row _ _ _ (by omega), im5_row _ _ _ (by omega), im4_at F v (by omega)]
  · rw [vM_a, vM_a, vM_a, vM_a, vM_a]
    refine ⟨by rw [imF_row F (by omega)], ?_⟩
    obtain ⟨a1, a2, a3, a4⟩ := im5_at (im4 4 0 F) k (by omega)
    unfold imF
    rw [im8_row _ _ _ (by omega), im8_row _ _ _ (by omega), im8_row _ _ _ (by omega), im8_row _ _ _ (by omega), a1, a2, a3, a4, im4_row _ _ _ (by omega), im4_row _ _ _ (by omega), im4_row _ _ _ (by omega), im4_row _ _ _ (by omega)]
    exact ⟨rfl, rfl, rfl, rfl⟩
theorem imF_S (F : Nat → Nat → Int32) {i : Nat} (hi : i < 8) : imF F 45 i = F 14 i ∧ imF F 46 i = F 15 i ∧ imF F 47 i = F 16 i ∧ imF F 48 i = F 17 i := by
  obtain ⟨a1, a2, a3, a4⟩ := im8_at (im5 5 0 (im4 4 0 F)) i hi
  unfold imF
  rw [a1, a2, a3, a4, im5_row _ _ _ (by omega), im5_row _ _ _ (by omega), im5_row _ _ _ (by omega), im5_row _ _ _ (by omega), im4_row _ _ _ (by omega), im4_row _ _ _ (by omega), im4_row _ _ _ (by omega), im4_row _ _ _ (by omega)]
  exact ⟨rfl, rfl, rfl, rfl⟩
theorem reF_E (F : Nat → Nat → Int32) {V N : Nat} (h4 : V ≤ 4) (h5 : N ≤ 5) : EQV (vM (reF F)) (vI F) V N := by
  refine EQV.mkM (fun v hv => ?_) (fun k hk => ?_)
  · unfold reF
    rw [vI_0, re8_row _ _ _ (by omega), re5_row _ _ _ (by omega), re4_at F v (by omega)]
  · rw [vI_1, vI_2, vI_3, vI_4, vI_5]
    refine ⟨by rw [reF_row F (by omega)], ?_⟩
    obtain ⟨a1, a2, a3, a4⟩ := re5_at (re4 4 0 F) k (by omega)
    unfold reF
    rw [re8_row _ _ _ (by omega), re8_row _ _ _ (by omega), re8_row _ _ _ (by omega), re8_row _ _ _ (by omega), a1, a2, a3, a4, re4_row _ _ _ (by omega), re4_row _ _ _ (by omega), re4_row _ _ _ (by omega), re4_row _ _ _ (by omega)]
    exact ⟨rfl, rfl, rfl, rfl⟩
theorem reF_S (F : Nat → Nat → Int32) {i : Nat} (hi : i < 8) : reF F 14 i = F 45 i ∧ reF F 15 i = F 46 i ∧ reF F 16 i = F 47 i ∧ reF F 17 i = F 48 i := by
  obtain ⟨a1, a2, a3, a4⟩ := re8_at (re5 5 0 (re4 4 0 F)) i hi
  unfold reF
  rw [a1, a2, a3, a4, re5_row _ _ _ (by omega), re5_row _ _ _ (by omega), re5_row _ _ _ (by omega), re5_row _ _ _ (by omega), re4_row _ _ _ (by omega), re4_row _ _ _ (by omega), re4_row _ _ _ (by omega), re4_row _ _ _ (by omega)]
  exact ⟨rfl, rfl, rfl, rfl⟩
section OPD
variable {n : Nat} {wc wm : List Ce}
theorem op_image (H : RW n wc wm) : OP n yX4_image cX4_image [some (.ref 0)] yX5_image cX5_image [some (.ref 0), none] (some .int) wc wm := by
  have H1 := H.up
  obtain ⟨h, pg, PF, l, LF, s, SF, il, ILF, is, ISF, t, TF, k, KF, g, G, F, V, N, L, K, rfl, rfl, r1, r2, r3, r4, r5⟩ := H
  have okC := r1.1
  have okM := r1.2.1
  by_cases hV : V = 0
  · subst hV
    exact OP.go (c_image_s okC) (m_image_s okM) H1
  · have r1' := r1
    have r2' := r2
    obtain ⟨_, _, E, R, ⟨W, w1, w2, w3⟩, h9, h10⟩ := r1
    obtain ⟨s1, s2, s3, s4, s5⟩ := r2
    have h4 := okM.2.2.1
    have h5 := okM.2.2.2.1
    have hM : Ev 12 yX5_image cX5_image (some .int) 0 [some (.ref 0), none] [] (modW g G F) (Is (some (.int (l 8))) (modW (imG g) G (imF F))) := by
      rw [w2, ← w3]; exact m_image_k okM (by omega)
    have fr : ∀ a, a < 40 ∨ 48 < a → imF F a = F a := fun a ha => imF_row F ha
    have g1 : RLd l LF (imG g) (imF F) V N := (r1'.gg (g' := imG g) rfl rfl rfl rfl rfl).f (fun a _ _ => fr a (by omega))
    have g2 : RS s SF (imG g) (imF F) K := (r2'.gg (g' := imG g) rfl).f (fun a _ _ => fr a (by omega))
    have g3 : RP pg PF (imG g) (imF F) L := (r3.gg (g' := imG g) rfl).f (fr 19 (by omega))
    refine OP.go (c_image_k okC (by omega)) hM ⟨_, pg, PF, l, LF, s, SF, _, _, _, _, t, TF, k, KF, _, G, _, V, N, L, K, rfl, rfl, g1, g2, g3, r4.up.gg (g' := imG g) rfl rfl, Or.inr ⟨rfl, rfl, rfl, okC.1, okC.2.1, ((cp_E LF ILF h4 h5).tr E).tr (imF_E F h4 h5).sy, R.e (imF_E F h4 h5), ⟨W, w1, w2, w3⟩, h9, h10, K, s3, s1, s2, EQS.mkJ (fun i hi => ?_), fun i hi => ?_⟩⟩
    · obtain ⟨a1, a2, a3, a4⟩ := cpS_at SF ISF i (by omega)
      obtain ⟨b1, b2, b3, b4⟩ := imF_S F (i := i) (by omega)
      obtain ⟨c1, c2, c3, c4⟩ := s4 i hi
      have c4' : SF 4 i = F 17 i := c4
      have h01 : SF 4 i = 0 ∨ SF 4 i = 1 := by rw [c4']; exact s5 i hi
      rw [nar01 h01] at a4
      exact ⟨a1.trans (c1.trans b1.symm), a2.trans (c2.trans b2.symm), a3.trans (c3.trans b3.symm), a4.trans (c4.trans b4.symm)⟩
    · rw [(imF_S F (i := i) (by omega)).2.2.2]
      exact s5 i hi
theorem op_restore (hn : n < 100000) (H : RW n wc wm) : OP n yX4_restore cX4_restore [some (.ref 0)] yX5_restore cX5_restore [some (.ref 0), none] (some .int) wc wm := by
  have H1 := H.up
  obtain ⟨h, pg, PF, l, LF, s, SF, il, ILF, is, ISF, t, TF, k, KF, g, G, F, V, N, L, K, rfl, rfl, r1, r2, r3, r4, r5⟩ := H
  have okM := r1.2.1
  have h4 := okM.2.2.1
  have h5 := okM.2.2.2.1
  have r5' := r5
  rcases r5 with ⟨q1, q | ⟨q, T0, T, t1, t2, t3, t4⟩⟩ | ⟨q1, q2, q3, i0, i1, E, R, ⟨W, w1, w2, w3⟩, h9, h10, K1, k1, k2, k3, k4, k5⟩
  · exact OP.go (c_restore_s q1) (m_restore_s1 q) H1
  · refine OP.go (c_restore_s q1) (m_restore_s2 (by rw [q]; decide) (fun z => ?_)) H1
    rw [t3, t4, nI_eq (by omega) (by omega)] at z
    omega
  · have hM : Ev 12 yX5_restore cX5_restore (some .int) 0 [some (.ref 0), none] [] (modW g G F) (Is (some (.int (il 8))) (modW (reG g) G (reF F))) := by
      rw [w2, ← w3]; exact m_restore_k (by rw [q2]; decide) q3
    have fr : ∀ a, (¬ a = 3 ∧ (a < 5 ∨ 8 < a) ∧ (a < 14 ∨ 17 < a)) → reF F a = F a := fun a ha => reF_row F ha
    have g3 : RP pg PF (reG g) (reF F) L := (r3.gg (g' := reG g) rfl).f (fr 19 (by omega))
    have g5 : RI (n + 1) h il ILF is ISF (reG g) (reF F) V N := (r5'.up.gg (g' := reG g) rfl rfl rfl rfl rfl rfl rfl).f (fr 4 (by omega)) (fun a _ _ => fr a (by omega))
    have g1 : RLd (cpL l il) (cpW ILF 5 0 (cpB ILF 4 0 LF)) (reG g) (reF F) V N := RLd.mk i0 i1 okM.1 okM.2.1 h4 h5 (((cp_E ILF LF h4 h5).tr E).tr (reF_E F h4 h5).sy) (R.e (reF_E F h4 h5)) ⟨W, w1, w2, w3⟩ h9 h10
    refine OP.go (c_restore_k (by rw [q1]; decide)) hM ⟨h, pg, PF, _, _, _, _, il, ILF, is, ISF, t, TF, k, KF, _, G, _, V, N, L, K1, rfl, rfl, g1, ⟨k2, k3, k1, EQS.mkS (fun i hi => ?_), fun i hi => ?_⟩, g3, r4.up.gg (g' := reG g) rfl rfl, g5⟩
    · obtain ⟨a1, a2, a3, a4⟩ := cpS_at ISF SF i (by omega)
      obtain ⟨b1, b2, b3, b4⟩ := reF_S F (i := i) (by omega)
      obtain ⟨c1, c2, c3, c4⟩ := k4 i hi
      have c4' : ISF 4 i = F 48 i := c4
      have h01 : ISF 4 i = 0 ∨ ISF 4 i = 1 := by rw [c4']; exact k5 i hi
      rw [nar01 h01] at a4
      exact ⟨a1.trans (c1.trans b1.symm), a2.trans (c2.trans b2.symm), a3.trans (c3.trans b3.symm), a4.trans (c4.trans b4.symm)⟩
    · rw [(reF_S F (i := i) (by omega)).2.2.2]
      exact k5 i hi
/-- the reference is put back behind decades -/
theorem dec_RW {h pg : Nat → Int32} {PF : Nat → Nat → Int32} {l : Nat → Int32} {LF : Nat → Nat → Int32} {s : Nat → Int32} {SF : Nat → Nat → Int32} {il : Nat → Int32} {ILF : Nat → Nat → Int32} {is : Nat → Int32} {ISF : Nat → Nat → Int32} {t : Nat → Int32} {TF : Nat → Nat → Int32} {k : Nat → Int32} {KF : Nat → Nat → Int32} {g g1 : Nat → Int32} {G : Nat → Int64} {F F1 : Nat → Nat → Int32} {V N L K : Nat} (r : Rel n h pg PF l LF s SF il ILF is ISF g F V N L K) (hg : ∀ i, ¬ i = 10 → ¬ i = 11 → g1 i = g i) (hF : ∀ b, (b < 5 ∨ 8 < b) → F1 b = svF 5 0 F b) : RW (n + 1) (clsW h pg PF l LF s SF il ILF is ISF t TF k KF) (modW (upd (upd g1 10 (g 10)) 11 (g 11)) G (rsF 5 0 F1)) := by
  obtain ⟨r1, r2, r3, r4, r5⟩ := r
  have eg : ∀ i, upd (upd g1 10 (g 10)) 11 (g 11) i = g i := fun i => by
    by_cases e : i = 11
    · rw [e]; exact pk_us
    · rw [pk_un e]
      by_cases e2 : i = 10
      · rw [e2]; exact pk_us
      · rw [pk_un e2]; exact hg i e2 e
  have eF : ∀ a, (a < 5 ∨ 8 < a) → (a < 30 ∨ 33 < a) → rsF 5 0 F1 a = F a := fun a h1 h2 => by
    rw [rsF_row 5 0 F1 h1, hF a h1, svF_row 5 0 F h2]
  have h5 := r1.2.1.2.2.2.1
  have eE : EQV (vM (rsF 5 0 F1)) (vM F) V N := by
    refine EQV.mkM (fun v hv => ?_) (fun j hj => ?_)
    · rw [vM_a, eF 3 (by omega) (by omega)]
    · obtain ⟨a1, a2, a3, a4⟩ := rsF_at 5 0 F1 j (by omega) (by omega)
      obtain ⟨b1, b2, b3, b4⟩ := svF_at 5 0 F j (by omega) (by omega)
      rw [vM_a, vM_a, vM_a, vM_a, vM_a, a1, a2, a3, a4, hF 30 (by omega), hF 31 (by omega), hF 32 (by omega), hF 33 (by omega), b1, b2, b3, b4, eF 4 (by omega) (by omega)]
      exact ⟨rfl, rfl, rfl, rfl, rfl⟩
  exact ⟨h, pg, PF, l, LF, s, SF, il, ILF, is, ISF, t, TF, k, KF, _, G, _, V, N, L, K, rfl, rfl, (r1.gg (eg 1) (eg 2) (eg 9) (eg 10) (eg 11)).e eE, (r2.gg (eg 13)).f (fun a _ _ => eF a (by omega) (by omega)), (r3.gg (eg 18)).f (eF 19 (by omega) (by omega)), r4.up.gg (eg 0) (eg 12), (r5.up.gg (eg 0) (eg 34) (eg 35) (eg 36) (eg 37) (eg 38) (eg 39)).f (eF 4 (by omega) (by omega)) (fun a _ _ => eF a (by omega) (by omega))⟩
theorem op_decades (x y z : Int32) (H : RW n wc wm) : OP n yX4_decades cX4_decades [some (.ref 0), some (.int x), some (.int y), some (.int z), none, none, none, none] yX5_decades cX5_decades [some (.ref 0), some (.int x), some (.int y), some (.int z)] (some .int) wc wm := by
  have H1 := H.up
  obtain ⟨h, pg, PF, l, LF, s, SF, il, ILF, is, ISF, t, TF, k, KF, g, G, F, V, N, L, K, rfl, rfl, r⟩ := H
  have okC := r.1.1
  have okM := r.1.2.1
  have E := r.1.2.2.1
  have R := r.1.2.2.2.1
  have h4 := okM.2.2.1
  have h5 := okM.2.2.2.1
  by_cases hx : x < 1 ∨ 60 < x
  · exact OP.go (c_decades_o (hx.elim Or.inl (fun q => Or.inr (Or.inl q)))) (m_decades_o1 hx) H1
  · obtain ⟨a, a1, a60, rfl⟩ := arg_in (a := 1) (b := 60) (x := x) (by decide) (by decide) (fun q => hx (Or.inl q)) (nlt_le.mp (fun q => hx (Or.inr q)))
    by_cases hy : y < 0
    · exact OP.go (c_decades_o (Or.inr (Or.inr (Or.inl hy)))) (m_decades_o2 a1 a60 hy) H1
    · by_cases hz : z < 0 ∨ ¬ z ≤ 2
      · exact OP.go (c_decades_o (Or.inr (Or.inr (Or.inr hz)))) (m_decades_o3 a1 a60 hy (hz.imp id nle_lt.mp)) H1
      · have hz0 : ¬ z < 0 := fun q => hz (Or.inl q)
        have hz2 : z ≤ 2 := by
          by_cases q : z ≤ 2
          · exact q
          · exact absurd (Or.inr q) hz
        by_cases hV : V = 0
        · subst hV
          exact OP.go (c_decades_s okC a1 a60 hy hz0 hz2) (m_decades_s okM a1 a60 hy hz0 (fun q => absurd hz2 (nle_lt.mpr q))) H1
        · obtain ⟨m, hm, rfl⟩ := nI_of hy
          have e64 : (nI m).toInt64 = lN m := nI_l (by omega)
          have hsv : ∀ b, b ≤ 5 → vM (svF 5 0 F) b = vM F b := fun b hb => svF_row 5 0 F (by omega)
          obtain ⟨d1, ⟨q, d2, d3⟩, d4, d5, d6⟩ := dc_md (V := V) (N := N) h4 a 0 m (cpL t l) g (cpW LF 5 0 (cpB LF 4 0 TF)) (svF 5 0 F) (by omega) (((cp_E LF TF h4 h5).tr E).r hsv) (R.r hsv)
          rw [← e64] at d1 d3 d4 d5 d6
          have HR := fun G1 t1 TF1 => dec_RW (t := t1) (TF := TF1) (k := k) (KF := KF) (G := G1) r d5 d6
          obtain ⟨j, _, j2, rfl⟩ := arg_in (a := 0) (b := 2) (x := z) (by decide) (by decide) hz0 hz2
          match j, j2 with
          | 0, _ =>
            have hM := m_decades_0 (d := 7) (G := G) okM (by omega) a1 a60 hy
            rw [← d1] at hM
            exact OP.go (c_decades_0 okC (by omega) a1 a60 hy) hM (HR _ _ _)
          | 1, _ =>
            have hM := m_decades_1 (d := 7) (G := G) okM (by omega) a1 a60 hy
            rw [pn_bitc _ h5, ← wi_c d4] at hM
            exact OP.go (c_decades_1 okC (by omega) a1 a60 hy) hM (HR _ _ _)
          | 2, _ =>
            have hM := m_decades_2 (d := 7) (G := G) okM (by omega) a1 a60 hy
            rw [d3, lN_i, ← d2] at hM
            exact OP.go (c_decades_2 okC (by omega) a1 a60 hy) hM (HR _ _ _)
end OPD
theorem fld_c {f f' : Nat → Int32} : ∀ (n j : Nat) (x : Int64), (∀ i, j ≤ i → i < j + n → f i = f' i) → fld f n j x = fld f' n j x
  | 0, _, _, _ => rfl
  | n + 1, j, x, h => by rw [fld, fld, h j (by omega) (by omega), fld_c n (j + 1) _ (fun i a b => h i (by omega) (by omega))]
theorem fl2_c {p q p' q' : Nat → Int32} : ∀ (n j : Nat) (x : Int64), (∀ i, j ≤ i → i < j + n → p i = p' i ∧ q i = q' i) → fl2 p q n j x = fl2 p' q' n j x
  | 0, _, _, _ => rfl
  | n + 1, j, x, h => by rw [fl2, fl2, (h j (by omega) (by omega)).1, (h j (by omega) (by omega)).2, fl2_c n (j + 1) _ (fun i a b => h i (by omega) (by omega))]
theorem flw_c {f f' : Nat → Nat → Int32} : ∀ (n w : Nat) (x : Int64), (∀ i, w ≤ i → i < w + n → ∀ j, j < 8 → f i j = f' i j) → flw f n w x = flw f' n w x
  | 0, _, _, _ => rfl
  | n + 1, w, x, h => by rw [flw, flw, fld_c 8 0 x (fun i _ b => h w (by omega) (by omega) i (by omega)), flw_c n (w + 1) _ (fun i a b => h i (by omega) (by omega))]
theorem flv_c {f f' p q p' q' : Nat → Nat → Int32} {N : Nat} : ∀ (n v : Nat) (x : Int64), (∀ i, v ≤ i → i < v + n → (∀ j, j < 8 → f i j = f' i j) ∧ ∀ w, w < N → p i w = p' i w ∧ q i w = q' i w) → flv f p q N n v x = flv f' p' q' N n v x
  | 0, _, _, _ => rfl
  | n + 1, v, x, h => by
    obtain ⟨h1, h2⟩ := h v (by omega) (by omega)
    rw [flv, flv, fld_c 8 0 x (fun i _ b => h1 i (by omega)), fl2_c N 0 _ (fun i _ b => h2 i (by omega)), flv_c n (v + 1) _ (fun i a b => h i (by omega) (by omega))]
section OPE
variable {n : Nat} {wc wm : List Ce}
theorem dg_eq {h pg l s g : Nat → Int32} {PF LF SF F : Nat → Nat → Int32} {il : Nat → Int32} {ILF : Nat → Nat → Int32} {is : Nat → Int32} {ISF : Nat → Nat → Int32} {V N L K gd : Nat} (r : Rel n h pg PF l LF s SF il ILF is ISF g F V N L K) (g2 : 2 ≤ gd) (g20 : gd ≤ 20) (e2 : hw (vM F) V N = nI gd) : dgC h pg l s PF LF SF V N L K = mdg g F V N L K gd := by
  have r0 := r
  obtain ⟨⟨okC, okM, E, R, _⟩, ⟨s1, s2, s3, s4, s5⟩, ⟨p1, p2, p3, p4⟩, _, _⟩ := r
  have h4 := okM.2.2.1
  have h5 := okM.2.2.2.1
  have eT : ∀ x, dgT LF V N x = mdT F V N gd x := fun x => by
    unfold dgT mdT
    by_cases hV : V = 0
    · rw [if_pos hV, if_pos hV]
    · rw [if_neg hV, if_neg hV, bm_c E okC.2.2.2.2 h4, ← mmd_bm R.hom h5 h4 (by omega), hw_c E, e2, (odds_ok g2 g20 (a := 3) (by omega) (by omega)).1, (odds_ok g2 g20 (a := 3) (by omega) (by omega)).2]
  unfold dgC mdg
  rw [flw_c (f' := fun w => mwA F N K w) N 0 _ (fun w _ hw j _ => wA_mwA E R okC.2.2.2.2 h4 h5 s4 s5 (by omega) j), flv_c (f' := fun v => mvA F N v) (p' := fun v w => (mwh F N w v).1) (q' := fun v w => (mwh F N w v).2) V 0 _ (fun v _ hv => ⟨fun j _ => vA_mvA E h5 (by omega) j, fun w hw => ⟨?_, ?_⟩⟩), eT, fld_c (f' := F 19) L 0 _ (fun j _ hj => ?_), fld_c (f' := mcA g F V N) 12 0 _ (fun j _ _ => cA_mcA r0 j)]
  · obtain ⟨q, _, _, q3, q4⟩ := p4 j (by omega)
    rw [q3, q4]
  · show bp (vC LF) N w v = (mwh F N w v).1
    rw [bp_c E hw (by omega), mwh_1 h5 hw]
  · show lip (vC LF) N w v (bp (vC LF) N w v) = (mwh F N w v).2
    rw [bp_c E hw (by omega), lip_c E hw (by omega), mwh_2 R h5 h4 hw (by omega)]
theorem op_digest (H : RW n wc wm) : OP n yX4_digest cX4_digest [some (.ref 0), none, none, none, none] yX5_digest cX5_digest [some (.ref 0), none, none] (some .long) wc wm := by
  obtain ⟨h, pg, PF, l, LF, s, SF, il, ILF, is, ISF, t, TF, k, KF, g, G, F, V, N, L, K, rfl, rfl, r⟩ := H
  have r0 := r
  obtain ⟨r1, r2, r3, r4, r5⟩ := r
  have okC := r1.1
  have okM := r1.2.1
  have R := r1.2.2.2.1
  obtain ⟨s1, s2, s3, s4, s5⟩ := r2
  obtain ⟨gd, g2, g20, e1, e2⟩ := gd_hw R okM.2.2.1 okM.2.2.2.1
  have e := dg_eq r0 g2 g20 e2
  refine ⟨_, fun w1 => ∃ SF1 : Nat → Nat → Int32, (∀ a, a ≠ 5 → SF1 a = SF a) ∧ w1 = (clsW h pg PF l LF s SF1 il ILF is ISF t TF k KF), c_digest okC s1 s3 r3.1 r3.2.2.1, fun w hw => ?_, Or.inr ⟨rfl, _, rfl⟩⟩
  obtain ⟨SF1, q1, rfl⟩ := hw
  rw [e]
  have hM : Ev 12 yX5_digest cX5_digest (some .long) 0 [some (.ref 0), none, none] [] (modW g G F) (Is (some (.long (mdg g F V N L K gd))) (modW g (updJ G 49 (mdg g F V N L K gd)) F)) := by
    by_cases hV : V = 0
    · exact m_digest_z okM s2 s3 r3.2.1 r3.2.2.1 gd hV
    · exact m_digest_n okM s2 s3 r3.2.1 r3.2.2.1 (by omega) e1 g20
  refine hM.mono (fun rv w' hq => ⟨hq.1, ?_⟩)
  rw [hq.2]
  refine ⟨h, pg, PF, l, LF, s, SF1, il, ILF, is, ISF, t, TF, k, KF, g, _, F, V, N, L, K, rfl, rfl, r1, ⟨s1, s2, s3, fun i hi => ?_, s5⟩, r3, r4.up, r5.up⟩
  rw [q1 1 (by decide), q1 2 (by decide), q1 3 (by decide), q1 4 (by decide)]
  exact s4 i hi
end OPE
