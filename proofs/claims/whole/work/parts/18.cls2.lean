theorem wth_5 (LF : Nat → Nat → Int32) (w : Nat) : wth LF w 5 = LF 5 := by
  unfold wth wth2 wth1
  repeat' split
  all_goals simp [up2]
theorem sld_0 (l : Nat → Int32) (LF : Nat → Nat → Int32) (w : Nat) (step : Int32) : (sld l LF w step).1 0 = l 0 := by
  unfold sld; split <;> simp [upd]
theorem sld_5 (l : Nat → Int32) (LF : Nat → Nat → Int32) (w : Nat) (step : Int32) (j : Nat) : (sld l LF w step).2 5 j = LF 5 j ∨ (sld l LF w step).2 5 j = -1 := by
  unfold sld
  split
  · by_cases hj : j = w
    · right; simp [mv, up2, upd, hj]
    · left; simp [mv, up2, upd, hj]
  · left; simp [up2]
theorem wdF_ok (bits step : Int32) : ∀ (n k : Nat) (l : Nat → Int32) (LF : Nat → Nat → Int32), (wdF bits step n k l LF).1 0 = l 0 ∧ (wdF bits step n k l LF).1 1 = l 1 ∧ ∀ j, (wdF bits step n k l LF).2 5 j = LF 5 j ∨ (wdF bits step n k l LF).2 5 j = -1 := by
  intro n
  induction n with
  | zero => intro k l LF; exact ⟨rfl, rfl, fun j => Or.inl rfl⟩
  | succ n ih =>
    intro k l LF
    rw [wdF]
    split
    · obtain ⟨h1, h2, h3⟩ := ih (k + 1) l (wth LF k)
      refine ⟨h1, h2, fun j => ?_⟩
      have := h3 j
      rw [wth_5] at this
      exact this
    · obtain ⟨h1, h2, h3⟩ := ih (k + 1) (sld l LF k step).1 (wth (sld l LF k step).2 k)
      refine ⟨h1.trans (sld_0 l LF k step), h2.trans (sld_1 l LF k step), fun j => ?_⟩
      have := h3 j
      rw [wth_5] at this
      rcases this with h | h
      · rcases sld_5 l LF k step j with q | q
        · exact Or.inl (h.trans q)
        · exact Or.inr (h.trans q)
      · exact Or.inr h
theorem LOK.tk {l : Nat → Int32} {LF : Nat → Nat → Int32} {V N : Nat} (ok : LOK l LF V N) (side force : Int32) : LOK (tkL l LF V N side force) (tkS l LF V N side force).2 V N := by
  obtain ⟨h1, h2, h3⟩ := wdF_ok (tkB LF V N side force) (stp side) N 0 l LF
  refine ⟨?_, ?_, ok.2.2.1, ok.2.2.2.1, fun k hk => ?_⟩
  · show (tkS l LF V N side force).1 0 = _
    exact h1.trans ok.1
  · show (tkS l LF V N side force).1 1 = _
    exact h2.trans ok.2.1
  · rcases h3 k with h | h
    · rw [show (tkS l LF V N side force).2 5 k = LF 5 k from h]; exact ok.2.2.2.2 k hk
    · exact Or.inl h
theorem cp_at (L2 LF : Nat → Nat → Int32) (a j : Nat) (h : (a = 2 ∧ j < 4) ∨ (3 ≤ a ∧ a ≤ 7 ∧ j < 5)) : cpW L2 5 0 (cpB L2 4 0 LF) a j = L2 a j := by
  rcases h with ⟨rfl, h⟩ | ⟨h1, h2, h3⟩
  · have : j = 0 ∨ j = 1 ∨ j = 2 ∨ j = 3 := by omega
    rcases this with rfl | rfl | rfl | rfl <;> simp [cpW, cpB, up2, upd]
  · have ha : a = 3 ∨ a = 4 ∨ a = 5 ∨ a = 6 ∨ a = 7 := by omega
    have hj : j = 0 ∨ j = 1 ∨ j = 2 ∨ j = 3 ∨ j = 4 := by omega
    rcases ha with rfl | rfl | rfl | rfl | rfl <;> rcases hj with rfl | rfl | rfl | rfl | rfl <;> simp [cpW, cpB, up2, upd]
theorem LOK.cp {l : Nat → Int32} {LF : Nat → Nat → Int32} {V N : Nat} (ok : LOK l LF V N) (t : Nat → Int32) (TF : Nat → Nat → Int32) : LOK (cpL t l) (cpW LF 5 0 (cpB LF 4 0 TF)) V N := by
  refine ⟨?_, ?_, ok.2.2.1, ok.2.2.2.1, fun k hk => ?_⟩
  · show cpL t l 0 = _
    simp only [cpL, upd]
    exact ok.1
  · simp only [cpL, upd]
    exact ok.2.1
  · rw [cp_at LF TF 5 k (Or.inr ⟨by omega, by omega, by have := ok.2.2.2.1; omega⟩)]
    exact ok.2.2.2.2 k hk
/-- decades: the lifted, the draw, the land -/
def dcF (V N : Nat) : Nat → Int32 → Int32 → (Nat → Int32) → (Nat → Nat → Int32) → Int32 × Int32 × (Nat → Int32) × (Nat → Nat → Int32)
  | 0, a, x, t, TF => (a, x, t, TF)
  | n + 1, a, x, t, TF => dcF V N n (a + bitc (tkB TF V N (drw (nxs x) 2) (drw (nxs (nxs x)) 10))) (nxs (nxs x)) (tkL t TF V N (drw (nxs x) 2) (drw (nxs (nxs x)) 10)) (tkS t TF V N (drw (nxs x) 2) (drw (nxs (nxs x)) 10)).2
theorem LOK.dc {V N : Nat} : ∀ (n : Nat) (a x : Int32) (t : Nat → Int32) (TF : Nat → Nat → Int32), LOK t TF V N → LOK (dcF V N n a x t TF).2.2.1 (dcF V N n a x t TF).2.2.2 V N
  | 0, _, _, _, _, ok => ok
  | n + 1, _, _, _, _, ok => LOK.dc n _ _ _ _ (ok.tk _ _)

set_option maxHeartbeats 4000000 in
set_option maxRecDepth 100000 in
theorem c_pack_o {d : Nat} {h pg l s il is t k : Nat → Int32} {PF LF SF ILF ISF TF KF : Nat → Nat → Int32} {x y : Int32} (hx : x < 1 ∨ 20 < x ∨ ipa y = 0) : Ev (d + 1) yX4_pack cX4_pack (some .int) 0 [some (.ref 0), some (.int x), some (.int y)] [] (clsW h pg PF l LF s SF il ILF is ISF t TF k KF) (Is (some (.int (-102))) (clsW h pg PF l LF s SF il ILF is ISF t TF k KF)) := by
  refine Ev.iload_1 dX4_pack_0 rfl ?_
  refine Ev.iconst (v := 1) dX4_pack_1 (by decide) ?_
  refine Ev.icmp_lt 18 dX4_pack_2 (by decide) (fun h2 => ?_) (fun h2 => ?_)
  · refine Ev.bipush (v := -102) dX4_pack_18 (by decide) ?_
    refine Ev.iret dX4_pack_20 ?_
    exact ⟨rfl, rfl⟩
  refine Ev.iload_1 dX4_pack_5 rfl ?_
  refine Ev.bipush (v := 20) dX4_pack_6 (by decide) ?_
  refine Ev.icmp_gt 18 dX4_pack_8 (by decide) (fun h8 => ?_) (fun h8 => ?_)
  · refine Ev.bipush (v := -102) dX4_pack_18 (by decide) ?_
    refine Ev.iret dX4_pack_20 ?_
    exact ⟨rfl, rfl⟩
  refine Ev.iload_2 dX4_pack_11 rfl ?_
  refine k_X4_isPackAnswer (c_ipa _) dX4_pack_12 wl_X4_163 (Nat.le_of_ble_eq_true rfl) ?_
  refine Ev.if_ne 21 dX4_pack_15 (by decide) (fun h15 => ?_) (fun h15 => ?_)
  · exact absurd hx (fun q => q.elim h2 (fun q => q.elim h8 h15))
  refine Ev.bipush (v := -102) dX4_pack_18 (by decide) ?_
  refine Ev.iret dX4_pack_20 ?_
  exact ⟨rfl, rfl⟩

set_option maxHeartbeats 4000000 in
set_option maxRecDepth 100000 in
theorem c_pack_s1 {d : Nat} {h pg l s il is t k : Nat → Int32} {PF LF SF ILF ISF TF KF : Nat → Nat → Int32} {N : Nat} (ok : LOK l LF 0 N) {x y : Int32} (h1 : ¬ x < 1) (h20 : ¬ 20 < x) (hy : ¬ ipa y = 0)  : Ev (d + 1) yX4_pack cX4_pack (some .int) 0 [some (.ref 0), some (.int x), some (.int y)] [] (clsW h pg PF l LF s SF il ILF is ISF t TF k KF) (Is (some (.int (-103))) (clsW h pg PF l LF s SF il ILF is ISF t TF k KF)) := by
  refine Ev.iload_1 dX4_pack_0 rfl ?_
  refine Ev.iconst (v := 1) dX4_pack_1 (by decide) ?_
  refine Ev.icmp_lt 18 dX4_pack_2 (by decide) (fun h2 => ?_) (fun h2 => ?_)
  · exact absurd h2 h1
  refine Ev.iload_1 dX4_pack_5 rfl ?_
  refine Ev.bipush (v := 20) dX4_pack_6 (by decide) ?_
  refine Ev.icmp_gt 18 dX4_pack_8 (by decide) (fun h8 => ?_) (fun h8 => ?_)
  · exact absurd h8 h20
  refine Ev.iload_2 dX4_pack_11 rfl ?_
  refine k_X4_isPackAnswer (c_ipa _) dX4_pack_12 wl_X4_163 (Nat.le_of_ble_eq_true rfl) ?_
  refine Ev.if_ne 21 dX4_pack_15 (by decide) (fun h15 => ?_) (fun h15 => ?_)
  · refine Ev.aload_0 dX4_pack_21 rfl ?_
    refine k_X4_hasTable (c_hasTable_f ok) dX4_pack_22 wl_X4_143 rfl (Nat.le_of_ble_eq_true rfl) ?_
    refine Ev.if_eq 37 dX4_pack_25 (by decide) (fun hcst => ?_) (fun hcst => ?_)
    rotate_left
    · exact absurd hcst (by decide)
    refine Ev.bipush (v := -103) dX4_pack_37 (by decide) ?_
    refine Ev.iret dX4_pack_39 ?_
    exact ⟨rfl, rfl⟩
  · exact absurd h15 hy

set_option maxHeartbeats 4000000 in
set_option maxRecDepth 100000 in
theorem c_pack_s2 {d : Nat} {h pg l s il is t k : Nat → Int32} {PF LF SF ILF ISF TF KF : Nat → Nat → Int32} {V N : Nat} (ok : LOK l LF V N) (hV : 0 < V) {x y : Int32} (h1 : ¬ x < 1) (h20 : ¬ 20 < x) (hy : ¬ ipa y = 0) (h9 : ¬ h 9 < 20) : Ev (d + 1) yX4_pack cX4_pack (some .int) 0 [some (.ref 0), some (.int x), some (.int y)] [] (clsW h pg PF l LF s SF il ILF is ISF t TF k KF) (Is (some (.int (-103))) (clsW h pg PF l LF s SF il ILF is ISF t TF k KF)) := by
  refine Ev.iload_1 dX4_pack_0 rfl ?_
  refine Ev.iconst (v := 1) dX4_pack_1 (by decide) ?_
  refine Ev.icmp_lt 18 dX4_pack_2 (by decide) (fun h2 => ?_) (fun h2 => ?_)
  · exact absurd h2 h1
  refine Ev.iload_1 dX4_pack_5 rfl ?_
  refine Ev.bipush (v := 20) dX4_pack_6 (by decide) ?_
  refine Ev.icmp_gt 18 dX4_pack_8 (by decide) (fun h8 => ?_) (fun h8 => ?_)
  · exact absurd h8 h20
  refine Ev.iload_2 dX4_pack_11 rfl ?_
  refine k_X4_isPackAnswer (c_ipa _) dX4_pack_12 wl_X4_163 (Nat.le_of_ble_eq_true rfl) ?_
  refine Ev.if_ne 21 dX4_pack_15 (by decide) (fun h15 => ?_) (fun h15 => ?_)
  · refine Ev.aload_0 dX4_pack_21 rfl ?_
    refine k_X4_hasTable (c_hasTable_t ok hV) dX4_pack_22 wl_X4_143 rfl (Nat.le_of_ble_eq_true rfl) ?_
    refine Ev.if_eq 37 dX4_pack_25 (by decide) (fun hcst => ?_) (fun hcst => ?_)
    · exact absurd hcst (by decide)
    refine Ev.aload_0 dX4_pack_28 rfl ?_
    refine Ev.getf cf4 9 (by decide) wf_X4_54 dX4_pack_29 rfl rfl ?_
    refine Ev.bipush (v := 20) dX4_pack_32 (by decide) ?_
    refine Ev.icmp_lt 40 dX4_pack_34 (by decide) (fun h34 => ?_) (fun h34 => ?_)
    · exact absurd h34 h9
    refine Ev.bipush (v := -103) dX4_pack_37 (by decide) ?_
    refine Ev.iret dX4_pack_39 ?_
    exact ⟨rfl, rfl⟩
  · exact absurd h15 hy

set_option maxHeartbeats 4000000 in
set_option maxRecDepth 100000 in
theorem c_pack_0 {d : Nat} {h pg l s il is t k : Nat → Int32} {PF LF SF ILF ISF TF KF : Nat → Nat → Int32} {V N : Nat} (ok : LOK l LF V N) (hV : 0 < V) {x : Int32} (h1 : ¬ x < 1) (h20 : ¬ 20 < x) (h9 : h 9 < 20) : Ev (d + V + 3) yX4_pack cX4_pack (some .int) 0 [some (.ref 0), some (.int x), some (.int 0)] [] (clsW h pg PF l LF s SF il ILF is ISF t TF k KF) (Is (some (.int ((srch (vC LF) V N x (k, KF)).1 1))) (clsW (upd h 9 (h 9 + 1)) pg PF l LF s SF il ILF is ISF t TF (srch (vC LF) V N x (k, KF)).1 (srch (vC LF) V N x (k, KF)).2)) := by
  refine Ev.iload_1 dX4_pack_0 rfl ?_
  refine Ev.iconst (v := 1) dX4_pack_1 (by decide) ?_
  refine Ev.icmp_lt 18 dX4_pack_2 (by decide) (fun h2 => ?_) (fun h2 => ?_)
  · exact absurd h2 h1
  refine Ev.iload_1 dX4_pack_5 rfl ?_
  refine Ev.bipush (v := 20) dX4_pack_6 (by decide) ?_
  refine Ev.icmp_gt 18 dX4_pack_8 (by decide) (fun h8 => ?_) (fun h8 => ?_)
  · exact absurd h8 h20
  refine Ev.iload_2 dX4_pack_11 rfl ?_
  refine k_X4_isPackAnswer (c_ipa _) dX4_pack_12 wl_X4_163 (Nat.le_of_ble_eq_true rfl) ?_
  refine Ev.if_ne 21 dX4_pack_15 (by decide) (fun h15 => ?_) (fun h15 => ?_)
  · refine Ev.aload_0 dX4_pack_21 rfl ?_
    refine k_X4_hasTable (c_hasTable_t ok hV) dX4_pack_22 wl_X4_143 rfl (Nat.le_of_ble_eq_true rfl) ?_
    refine Ev.if_eq 37 dX4_pack_25 (by decide) (fun hcst => ?_) (fun hcst => ?_)
    · exact absurd hcst (by decide)
    refine Ev.aload_0 dX4_pack_28 rfl ?_
    refine Ev.getf cf4 9 (by decide) wf_X4_54 dX4_pack_29 rfl rfl ?_
    refine Ev.bipush (v := 20) dX4_pack_32 (by decide) ?_
    refine Ev.icmp_lt 40 dX4_pack_34 (by decide) (fun h34 => ?_) (fun h34 => ?_)
    · refine Ev.aload_0 dX4_pack_40 rfl ?_
      refine Ev.dup dX4_pack_41 rfl ?_
      refine Ev.getf cf4 9 (by decide) wf_X4_54 dX4_pack_42 rfl rfl ?_
      refine Ev.iconst (v := 1) dX4_pack_45 (by decide) ?_
      refine Ev.iadd dX4_pack_46 ?_
      refine pw_clsW_0_9 dX4_pack_47 wf_X4_54 ?_
      refine Ev.aload_0 dX4_pack_50 rfl ?_
      refine Ev.getf cf4 6 (by decide) wf_X4_42 dX4_pack_51 rfl rfl ?_
      refine Ev.aload_0 dX4_pack_54 rfl ?_
      refine Ev.getf cf4 1 (by decide) wf_X4_19 dX4_pack_55 rfl rfl ?_
      refine Ev.iload_1 dX4_pack_58 rfl ?_
      refine ke_X1_search (w2 := (clsW (upd h 9 (h 9 + 1)) pg PF l LF s SF il ILF is ISF t TF (srch (vC LF) V N x (k, KF)).1 (srch (vC LF) V N x (k, KF)).2)) [36, 37, 38, 39, 40, 3, 4, 5, 6, 7, 8, 9] (e_X1_search ok _) dX4_pack_59 wl_X4_166 rfl (Nat.le_of_ble_eq_true rfl) rfl rfl (by decide) ⟨rfl, rfl⟩ rfl rfl rfl ?_
      refine Ev.iload_2 dX4_pack_62 rfl ?_
      refine Ev.lookup 88 dX4_pack_63 (by decide) (off := 25) (by decide) (by decide) ?_
      refine Ev.aload_0 dX4_pack_88 rfl ?_
      refine Ev.getf cf4 6 (by decide) wf_X4_42 dX4_pack_89 rfl rfl ?_
      refine Ev.getf cf1 1 (by decide) wf_X4_170 dX4_pack_92 rfl rfl ?_
      refine Ev.iret dX4_pack_95 ?_
      exact ⟨rfl, rfl⟩
    · exact absurd h9 h34
  · exact absurd h15 (by decide)

set_option maxHeartbeats 4000000 in
set_option maxRecDepth 100000 in
theorem c_pack_1 {d : Nat} {h pg l s il is t k : Nat → Int32} {PF LF SF ILF ISF TF KF : Nat → Nat → Int32} {V N : Nat} (ok : LOK l LF V N) (hV : 0 < V) {x : Int32} (h1 : ¬ x < 1) (h20 : ¬ 20 < x) (h9 : h 9 < 20) : Ev (d + V + 3) yX4_pack cX4_pack (some .int) 0 [some (.ref 0), some (.int x), some (.int 1)] [] (clsW h pg PF l LF s SF il ILF is ISF t TF k KF) (Is (some (.int ((srch (vC LF) V N x (k, KF)).1 2))) (clsW (upd h 9 (h 9 + 1)) pg PF l LF s SF il ILF is ISF t TF (srch (vC LF) V N x (k, KF)).1 (srch (vC LF) V N x (k, KF)).2)) := by
  refine Ev.iload_1 dX4_pack_0 rfl ?_
  refine Ev.iconst (v := 1) dX4_pack_1 (by decide) ?_
  refine Ev.icmp_lt 18 dX4_pack_2 (by decide) (fun h2 => ?_) (fun h2 => ?_)
  · exact absurd h2 h1
  refine Ev.iload_1 dX4_pack_5 rfl ?_
  refine Ev.bipush (v := 20) dX4_pack_6 (by decide) ?_
  refine Ev.icmp_gt 18 dX4_pack_8 (by decide) (fun h8 => ?_) (fun h8 => ?_)
  · exact absurd h8 h20
  refine Ev.iload_2 dX4_pack_11 rfl ?_
  refine k_X4_isPackAnswer (c_ipa _) dX4_pack_12 wl_X4_163 (Nat.le_of_ble_eq_true rfl) ?_
  refine Ev.if_ne 21 dX4_pack_15 (by decide) (fun h15 => ?_) (fun h15 => ?_)
  · refine Ev.aload_0 dX4_pack_21 rfl ?_
    refine k_X4_hasTable (c_hasTable_t ok hV) dX4_pack_22 wl_X4_143 rfl (Nat.le_of_ble_eq_true rfl) ?_
    refine Ev.if_eq 37 dX4_pack_25 (by decide) (fun hcst => ?_) (fun hcst => ?_)
    · exact absurd hcst (by decide)
    refine Ev.aload_0 dX4_pack_28 rfl ?_
    refine Ev.getf cf4 9 (by decide) wf_X4_54 dX4_pack_29 rfl rfl ?_
    refine Ev.bipush (v := 20) dX4_pack_32 (by decide) ?_
    refine Ev.icmp_lt 40 dX4_pack_34 (by decide) (fun h34 => ?_) (fun h34 => ?_)
    · refine Ev.aload_0 dX4_pack_40 rfl ?_
      refine Ev.dup dX4_pack_41 rfl ?_
      refine Ev.getf cf4 9 (by decide) wf_X4_54 dX4_pack_42 rfl rfl ?_
      refine Ev.iconst (v := 1) dX4_pack_45 (by decide) ?_
      refine Ev.iadd dX4_pack_46 ?_
      refine pw_clsW_0_9 dX4_pack_47 wf_X4_54 ?_
      refine Ev.aload_0 dX4_pack_50 rfl ?_
      refine Ev.getf cf4 6 (by decide) wf_X4_42 dX4_pack_51 rfl rfl ?_
      refine Ev.aload_0 dX4_pack_54 rfl ?_
      refine Ev.getf cf4 1 (by decide) wf_X4_19 dX4_pack_55 rfl rfl ?_
      refine Ev.iload_1 dX4_pack_58 rfl ?_
      refine ke_X1_search (w2 := (clsW (upd h 9 (h 9 + 1)) pg PF l LF s SF il ILF is ISF t TF (srch (vC LF) V N x (k, KF)).1 (srch (vC LF) V N x (k, KF)).2)) [36, 37, 38, 39, 40, 3, 4, 5, 6, 7, 8, 9] (e_X1_search ok _) dX4_pack_59 wl_X4_166 rfl (Nat.le_of_ble_eq_true rfl) rfl rfl (by decide) ⟨rfl, rfl⟩ rfl rfl rfl ?_
      refine Ev.iload_2 dX4_pack_62 rfl ?_
      refine Ev.lookup 96 dX4_pack_63 (by decide) (off := 33) (by decide) (by decide) ?_
      refine Ev.aload_0 dX4_pack_96 rfl ?_
      refine Ev.getf cf4 6 (by decide) wf_X4_42 dX4_pack_97 rfl rfl ?_
      refine Ev.getf cf1 2 (by decide) wf_X4_173 dX4_pack_100 rfl rfl ?_
      refine Ev.iret dX4_pack_103 ?_
      exact ⟨rfl, rfl⟩
    · exact absurd h9 h34
  · exact absurd h15 (by decide)

theorem pack_y {j : Nat} (hj : j < 4) : ¬ ipa (nI (10 + j)) = 0 ∧ ¬ nI (10 + j) = 0 ∧ ¬ nI (10 + j) = 1 ∧ nI (10 + j) - 10 = nI j := by
  have q : ∀ j : Fin 4, ¬ ipa (nI (10 + j.val)) = 0 ∧ ¬ nI (10 + j.val) = 0 ∧ ¬ nI (10 + j.val) = 1 ∧ nI (10 + j.val) - 10 = nI j.val := by decide +kernel
  exact q ⟨j, hj⟩

set_option maxHeartbeats 4000000 in
set_option maxRecDepth 100000 in
theorem c_pack_b {d : Nat} {h pg l s il is t k : Nat → Int32} {PF LF SF ILF ISF TF KF : Nat → Nat → Int32} {V N : Nat} (ok : LOK l LF V N) (hV : 0 < V) {x : Int32} (h1 : ¬ x < 1) (h20 : ¬ 20 < x) {j : Nat} (hj : j < 4) (h9 : h 9 < 20) : Ev (d + V + 3) yX4_pack cX4_pack (some .int) 0 [some (.ref 0), some (.int x), some (.int (nI (10 + j)))] [] (clsW h pg PF l LF s SF il ILF is ISF t TF k KF) (Is (some (.int ((srch (vC LF) V N x (k, KF)).2 0 j))) (clsW (upd h 9 (h 9 + 1)) pg PF l LF s SF il ILF is ISF t TF (srch (vC LF) V N x (k, KF)).1 (srch (vC LF) V N x (k, KF)).2)) := by
  obtain ⟨hy, hn0, hn1, hsub⟩ := pack_y hj
  refine Ev.iload_1 dX4_pack_0 rfl ?_
  refine Ev.iconst (v := 1) dX4_pack_1 (by decide) ?_
  refine Ev.icmp_lt 18 dX4_pack_2 (by decide) (fun h2 => ?_) (fun h2 => ?_)
  · exact absurd h2 h1
  refine Ev.iload_1 dX4_pack_5 rfl ?_
  refine Ev.bipush (v := 20) dX4_pack_6 (by decide) ?_
  refine Ev.icmp_gt 18 dX4_pack_8 (by decide) (fun h8 => ?_) (fun h8 => ?_)
  · exact absurd h8 h20
  refine Ev.iload_2 dX4_pack_11 rfl ?_
  refine k_X4_isPackAnswer (c_ipa _) dX4_pack_12 wl_X4_163 (Nat.le_of_ble_eq_true rfl) ?_
  refine Ev.if_ne 21 dX4_pack_15 (by decide) (fun h15 => ?_) (fun h15 => ?_)
  · refine Ev.aload_0 dX4_pack_21 rfl ?_
    refine k_X4_hasTable (c_hasTable_t ok hV) dX4_pack_22 wl_X4_143 rfl (Nat.le_of_ble_eq_true rfl) ?_
    refine Ev.if_eq 37 dX4_pack_25 (by decide) (fun hcst => ?_) (fun hcst => ?_)
    · exact absurd hcst (by decide)
    refine Ev.aload_0 dX4_pack_28 rfl ?_
    refine Ev.getf cf4 9 (by decide) wf_X4_54 dX4_pack_29 rfl rfl ?_
    refine Ev.bipush (v := 20) dX4_pack_32 (by decide) ?_
    refine Ev.icmp_lt 40 dX4_pack_34 (by decide) (fun h34 => ?_) (fun h34 => ?_)
    · refine Ev.aload_0 dX4_pack_40 rfl ?_
      refine Ev.dup dX4_pack_41 rfl ?_
      refine Ev.getf cf4 9 (by decide) wf_X4_54 dX4_pack_42 rfl rfl ?_
      refine Ev.iconst (v := 1) dX4_pack_45 (by decide) ?_
      refine Ev.iadd dX4_pack_46 ?_
      refine pw_clsW_0_9 dX4_pack_47 wf_X4_54 ?_
      refine Ev.aload_0 dX4_pack_50 rfl ?_
      refine Ev.getf cf4 6 (by decide) wf_X4_42 dX4_pack_51 rfl rfl ?_
      refine Ev.aload_0 dX4_pack_54 rfl ?_
      refine Ev.getf cf4 1 (by decide) wf_X4_19 dX4_pack_55 rfl rfl ?_
      refine Ev.iload_1 dX4_pack_58 rfl ?_
      refine ke_X1_search (w2 := (clsW (upd h 9 (h 9 + 1)) pg PF l LF s SF il ILF is ISF t TF (srch (vC LF) V N x (k, KF)).1 (srch (vC LF) V N x (k, KF)).2)) [36, 37, 38, 39, 40, 3, 4, 5, 6, 7, 8, 9] (e_X1_search ok _) dX4_pack_59 wl_X4_166 rfl (Nat.le_of_ble_eq_true rfl) rfl rfl (by decide) ⟨rfl, rfl⟩ rfl rfl rfl ?_
      refine Ev.iload_2 dX4_pack_62 rfl ?_
      refine Ev.lookup 104 dX4_pack_63 (by decide) (off := 41) (by show Op.lookupswitch.offset [(0, 25), (1, 33)] _ _ = _; rw [lv_osw hn0 (by decide), lv_osw hn1 (by decide)]; rfl) (by decide) ?_
      refine Ev.aload_0 dX4_pack_104 rfl ?_
      refine Ev.getf cf4 6 (by decide) wf_X4_42 dX4_pack_105 rfl rfl ?_
      refine Ev.getf cf1 0 (by decide) wf_X4_176 dX4_pack_108 rfl rfl ?_
      refine Ev.iload_2 dX4_pack_111 rfl ?_
      refine Ev.bipush (v := 10) dX4_pack_112 (by decide) ?_
      refine Ev.isub dX4_pack_114 ?_
      rw [hsub]
      refine Ev.aldn dX4_pack_115 rfl (by omega) (by decide) ?_
      refine Ev.iret dX4_pack_116 ?_
      exact ⟨rfl, rfl⟩
    · exact absurd h9 h34
  · exact absurd h15 hy

set_option maxHeartbeats 4000000 in
set_option maxRecDepth 100000 in
theorem c_odds_o {d : Nat} {h pg l s il is t k : Nat → Int32} {PF LF SF ILF ISF TF KF : Nat → Nat → Int32} {x y : Int32} (hx : x < 1 ∨ 4 < x ∨ y < 0 ∨ ¬ y ≤ 1) : Ev (d + 1) yX4_odds cX4_odds (some .int) 0 [some (.ref 0), some (.int x), some (.int y), none, none, none, none] [] (clsW h pg PF l LF s SF il ILF is ISF t TF k KF) (Is (some (.int (-102))) (clsW h pg PF l LF s SF il ILF is ISF t TF k KF)) := by
  refine Ev.iload_1 dX4_odds_0 rfl ?_
  refine Ev.iconst (v := 1) dX4_odds_1 (by decide) ?_
  refine Ev.icmp_lt 19 dX4_odds_2 (by decide) (fun h2 => ?_) (fun h2 => ?_)
  · refine Ev.bipush (v := -102) dX4_odds_19 (by decide) ?_
    refine Ev.iret dX4_odds_21 ?_
    exact ⟨rfl, rfl⟩
  refine Ev.iload_1 dX4_odds_5 rfl ?_
  refine Ev.iconst (v := 4) dX4_odds_6 (by decide) ?_
  refine Ev.icmp_gt 19 dX4_odds_7 (by decide) (fun h7 => ?_) (fun h7 => ?_)
  · refine Ev.bipush (v := -102) dX4_odds_19 (by decide) ?_
    refine Ev.iret dX4_odds_21 ?_
    exact ⟨rfl, rfl⟩
  refine Ev.iload_2 dX4_odds_10 rfl ?_
  refine Ev.if_lt 19 dX4_odds_11 (by decide) (fun h11 => ?_) (fun h11 => ?_)
  · refine Ev.bipush (v := -102) dX4_odds_19 (by decide) ?_
    refine Ev.iret dX4_odds_21 ?_
    exact ⟨rfl, rfl⟩
  refine Ev.iload_2 dX4_odds_14 rfl ?_
  refine Ev.iconst (v := 1) dX4_odds_15 (by decide) ?_
  refine Ev.icmp_le 22 dX4_odds_16 (by decide) (fun h16 => ?_) (fun h16 => ?_)
  · exact absurd hx (fun q => q.elim h2 (fun q => q.elim h7 (fun q => q.elim h11 (fun q => q h16))))
  refine Ev.bipush (v := -102) dX4_odds_19 (by decide) ?_
  refine Ev.iret dX4_odds_21 ?_
  exact ⟨rfl, rfl⟩

set_option maxHeartbeats 4000000 in
set_option maxRecDepth 100000 in
theorem c_odds_s {d : Nat} {h pg l s il is t k : Nat → Int32} {PF LF SF ILF ISF TF KF : Nat → Nat → Int32} {N : Nat} (ok : LOK l LF 0 N) {a : Nat} (ha : 1 ≤ a) (ha4 : a ≤ 4) {y : Int32} (h0 : ¬ y < 0) (h1 : y ≤ 1) : Ev (d + 1) yX4_odds cX4_odds (some .int) 0 [some (.ref 0), some (.int (nI a)), some (.int y), none, none, none, none] [] (clsW h pg PF l LF s SF il ILF is ISF t TF k KF) (Is (some (.int (-103))) (clsW h pg PF l LF s SF il ILF is ISF t TF k KF)) := by
  refine Ev.iload_1 dX4_odds_0 rfl ?_
  refine Ev.iconst (v := 1) dX4_odds_1 (by decide) ?_
  refine Ev.icmp_lt 19 dX4_odds_2 (by decide) (fun h2 => ?_) (fun h2 => ?_)
  · exact absurd h2 (lp_gt (x := nI a) (N := a) rfl (k := 1) ha (by omega))
  refine Ev.iload_1 dX4_odds_5 rfl ?_
  refine Ev.iconst (v := 4) dX4_odds_6 (by decide) ?_
  refine Ev.icmp_gt 19 dX4_odds_7 (by decide) (fun h7 => ?_) (fun h7 => ?_)
  · exact absurd h7 (lp_gt (x := 4) (N := 4) rfl ha4 (by omega))
  refine Ev.iload_2 dX4_odds_10 rfl ?_
  refine Ev.if_lt 19 dX4_odds_11 (by decide) (fun h11 => ?_) (fun h11 => ?_)
  · exact absurd h11 h0
  refine Ev.iload_2 dX4_odds_14 rfl ?_
  refine Ev.iconst (v := 1) dX4_odds_15 (by decide) ?_
  refine Ev.icmp_le 22 dX4_odds_16 (by decide) (fun h16 => ?_) (fun h16 => ?_)
  · refine Ev.aload_0 dX4_odds_22 rfl ?_
    refine k_X4_hasTable (c_hasTable_f ok) dX4_odds_23 wl_X4_143 rfl (Nat.le_of_ble_eq_true rfl) ?_
    refine Ev.if_ne 32 dX4_odds_26 (by decide) (fun hcst => ?_) (fun hcst => ?_)
    · exact absurd hcst (by decide)
    refine Ev.bipush (v := -103) dX4_odds_29 (by decide) ?_
    refine Ev.iret dX4_odds_31 ?_
    exact ⟨rfl, rfl⟩
  · exact absurd h1 h16

set_option maxHeartbeats 4000000 in
set_option maxRecDepth 100000 in
theorem c_odds_loop {d : Nat} {h pg l s il is t k : Nat → Int32} {PF LF SF ILF ISF TF KF : Nat → Nat → Int32} {Q : Option Value → List Ce → Prop} {y z x : Int32} {a : Nat} (ha4 : a ≤ 4)  : ∀ (n : Nat) (j : Nat) (acc R : Int32), j + n = a → powF x n acc = R → Ev (d + 1) yX4_odds cX4_odds (some .int) 86 [some (.ref 0), some (.int (nI a)), some (.int y), some (.int z), some (.int x), some (.int R), some (.int (nI a))] [] (clsW h pg PF l LF s SF il ILF is ISF t TF k KF) Q → Ev (d + 1) yX4_odds cX4_odds (some .int) 67 [some (.ref 0), some (.int (nI a)), some (.int y), some (.int z), some (.int x), some (.int acc), some (.int (nI j))] [] (clsW h pg PF l LF s SF il ILF is ISF t TF k KF) Q := by
  intro n
  induction n with
  | zero =>
    intro j acc R hk hR K
    have hk : j = a := by omega
    subst hk
    have hR : acc = R := hR
    subst hR
    refine Ev.iload dX4_odds_67 rfl ?_
    refine Ev.iload_1 dX4_odds_69 rfl ?_
    refine Ev.icmp_ge 86 dX4_odds_70 (by decide) (fun h70 => ?_) (fun h70 => ?_)
    · exact K
    · exact absurd (Int32.le_refl _) h70
  | succ n ih =>
    intro j acc R hk hR K
    refine Ev.iload dX4_odds_67 rfl ?_
    refine Ev.iload_1 dX4_odds_69 rfl ?_
    refine Ev.icmp_ge 86 dX4_odds_70 (by decide) (fun h70 => ?_) (fun h70 => ?_)
    · exact absurd h70 (lp_ge (N := a) rfl (by omega) (by omega))
    refine Ev.iload dX4_odds_73 rfl ?_
    refine Ev.iload dX4_odds_75 rfl ?_
    refine Ev.imul dX4_odds_77 ?_
    refine Ev.ist5 dX4_odds_78 rfl ?_
    first | refine Ev.incn6 dX4_odds_80 rfl ?_ | refine Ev.inc6 dX4_odds_80 rfl ?_
    refine Ev.goto 67 dX4_odds_83 (by decide) ?_
    exact ih (j + 1) _ R (by omega) (by rw [← hR]; rfl) K

set_option maxHeartbeats 4000000 in
set_option maxRecDepth 100000 in
theorem c_odds_0 {d : Nat} {h pg l s il is t k : Nat → Int32} {PF LF SF ILF ISF TF KF : Nat → Nat → Int32} {V N : Nat} (ok : LOK l LF V N) (hV : 0 < V) {a : Nat} (ha : 1 ≤ a) (ha4 : a ≤ 4)  : Ev (d + 3) yX4_odds cX4_odds (some .int) 0 [some (.ref 0), some (.int (nI a)), some (.int 0), none, none, none, none] [] (clsW h pg PF l LF s SF il ILF is ISF t TF k KF) (Is (some (.int (powF (iltF (hw (vC LF) V N) 20 19) a 1))) (clsW h pg PF l LF s SF il ILF is ISF t TF k KF)) := by
  refine Ev.iload_1 dX4_odds_0 rfl ?_
  refine Ev.iconst (v := 1) dX4_odds_1 (by decide) ?_
  refine Ev.icmp_lt 19 dX4_odds_2 (by decide) (fun h2 => ?_) (fun h2 => ?_)
  · exact absurd h2 (lp_gt (x := nI a) (N := a) rfl (k := 1) ha (by omega))
  refine Ev.iload_1 dX4_odds_5 rfl ?_
  refine Ev.iconst (v := 4) dX4_odds_6 (by decide) ?_
  refine Ev.icmp_gt 19 dX4_odds_7 (by decide) (fun h7 => ?_) (fun h7 => ?_)
  · exact absurd h7 (lp_gt (x := 4) (N := 4) rfl ha4 (by omega))
  refine Ev.iload_2 dX4_odds_10 rfl ?_
  refine Ev.if_lt 19 dX4_odds_11 (by decide) (fun h11 => ?_) (fun h11 => ?_)
  · exact absurd h11 (by decide)
  refine Ev.iload_2 dX4_odds_14 rfl ?_
  refine Ev.iconst (v := 1) dX4_odds_15 (by decide) ?_
  refine Ev.icmp_le 22 dX4_odds_16 (by decide) (fun h16 => ?_) (fun h16 => ?_)
  · refine Ev.aload_0 dX4_odds_22 rfl ?_
    refine k_X4_hasTable (c_hasTable_t ok hV) dX4_odds_23 wl_X4_143 rfl (Nat.le_of_ble_eq_true rfl) ?_
    refine Ev.if_ne 32 dX4_odds_26 (by decide) (fun hcst => ?_) (fun hcst => ?_)
    rotate_left
    · exact absurd hcst (by decide)
    refine Ev.aload_0 dX4_odds_32 rfl ?_
    refine Ev.getf cf4 1 (by decide) wf_X4_19 dX4_odds_33 rfl rfl ?_
    refine kp_X0_hourlyWindsStood [3, 4, 5, 6, 7, 8, 9] (e_X0_hourlyWindsStood ok) dX4_odds_36 wl_X4_182 rfl (Nat.le_of_ble_eq_true rfl) rfl (by decide) ⟨rfl, rfl⟩ rfl ?_
    refine Ev.ist3 dX4_odds_39 rfl ?_
    refine Ev.iload_2 dX4_odds_40 rfl ?_
    refine Ev.if_ne 53 dX4_odds_41 (by decide) (fun h41 => ?_) (fun h41 => ?_)
    · exact absurd rfl h41
    refine Ev.iload_3 dX4_odds_44 rfl ?_
    refine Ev.bipush (v := 20) dX4_odds_45 (by decide) ?_
    refine k_X4_inLowestTerms (c_ilt _ _) dX4_odds_47 wl_X4_185 (Nat.le_of_ble_eq_true rfl) ?_
    refine Ev.goto 59 dX4_odds_50 (by decide) ?_
    refine Ev.ist4 dX4_odds_59 rfl ?_
    refine Ev.iconst (v := 1) dX4_odds_61 (by decide) ?_
    refine Ev.ist5 dX4_odds_62 rfl ?_
    refine Ev.iconst (v := 0) dX4_odds_64 (by decide) ?_
    refine Ev.ist6 dX4_odds_65 rfl ?_
    exact c_odds_loop ha4 a 0 _ _ (by omega) rfl (Ev.iload dX4_odds_86 rfl (Ev.iret dX4_odds_88 ⟨rfl, rfl⟩))
  · exact absurd (by decide) h16

set_option maxHeartbeats 4000000 in
set_option maxRecDepth 100000 in
theorem c_odds_1 {d : Nat} {h pg l s il is t k : Nat → Int32} {PF LF SF ILF ISF TF KF : Nat → Nat → Int32} {V N : Nat} (ok : LOK l LF V N) (hV : 0 < V) {a : Nat} (ha : 1 ≤ a) (ha4 : a ≤ 4)  : Ev (d + 3) yX4_odds cX4_odds (some .int) 0 [some (.ref 0), some (.int (nI a)), some (.int 1), none, none, none, none] [] (clsW h pg PF l LF s SF il ILF is ISF t TF k KF) (Is (some (.int (powF (iltF 20 (hw (vC LF) V N) 19) a 1))) (clsW h pg PF l LF s SF il ILF is ISF t TF k KF)) := by
  refine Ev.iload_1 dX4_odds_0 rfl ?_
  refine Ev.iconst (v := 1) dX4_odds_1 (by decide) ?_
  refine Ev.icmp_lt 19 dX4_odds_2 (by decide) (fun h2 => ?_) (fun h2 => ?_)
  · exact absurd h2 (lp_gt (x := nI a) (N := a) rfl (k := 1) ha (by omega))
  refine Ev.iload_1 dX4_odds_5 rfl ?_
  refine Ev.iconst (v := 4) dX4_odds_6 (by decide) ?_
  refine Ev.icmp_gt 19 dX4_odds_7 (by decide) (fun h7 => ?_) (fun h7 => ?_)
  · exact absurd h7 (lp_gt (x := 4) (N := 4) rfl ha4 (by omega))
  refine Ev.iload_2 dX4_odds_10 rfl ?_
  refine Ev.if_lt 19 dX4_odds_11 (by decide) (fun h11 => ?_) (fun h11 => ?_)
  · exact absurd h11 (by decide)
  refine Ev.iload_2 dX4_odds_14 rfl ?_
  refine Ev.iconst (v := 1) dX4_odds_15 (by decide) ?_
  refine Ev.icmp_le 22 dX4_odds_16 (by decide) (fun h16 => ?_) (fun h16 => ?_)
  · refine Ev.aload_0 dX4_odds_22 rfl ?_
    refine k_X4_hasTable (c_hasTable_t ok hV) dX4_odds_23 wl_X4_143 rfl (Nat.le_of_ble_eq_true rfl) ?_
    refine Ev.if_ne 32 dX4_odds_26 (by decide) (fun hcst => ?_) (fun hcst => ?_)
    rotate_left
    · exact absurd hcst (by decide)
    refine Ev.aload_0 dX4_odds_32 rfl ?_
    refine Ev.getf cf4 1 (by decide) wf_X4_19 dX4_odds_33 rfl rfl ?_
    refine kp_X0_hourlyWindsStood [3, 4, 5, 6, 7, 8, 9] (e_X0_hourlyWindsStood ok) dX4_odds_36 wl_X4_182 rfl (Nat.le_of_ble_eq_true rfl) rfl (by decide) ⟨rfl, rfl⟩ rfl ?_
    refine Ev.ist3 dX4_odds_39 rfl ?_
    refine Ev.iload_2 dX4_odds_40 rfl ?_
    refine Ev.if_ne 53 dX4_odds_41 (by decide) (fun h41 => ?_) (fun h41 => ?_)
    · refine Ev.bipush (v := 20) dX4_odds_53 (by decide) ?_
      refine Ev.iload_3 dX4_odds_55 rfl ?_
      refine k_X4_inLowestTerms (c_ilt _ _) dX4_odds_56 wl_X4_185 (Nat.le_of_ble_eq_true rfl) ?_
      refine Ev.ist4 dX4_odds_59 rfl ?_
      refine Ev.iconst (v := 1) dX4_odds_61 (by decide) ?_
      refine Ev.ist5 dX4_odds_62 rfl ?_
      refine Ev.iconst (v := 0) dX4_odds_64 (by decide) ?_
      refine Ev.ist6 dX4_odds_65 rfl ?_
      exact c_odds_loop ha4 a 0 _ _ (by omega) rfl (Ev.iload dX4_odds_86 rfl (Ev.iret dX4_odds_88 ⟨rfl, rfl⟩))
    · exact absurd h41 (by decide)
  · exact absurd (by decide) h16

set_option maxHeartbeats 4000000 in
set_option maxRecDepth 100000 in
theorem c_decades_o {d : Nat} {h pg l s il is t k : Nat → Int32} {PF LF SF ILF ISF TF KF : Nat → Nat → Int32} {x y z : Int32} (hx : x < 1 ∨ 60 < x ∨ y < 0 ∨ z < 0 ∨ ¬ z ≤ 2) : Ev (d + 1) yX4_decades cX4_decades (some .int) 0 [some (.ref 0), some (.int x), some (.int y), some (.int z), none, none, none, none] [] (clsW h pg PF l LF s SF il ILF is ISF t TF k KF) (Is (some (.int (-102))) (clsW h pg PF l LF s SF il ILF is ISF t TF k KF)) := by
  refine Ev.iload_1 dX4_decades_0 rfl ?_
  refine Ev.iconst (v := 1) dX4_decades_1 (by decide) ?_
  refine Ev.icmp_lt 24 dX4_decades_2 (by decide) (fun h2 => ?_) (fun h2 => ?_)
  · refine Ev.bipush (v := -102) dX4_decades_24 (by decide) ?_
    refine Ev.iret dX4_decades_26 ?_
    exact ⟨rfl, rfl⟩
  refine Ev.iload_1 dX4_decades_5 rfl ?_
  refine Ev.bipush (v := 60) dX4_decades_6 (by decide) ?_
  refine Ev.icmp_gt 24 dX4_decades_8 (by decide) (fun h8 => ?_) (fun h8 => ?_)
  · refine Ev.bipush (v := -102) dX4_decades_24 (by decide) ?_
    refine Ev.iret dX4_decades_26 ?_
    exact ⟨rfl, rfl⟩
  refine Ev.iload_2 dX4_decades_11 rfl ?_
  refine Ev.if_lt 24 dX4_decades_12 (by decide) (fun h12 => ?_) (fun h12 => ?_)
  · refine Ev.bipush (v := -102) dX4_decades_24 (by decide) ?_
    refine Ev.iret dX4_decades_26 ?_
    exact ⟨rfl, rfl⟩
  refine Ev.iload_3 dX4_decades_15 rfl ?_
  refine Ev.if_lt 24 dX4_decades_16 (by decide) (fun h16 => ?_) (fun h16 => ?_)
  · refine Ev.bipush (v := -102) dX4_decades_24 (by decide) ?_
    refine Ev.iret dX4_decades_26 ?_
    exact ⟨rfl, rfl⟩
  refine Ev.iload_3 dX4_decades_19 rfl ?_
  refine Ev.iconst (v := 2) dX4_decades_20 (by decide) ?_
  refine Ev.icmp_le 27 dX4_decades_21 (by decide) (fun h21 => ?_) (fun h21 => ?_)
  · exact absurd hx (fun q => q.elim h2 (fun q => q.elim h8 (fun q => q.elim h12 (fun q => q.elim h16 (fun q => q h21)))))
  refine Ev.bipush (v := -102) dX4_decades_24 (by decide) ?_
  refine Ev.iret dX4_decades_26 ?_
  exact ⟨rfl, rfl⟩

set_option maxHeartbeats 4000000 in
set_option maxRecDepth 100000 in
theorem c_decades_s {d : Nat} {h pg l s il is t k : Nat → Int32} {PF LF SF ILF ISF TF KF : Nat → Nat → Int32} {N : Nat} (ok : LOK l LF 0 N) {a : Nat} (ha : 1 ≤ a) (ha60 : a ≤ 60) {y : Int32} (hy : ¬ y < 0) {z : Int32} (h0 : ¬ z < 0) (h2z : z ≤ 2) : Ev (d + 1) yX4_decades cX4_decades (some .int) 0 [some (.ref 0), some (.int (nI a)), some (.int y), some (.int z), none, none, none, none] [] (clsW h pg PF l LF s SF il ILF is ISF t TF k KF) (Is (some (.int (-103))) (clsW h pg PF l LF s SF il ILF is ISF t TF k KF)) := by
  refine Ev.iload_1 dX4_decades_0 rfl ?_
  refine Ev.iconst (v := 1) dX4_decades_1 (by decide) ?_
  refine Ev.icmp_lt 24 dX4_decades_2 (by decide) (fun h2 => ?_) (fun h2 => ?_)
  · exact absurd h2 (lp_gt (x := nI a) (N := a) rfl (k := 1) ha (by omega))
  refine Ev.iload_1 dX4_decades_5 rfl ?_
  refine Ev.bipush (v := 60) dX4_decades_6 (by decide) ?_
  refine Ev.icmp_gt 24 dX4_decades_8 (by decide) (fun h8 => ?_) (fun h8 => ?_)
  · exact absurd h8 (lp_gt (x := 60) (N := 60) rfl ha60 (by omega))
  refine Ev.iload_2 dX4_decades_11 rfl ?_
  refine Ev.if_lt 24 dX4_decades_12 (by decide) (fun h12 => ?_) (fun h12 => ?_)
  · exact absurd h12 hy
  refine Ev.iload_3 dX4_decades_15 rfl ?_
  refine Ev.if_lt 24 dX4_decades_16 (by decide) (fun h16 => ?_) (fun h16 => ?_)
  · exact absurd h16 h0
  refine Ev.iload_3 dX4_decades_19 rfl ?_
  refine Ev.iconst (v := 2) dX4_decades_20 (by decide) ?_
  refine Ev.icmp_le 27 dX4_decades_21 (by decide) (fun h21 => ?_) (fun h21 => ?_)
  · refine Ev.aload_0 dX4_decades_27 rfl ?_
    refine k_X4_hasTable (c_hasTable_f ok) dX4_decades_28 wl_X4_143 rfl (Nat.le_of_ble_eq_true rfl) ?_
    refine Ev.if_ne 37 dX4_decades_31 (by decide) (fun hcst => ?_) (fun hcst => ?_)
    · exact absurd hcst (by decide)
    refine Ev.bipush (v := -103) dX4_decades_34 (by decide) ?_
    refine Ev.iret dX4_decades_36 ?_
    exact ⟨rfl, rfl⟩
  · exact absurd h2z h21

set_option maxHeartbeats 4000000 in
set_option maxRecDepth 100000 in
theorem c_decades_loop {d : Nat} {h pg l s il is k : Nat → Int32} {PF LF SF ILF ISF KF : Nat → Nat → Int32} {Q : Option Value → List Ce → Prop} {V N a : Nat} {y z : Int32} (ha60 : a ≤ 60) : ∀ (n j : Nat) (b c : Int32) (t : Nat → Int32) (TF : Nat → Nat → Int32) (R : Int32 × Int32 × (Nat → Int32) × (Nat → Nat → Int32)) (x : Option Value), lok [some (.ref 0), some (.int (nI a)), some (.int y), some (.int z), some (.int b), some (.int c), some (.int (nI j)), x] 7 = true → LOK t TF V N → j + n = a → dcF V N n b c t TF = R → (∀ x : Option Value, Ev (d + 3) yX4_decades cX4_decades (some .int) 112 [some (.ref 0), some (.int (nI a)), some (.int y), some (.int z), some (.int R.1), some (.int R.2.1), some (.int (nI a)), x] [] (clsW h pg PF l LF s SF il ILF is ISF R.2.2.1 R.2.2.2 k KF) Q) → Ev (d + 3) yX4_decades cX4_decades (some .int) 57 [some (.ref 0), some (.int (nI a)), some (.int y), some (.int z), some (.int b), some (.int c), some (.int (nI j)), x] [] (clsW h pg PF l LF s SF il ILF is ISF t TF k KF) Q := by
  intro n
  induction n with
  | zero =>
    intro j b c t TF R x hx ok hk hR Kh
    have hk : j = a := by omega
    subst hk
    have hR : (b, c, t, TF) = R := hR
    subst hR
    refine Ev.iload dX4_decades_57 rfl ?_
    refine Ev.iload_1 dX4_decades_59 rfl ?_
    refine Ev.icmp_ge 112 dX4_decades_60 (by decide) (fun h60 => ?_) (fun h60 => ?_)
    · exact Kh _
    · exact absurd (Int32.le_refl _) h60
  | succ n ih =>
    intro j b c t TF R x hx ok hk hR Kh
    refine Ev.iload dX4_decades_57 rfl ?_
    refine Ev.iload_1 dX4_decades_59 rfl ?_
    refine Ev.icmp_ge 112 dX4_decades_60 (by decide) (fun h60 => ?_) (fun h60 => ?_)
    · exact absurd h60 (lp_ge (N := a) rfl (by omega) (by omega))
    refine Ev.iload dX4_decades_63 rfl ?_
    refine k_X4_nextSeed (c_nxs _) dX4_decades_65 wl_X4_194 (Nat.le_of_ble_eq_true rfl) ?_
    refine Ev.ist5 dX4_decades_68 rfl ?_
    refine Ev.iload dX4_decades_70 rfl ?_
    refine Ev.iconst (v := 2) dX4_decades_72 (by decide) ?_
    refine k_X4_drawnOf (c_drw2 _) dX4_decades_73 wl_X4_197 (Nat.le_of_ble_eq_true rfl) ?_
    refine Ev.ist7 dX4_decades_76 rfl ?_
    refine Ev.iload dX4_decades_78 rfl ?_
    refine k_X4_nextSeed (c_nxs _) dX4_decades_80 wl_X4_194 (Nat.le_of_ble_eq_true rfl) ?_
    refine Ev.ist5 dX4_decades_83 rfl ?_
    refine Ev.iload dX4_decades_85 rfl ?_
    refine Ev.aload_0 dX4_decades_87 rfl ?_
    refine Ev.getf cf4 5 (by decide) wf_X4_36 dX4_decades_88 rfl rfl ?_
    refine Ev.iload dX4_decades_91 rfl ?_
    refine Ev.iload dX4_decades_93 rfl ?_
    refine Ev.bipush (v := 10) dX4_decades_95 (by decide) ?_
    refine k_X4_drawnOf (c_drw10 _) dX4_decades_97 wl_X4_197 (Nat.le_of_ble_eq_true rfl) ?_
    refine ke_X0_takeWind (w2 := (clsW h pg PF l LF s SF il ILF is ISF (tkL t TF V N (drw (nxs c) 2) (drw (nxs (nxs c)) 10)) (tkS t TF V N (drw (nxs c) 2) (drw (nxs (nxs c)) 10)).2 k KF)) [29, 30, 31, 32, 33, 34, 35] (e_X0_takeWind ok _ _) dX4_decades_100 wl_X4_149 rfl (Nat.le_of_ble_eq_true rfl) rfl (by decide) ⟨rfl, rfl⟩ rfl rfl rfl ?_
    refine Ev.iadd dX4_decades_103 ?_
    refine Ev.ist4 dX4_decades_104 rfl ?_
    first | refine Ev.incn6 dX4_decades_106 rfl ?_ | refine Ev.inc6 dX4_decades_106 rfl ?_
    refine Ev.goto 57 dX4_decades_109 (by decide) ?_
    exact ih (j + 1) _ _ _ _ R _ rfl (ok.tk _ _) (by omega) (by rw [← hR]; rfl) Kh

set_option maxHeartbeats 4000000 in
set_option maxRecDepth 100000 in
theorem c_decades_0 {d : Nat} {h pg l s il is t k : Nat → Int32} {PF LF SF ILF ISF TF KF : Nat → Nat → Int32} {V N : Nat} (ok : LOK l LF V N) (hV : 0 < V) {a : Nat} (ha : 1 ≤ a) (ha60 : a ≤ 60) {y : Int32} (hy : ¬ y < 0)  : Ev (d + 3) yX4_decades cX4_decades (some .int) 0 [some (.ref 0), some (.int (nI a)), some (.int y), some (.int 0), none, none, none, none] [] (clsW h pg PF l LF s SF il ILF is ISF t TF k KF) (Is (some (.int ((dcF V N a 0 y (cpL t l) (cpW LF 5 0 (cpB LF 4 0 TF))).1))) (clsW h pg PF l LF s SF il ILF is ISF (dcF V N a 0 y (cpL t l) (cpW LF 5 0 (cpB LF 4 0 TF))).2.2.1 (dcF V N a 0 y (cpL t l) (cpW LF 5 0 (cpB LF 4 0 TF))).2.2.2 k KF)) := by
  refine Ev.iload_1 dX4_decades_0 rfl ?_
  refine Ev.iconst (v := 1) dX4_decades_1 (by decide) ?_
  refine Ev.icmp_lt 24 dX4_decades_2 (by decide) (fun h2 => ?_) (fun h2 => ?_)
  · exact absurd h2 (lp_gt (x := nI a) (N := a) rfl (k := 1) ha (by omega))
  refine Ev.iload_1 dX4_decades_5 rfl ?_
  refine Ev.bipush (v := 60) dX4_decades_6 (by decide) ?_
  refine Ev.icmp_gt 24 dX4_decades_8 (by decide) (fun h8 => ?_) (fun h8 => ?_)
  · exact absurd h8 (lp_gt (x := 60) (N := 60) rfl ha60 (by omega))
  refine Ev.iload_2 dX4_decades_11 rfl ?_
  refine Ev.if_lt 24 dX4_decades_12 (by decide) (fun h12 => ?_) (fun h12 => ?_)
  · exact absurd h12 hy
  refine Ev.iload_3 dX4_decades_15 rfl ?_
  refine Ev.if_lt 24 dX4_decades_16 (by decide) (fun h16 => ?_) (fun h16 => ?_)
  · exact absurd h16 (by decide)
  refine Ev.iload_3 dX4_decades_19 rfl ?_
  refine Ev.iconst (v := 2) dX4_decades_20 (by decide) ?_
  refine Ev.icmp_le 27 dX4_decades_21 (by decide) (fun h21 => ?_) (fun h21 => ?_)
  · refine Ev.aload_0 dX4_decades_27 rfl ?_
    refine k_X4_hasTable (c_hasTable_t ok hV) dX4_decades_28 wl_X4_143 rfl (Nat.le_of_ble_eq_true rfl) ?_
    refine Ev.if_ne 37 dX4_decades_31 (by decide) (fun hcst => ?_) (fun hcst => ?_)
    rotate_left
    · exact absurd hcst (by decide)
    refine Ev.aload_0 dX4_decades_37 rfl ?_
    refine Ev.getf cf4 5 (by decide) wf_X4_36 dX4_decades_38 rfl rfl ?_
    refine Ev.aload_0 dX4_decades_41 rfl ?_
    refine Ev.getf cf4 1 (by decide) wf_X4_19 dX4_decades_42 rfl rfl ?_
    refine ke_X0_copyFrom (w2 := (clsW h pg PF l LF s SF il ILF is ISF (cpL t l) (cpW LF 5 0 (cpB LF 4 0 TF)) k KF)) [29, 30, 31, 32, 33, 34, 35, 3, 4, 5, 6, 7, 8, 9] (e_X0_copyFrom) dX4_decades_45 wl_X4_191 rfl (Nat.le_of_ble_eq_true rfl) rfl rfl (by decide) ⟨rfl, rfl⟩ rfl rfl rfl ?_
    refine Ev.iconst (v := 0) dX4_decades_48 (by decide) ?_
    refine Ev.ist4 dX4_decades_49 rfl ?_
    refine Ev.iload_2 dX4_decades_51 rfl ?_
    refine Ev.ist5 dX4_decades_52 rfl ?_
    refine Ev.iconst (v := 0) dX4_decades_54 (by decide) ?_
    refine Ev.ist6 dX4_decades_55 rfl ?_
    refine c_decades_loop ha60 a 0 _ _ _ _ (dcF V N a 0 y (cpL t l) (cpW LF 5 0 (cpB LF 4 0 TF))) _ rfl (ok.cp t TF) (by omega) rfl (fun x => ?_)
    refine Ev.iload_3 dX4_decades_112 rfl ?_
    refine Ev.lookup 140 dX4_decades_113 (by decide) (off := 27) (by decide) (by decide) ?_
    refine Ev.iload dX4_decades_140 rfl ?_
    refine Ev.iret dX4_decades_142 ?_
    exact ⟨rfl, rfl⟩
  · exact absurd (by decide) h21

set_option maxHeartbeats 4000000 in
set_option maxRecDepth 100000 in
theorem c_decades_1 {d : Nat} {h pg l s il is t k : Nat → Int32} {PF LF SF ILF ISF TF KF : Nat → Nat → Int32} {V N : Nat} (ok : LOK l LF V N) (hV : 0 < V) {a : Nat} (ha : 1 ≤ a) (ha60 : a ≤ 60) {y : Int32} (hy : ¬ y < 0)  : Ev (d + 3) yX4_decades cX4_decades (some .int) 0 [some (.ref 0), some (.int (nI a)), some (.int y), some (.int 1), none, none, none, none] [] (clsW h pg PF l LF s SF il ILF is ISF t TF k KF) (Is (some (.int (bitc (wi (vC (dcF V N a 0 y (cpL t l) (cpW LF 5 0 (cpB LF 4 0 TF))).2.2.2) N (-1))))) (clsW h pg PF l LF s SF il ILF is ISF (dcF V N a 0 y (cpL t l) (cpW LF 5 0 (cpB LF 4 0 TF))).2.2.1 (dcF V N a 0 y (cpL t l) (cpW LF 5 0 (cpB LF 4 0 TF))).2.2.2 k KF)) := by
  refine Ev.iload_1 dX4_decades_0 rfl ?_
  refine Ev.iconst (v := 1) dX4_decades_1 (by decide) ?_
  refine Ev.icmp_lt 24 dX4_decades_2 (by decide) (fun h2 => ?_) (fun h2 => ?_)
  · exact absurd h2 (lp_gt (x := nI a) (N := a) rfl (k := 1) ha (by omega))
  refine Ev.iload_1 dX4_decades_5 rfl ?_
  refine Ev.bipush (v := 60) dX4_decades_6 (by decide) ?_
  refine Ev.icmp_gt 24 dX4_decades_8 (by decide) (fun h8 => ?_) (fun h8 => ?_)
  · exact absurd h8 (lp_gt (x := 60) (N := 60) rfl ha60 (by omega))
  refine Ev.iload_2 dX4_decades_11 rfl ?_
  refine Ev.if_lt 24 dX4_decades_12 (by decide) (fun h12 => ?_) (fun h12 => ?_)
  · exact absurd h12 hy
  refine Ev.iload_3 dX4_decades_15 rfl ?_
  refine Ev.if_lt 24 dX4_decades_16 (by decide) (fun h16 => ?_) (fun h16 => ?_)
  · exact absurd h16 (by decide)
  refine Ev.iload_3 dX4_decades_19 rfl ?_
  refine Ev.iconst (v := 2) dX4_decades_20 (by decide) ?_
  refine Ev.icmp_le 27 dX4_decades_21 (by decide) (fun h21 => ?_) (fun h21 => ?_)
  · refine Ev.aload_0 dX4_decades_27 rfl ?_
    refine k_X4_hasTable (c_hasTable_t ok hV) dX4_decades_28 wl_X4_143 rfl (Nat.le_of_ble_eq_true rfl) ?_
    refine Ev.if_ne 37 dX4_decades_31 (by decide) (fun hcst => ?_) (fun hcst => ?_)
    rotate_left
    · exact absurd hcst (by decide)
    refine Ev.aload_0 dX4_decades_37 rfl ?_
    refine Ev.getf cf4 5 (by decide) wf_X4_36 dX4_decades_38 rfl rfl ?_
    refine Ev.aload_0 dX4_decades_41 rfl ?_
    refine Ev.getf cf4 1 (by decide) wf_X4_19 dX4_decades_42 rfl rfl ?_
    refine ke_X0_copyFrom (w2 := (clsW h pg PF l LF s SF il ILF is ISF (cpL t l) (cpW LF 5 0 (cpB LF 4 0 TF)) k KF)) [29, 30, 31, 32, 33, 34, 35, 3, 4, 5, 6, 7, 8, 9] (e_X0_copyFrom) dX4_decades_45 wl_X4_191 rfl (Nat.le_of_ble_eq_true rfl) rfl rfl (by decide) ⟨rfl, rfl⟩ rfl rfl rfl ?_
    refine Ev.iconst (v := 0) dX4_decades_48 (by decide) ?_
    refine Ev.ist4 dX4_decades_49 rfl ?_
    refine Ev.iload_2 dX4_decades_51 rfl ?_
    refine Ev.ist5 dX4_decades_52 rfl ?_
    refine Ev.iconst (v := 0) dX4_decades_54 (by decide) ?_
    refine Ev.ist6 dX4_decades_55 rfl ?_
    refine c_decades_loop ha60 a 0 _ _ _ _ (dcF V N a 0 y (cpL t l) (cpW LF 5 0 (cpB LF 4 0 TF))) _ rfl (ok.cp t TF) (by omega) rfl (fun x => ?_)
    refine Ev.iload_3 dX4_decades_112 rfl ?_
    refine Ev.lookup 143 dX4_decades_113 (by decide) (off := 30) (by decide) (by decide) ?_
    refine Ev.aload_0 dX4_decades_143 rfl ?_
    refine Ev.getf cf4 5 (by decide) wf_X4_36 dX4_decades_144 rfl rfl ?_
    refine kp_X0_weightsOnPlain [29, 30, 31, 32, 33, 34, 35] (e_X0_weightsOnPlain (LOK.dc _ _ _ _ _ (ok.cp t TF))) dX4_decades_147 wl_X4_200 rfl (Nat.le_of_ble_eq_true rfl) rfl (by decide) ⟨rfl, rfl⟩ rfl ?_
    refine Ev.iret dX4_decades_150 ?_
    exact ⟨rfl, rfl⟩
  · exact absurd (by decide) h21

set_option maxHeartbeats 4000000 in
set_option maxRecDepth 100000 in
theorem c_decades_2 {d : Nat} {h pg l s il is t k : Nat → Int32} {PF LF SF ILF ISF TF KF : Nat → Nat → Int32} {V N : Nat} (ok : LOK l LF V N) (hV : 0 < V) {a : Nat} (ha : 1 ≤ a) (ha60 : a ≤ 60) {y : Int32} (hy : ¬ y < 0)  : Ev (d + 3) yX4_decades cX4_decades (some .int) 0 [some (.ref 0), some (.int (nI a)), some (.int y), some (.int 2), none, none, none, none] [] (clsW h pg PF l LF s SF il ILF is ISF t TF k KF) (Is (some (.int ((dcF V N a 0 y (cpL t l) (cpW LF 5 0 (cpB LF 4 0 TF))).2.1))) (clsW h pg PF l LF s SF il ILF is ISF (dcF V N a 0 y (cpL t l) (cpW LF 5 0 (cpB LF 4 0 TF))).2.2.1 (dcF V N a 0 y (cpL t l) (cpW LF 5 0 (cpB LF 4 0 TF))).2.2.2 k KF)) := by
  refine Ev.iload_1 dX4_decades_0 rfl ?_
  refine Ev.iconst (v := 1) dX4_decades_1 (by decide) ?_
  refine Ev.icmp_lt 24 dX4_decades_2 (by decide) (fun h2 => ?_) (fun h2 => ?_)
  · exact absurd h2 (lp_gt (x := nI a) (N := a) rfl (k := 1) ha (by omega))
  refine Ev.iload_1 dX4_decades_5 rfl ?_
  refine Ev.bipush (v := 60) dX4_decades_6 (by decide) ?_
  refine Ev.icmp_gt 24 dX4_decades_8 (by decide) (fun h8 => ?_) (fun h8 => ?_)
  · exact absurd h8 (lp_gt (x := 60) (N := 60) rfl ha60 (by omega))
  refine Ev.iload_2 dX4_decades_11 rfl ?_
  refine Ev.if_lt 24 dX4_decades_12 (by decide) (fun h12 => ?_) (fun h12 => ?_)
  · exact absurd h12 hy
  refine Ev.iload_3 dX4_decades_15 rfl ?_
  refine Ev.if_lt 24 dX4_decades_16 (by decide) (fun h16 => ?_) (fun h16 => ?_)
  · exact absurd h16 (by decide)
  refine Ev.iload_3 dX4_decades_19 rfl ?_
  refine Ev.iconst (v := 2) dX4_decades_20 (by decide) ?_
  refine Ev.icmp_le 27 dX4_decades_21 (by decide) (fun h21 => ?_) (fun h21 => ?_)
  · refine Ev.aload_0 dX4_decades_27 rfl ?_
    refine k_X4_hasTable (c_hasTable_t ok hV) dX4_decades_28 wl_X4_143 rfl (Nat.le_of_ble_eq_true rfl) ?_
    refine Ev.if_ne 37 dX4_decades_31 (by decide) (fun hcst => ?_) (fun hcst => ?_)
    rotate_left
    · exact absurd hcst (by decide)
    refine Ev.aload_0 dX4_decades_37 rfl ?_
    refine Ev.getf cf4 5 (by decide) wf_X4_36 dX4_decades_38 rfl rfl ?_
    refine Ev.aload_0 dX4_decades_41 rfl ?_
    refine Ev.getf cf4 1 (by decide) wf_X4_19 dX4_decades_42 rfl rfl ?_
    refine ke_X0_copyFrom (w2 := (clsW h pg PF l LF s SF il ILF is ISF (cpL t l) (cpW LF 5 0 (cpB LF 4 0 TF)) k KF)) [29, 30, 31, 32, 33, 34, 35, 3, 4, 5, 6, 7, 8, 9] (e_X0_copyFrom) dX4_decades_45 wl_X4_191 rfl (Nat.le_of_ble_eq_true rfl) rfl rfl (by decide) ⟨rfl, rfl⟩ rfl rfl rfl ?_
    refine Ev.iconst (v := 0) dX4_decades_48 (by decide) ?_
    refine Ev.ist4 dX4_decades_49 rfl ?_
    refine Ev.iload_2 dX4_decades_51 rfl ?_
    refine Ev.ist5 dX4_decades_52 rfl ?_
    refine Ev.iconst (v := 0) dX4_decades_54 (by decide) ?_
    refine Ev.ist6 dX4_decades_55 rfl ?_
    refine c_decades_loop ha60 a 0 _ _ _ _ (dcF V N a 0 y (cpL t l) (cpW LF 5 0 (cpB LF 4 0 TF))) _ rfl (ok.cp t TF) (by omega) rfl (fun x => ?_)
    refine Ev.iload_3 dX4_decades_112 rfl ?_
    refine Ev.lookup 151 dX4_decades_113 (by decide) (off := 38) (by decide) (by decide) ?_
    refine Ev.iload dX4_decades_151 rfl ?_
    refine Ev.iret dX4_decades_153 ?_
    exact ⟨rfl, rfl⟩
  · exact absurd (by decide) h21
