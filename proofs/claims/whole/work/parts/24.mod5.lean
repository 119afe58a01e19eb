def atv (lt : Nat → Int32) (L a : Nat) : Int32 := if a < L then lt a else 0
def fig (lt : Nat → Int32) (L a : Nat) (lo hi : Int32) : Int32 := wtn (atv lt L a - 48) lo hi
def rw2 (L k : Nat) (g : Nat → Int32) : Nat → Int32 := upd (upd g 22 (g 22 + 1)) 20 (if k + 4 = L then 1 else 0)
/-- readWeights, n more to come -/
def rwF (lt : Nat → Int32) (L : Nat) : Nat → Nat → (Nat → Int32) → Nat × (Nat → Int32)
  | 0, k, g => (k, g)
  | n + 1, k, g => if mkb (atv lt L k) = -1 then (k, g) else if fig lt L (k + 1) 1 9 = 0 then (k + 1, g) else if fig lt L (k + 2) 0 (g 21 - 1) = 0 then (k + 2, g) else if fig lt L (k + 3) 0 4 = 0 then (k + 3, g) else if n = 0 ∨ ¬ atv lt L (k + 4) = 44 then (k + 4, rw2 L k g) else rwF lt L n (k + 5) (rw2 L k g)
/-- read, n more villages to come -/
def rdF (lt : Nat → Int32) (L : Nat) : Nat → Nat → (Nat → Int32) → Nat × (Nat → Int32)
  | 0, k, g => (k, g)
  | n + 1, k, g => if fig lt L k 0 9 = 0 then (k, g) else if atv lt L (k + 1) = 59 ∧ ¬ g 21 + 1 ≤ 1 then rwF lt L 5 (k + 2) (upd g 21 (g 21 + 1)) else if n = 0 ∨ ¬ atv lt L (k + 1) = 44 then (k + 1, upd g 21 (g 21 + 1)) else rdF lt L n (k + 2) (upd g 21 (g 21 + 1))
def rd (lt : Nat → Int32) (L : Nat) (g : Nat → Int32) : Nat × (Nat → Int32) := rdF lt L 4 0 (upd (upd (upd g 20 0) 21 0) 22 0)
def mtB (lt : Nat → Int32) : Nat → Nat → (Nat → Nat → Int32) → Nat → Nat → Int32
  | 0, _, F => F
  | n + 1, k, F => mtB lt n (k + 1) (up2 F 3 k (lt (2 * k) - 48))
def mtW (lt : Nat → Int32) (V : Nat) : Nat → Nat → (Nat → Nat → Int32) → Nat → Nat → Int32
  | 0, _, F => F
  | n + 1, k, F => mtW lt V n (k + 1) (up2 (up2 (up2 (up2 (up2 F 4 k (mkb (lt (2 * V + 5 * k)))) 5 k (lt (2 * V + 5 * k + 1) - 48)) 6 k (lt (2 * V + 5 * k + 2) - 48)) 7 k (lt (2 * V + 5 * k + 3) - 48)) 8 k 0)
theorem ev_top {d : Nat} {y cc ret} {pc : Nat} {ls : List (Option Value)} {st : List Value} {w : List Ce} {Q} {a b : Int32} (h : a = b) (H : Ev d y cc ret pc ls (.int a :: st) w Q) : Ev d y cc ret pc ls (.int b :: st) w Q := h ▸ H
theorem nI_addl (a b : Nat) : nI a + nI b = nI (a + b) := nI_add a b

set_option maxHeartbeats 4000000 in
set_option maxRecDepth 100000 in
theorem m_at {d : Nat} {g : Nat → Int32} {G : Nat → Int64} {F : Nat → Nat → Int32} {L : Nat} (hL : g 18 = nI L) (h36 : L ≤ 36) {a : Nat} (h1k : a ≤ 1000) : Ev d yX5_at cX5_at (some .int) 0 [some (.ref 0), some (.int (nI a))] [] (modW g G F) (Is (some (.int (atv (F 19) L a))) (modW g G F)) := by
  refine Ev.iload_1 dX5_at_0 rfl ?_
  refine Ev.aload_0 dX5_at_1 rfl ?_
  refine Ev.getf cf5 18 (by decide) wf_X5_100 dX5_at_2 rfl rfl ?_
  refine Ev.icmp_ge 17 dX5_at_5 (by decide) (fun h5 => ?_) (fun h5 => ?_)
  · have ha : ¬ a < L := fun q => absurd h5 (lp_ge hL q (by omega))
    refine Ev.iconst (v := 0) dX5_at_17 (by decide) ?_
    refine Ev.iret dX5_at_18 ?_
    exact ⟨by simp [atv, *], rfl⟩
  have ha : a < L := by
    by_cases q : a < L
    · exact q
    · exact absurd (lp_le hL (by omega) (by omega)) h5
  refine Ev.aload_0 dX5_at_8 rfl ?_
  refine Ev.getf cf5 19 (by decide) wf_X5_40 dX5_at_9 rfl rfl ?_
  refine Ev.iload_1 dX5_at_12 rfl ?_
  refine Ev.baldn dX5_at_13 rfl (by omega) (by decide) ?_
  refine Ev.goto 18 dX5_at_14 (by decide) ?_
  refine Ev.iret dX5_at_18 ?_
  exact ⟨by simp [atv, *], rfl⟩

set_option maxHeartbeats 4000000 in
set_option maxRecDepth 100000 in
theorem m_isFigure {d : Nat} {g : Nat → Int32} {G : Nat → Int64} {F : Nat → Nat → Int32} {L : Nat} (hL : g 18 = nI L) (h36 : L ≤ 36) {a : Nat} (h1k : a ≤ 1000) (lo hi : Int32) : Ev (d + 1) yX5_isFigure cX5_isFigure (some .boolean) 0 [some (.ref 0), some (.int (nI a)), some (.int lo), some (.int hi)] [] (modW g G F) (Is (some (.int (fig (F 19) L a lo hi))) (modW g G F)) := by
  refine Ev.aload_0 dX5_isFigure_0 rfl ?_
  refine Ev.iload_1 dX5_isFigure_1 rfl ?_
  refine k_X5_at (m_at hL h36 h1k) dX5_isFigure_2 wl_X5_104 rfl (Nat.le_of_ble_eq_true rfl) ?_
  refine Ev.bipush (v := 48) dX5_isFigure_5 (by decide) ?_
  refine Ev.isub dX5_isFigure_7 ?_
  refine Ev.iload_2 dX5_isFigure_8 rfl ?_
  refine Ev.iload_3 dX5_isFigure_9 rfl ?_
  refine k_X5_within (m_within _ _ _) dX5_isFigure_10 wl_X5_96 (Nat.le_of_ble_eq_true rfl) ?_
  refine Ev.zret dX5_isFigure_13 (nar_b wtn_0) ?_
  exact ⟨rfl, rfl⟩

set_option maxHeartbeats 4000000 in
set_option maxRecDepth 100000 in
theorem m_rw_loop {d : Nat} {G : Nat → Int64} {F : Nat → Nat → Int32} {L : Nat} (h36 : L ≤ 36) {a0 : Int32} : ∀ (n k : Nat) (g : Nat → Int32) (R : Nat × (Nat → Int32)), g 18 = nI L → g 22 = nI (5 - n) → n ≤ 5 → k ≤ 100 - 5 * n → rwF (F 19) L n k g = R → Ev (d + 2) yX5_readWeights cX5_readWeights (some .int) 2 [some (.ref 0), some (.int a0), some (.int (nI k))] [] (modW g G F) (Is (some (.int (nI R.1))) (modW R.2 G F)) := by
  intro n
  induction n with
  | zero =>
    intro k g R hL hw hn5 hk hR
    refine Ev.aload_0 dX5_readWeights_2 rfl ?_
    refine Ev.getf cf5 22 (by decide) wf_X5_108 dX5_readWeights_3 rfl rfl ?_
    refine Ev.iconst (v := 5) dX5_readWeights_6 (by decide) ?_
    refine Ev.icmp_ge 134 dX5_readWeights_7 (by decide) (fun h7 => ?_) (fun h7 => ?_)
    · refine Ev.iload_2 dX5_readWeights_134 rfl ?_
      refine Ev.iret dX5_readWeights_135 ?_
      exact ⟨by rw [← hR]; rfl, by rw [← hR]; rfl⟩
    · exact absurd (show (5 : Int32) ≤ g 22 from by rw [hw]; exact lp_le (x := 5) (N := 5) rfl (by omega) (by omega)) h7
  | succ n ih =>
    intro k g R hL hw hn5 hk hR
    refine Ev.aload_0 dX5_readWeights_2 rfl ?_
    refine Ev.getf cf5 22 (by decide) wf_X5_108 dX5_readWeights_3 rfl rfl ?_
    refine Ev.iconst (v := 5) dX5_readWeights_6 (by decide) ?_
    refine Ev.icmp_ge 134 dX5_readWeights_7 (by decide) (fun h7 => ?_) (fun h7 => ?_)
    · exact absurd h7 (by rw [hw]; exact lp_ge (x := 5) (N := 5) rfl (by omega) (by omega))
    refine Ev.aload_0 dX5_readWeights_10 rfl ?_
    refine Ev.iload_2 dX5_readWeights_11 rfl ?_
    refine k_X5_at (m_at hL h36 (by omega)) dX5_readWeights_12 wl_X5_104 rfl (Nat.le_of_ble_eq_true rfl) ?_
    refine k_X5_kindBy (m_kindBy _) dX5_readWeights_15 wl_X5_111 (Nat.le_of_ble_eq_true rfl) ?_
    refine Ev.iconst (v := -1) dX5_readWeights_18 (by decide) ?_
    refine Ev.icmp_ne 24 dX5_readWeights_19 (by decide) (fun h19 => ?_) (fun h19 => ?_)
    · refine Ev.aload_0 dX5_readWeights_24 rfl ?_
      refine Ev.iload_2 dX5_readWeights_25 rfl ?_
      refine Ev.iconst (v := 1) dX5_readWeights_26 (by decide) ?_
      refine Ev.iadd dX5_readWeights_27 ?_
      rw [show nI k + 1 = nI (k + 1) from nI_add k 1]
      refine Ev.iconst (v := 1) dX5_readWeights_28 (by decide) ?_
      refine Ev.bipush (v := 9) dX5_readWeights_29 (by decide) ?_
      refine k_X5_isFigure (m_isFigure hL h36 (by omega) _ _) dX5_readWeights_31 wl_X5_114 rfl (Nat.le_of_ble_eq_true rfl) ?_
      refine Ev.if_ne 41 dX5_readWeights_34 (by decide) (fun h34 => ?_) (fun h34 => ?_)
      · refine Ev.aload_0 dX5_readWeights_41 rfl ?_
        refine Ev.iload_2 dX5_readWeights_42 rfl ?_
        refine Ev.iconst (v := 2) dX5_readWeights_43 (by decide) ?_
        refine Ev.iadd dX5_readWeights_44 ?_
        rw [show nI k + 2 = nI (k + 2) from nI_add k 2]
        refine Ev.iconst (v := 0) dX5_readWeights_45 (by decide) ?_
        refine Ev.aload_0 dX5_readWeights_46 rfl ?_
        refine Ev.getf cf5 21 (by decide) wf_X5_117 dX5_readWeights_47 rfl rfl ?_
        refine Ev.iconst (v := 1) dX5_readWeights_50 (by decide) ?_
        refine Ev.isub dX5_readWeights_51 ?_
        refine k_X5_isFigure (m_isFigure hL h36 (by omega) _ _) dX5_readWeights_52 wl_X5_114 rfl (Nat.le_of_ble_eq_true rfl) ?_
        refine Ev.if_ne 62 dX5_readWeights_55 (by decide) (fun h55 => ?_) (fun h55 => ?_)
        · refine Ev.aload_0 dX5_readWeights_62 rfl ?_
          refine Ev.iload_2 dX5_readWeights_63 rfl ?_
          refine Ev.iconst (v := 3) dX5_readWeights_64 (by decide) ?_
          refine Ev.iadd dX5_readWeights_65 ?_
          rw [show nI k + 3 = nI (k + 3) from nI_add k 3]
          refine Ev.iconst (v := 0) dX5_readWeights_66 (by decide) ?_
          refine Ev.iconst (v := 4) dX5_readWeights_67 (by decide) ?_
          refine k_X5_isFigure (m_isFigure hL h36 (by omega) _ _) dX5_readWeights_68 wl_X5_114 rfl (Nat.le_of_ble_eq_true rfl) ?_
          refine Ev.if_ne 78 dX5_readWeights_71 (by decide) (fun h71 => ?_) (fun h71 => ?_)
          · refine Ev.aload_0 dX5_readWeights_78 rfl ?_
            refine Ev.dup dX5_readWeights_79 rfl ?_
            refine Ev.getf cf5 22 (by decide) wf_X5_108 dX5_readWeights_80 rfl rfl ?_
            refine Ev.iconst (v := 1) dX5_readWeights_83 (by decide) ?_
            refine Ev.iadd dX5_readWeights_84 ?_
            refine pw_modW_0_22 dX5_readWeights_85 wf_X5_108 ?_
            refine Ev.iincI (v := nI (k + 4)) (ls2 := [some (.ref 0), some (.int a0), some (.int (nI (k + 4)))]) dX5_readWeights_88 rfl (nI_add k 4) rfl rfl ?_
            refine Ev.aload_0 dX5_readWeights_91 rfl ?_
            refine Ev.iload_2 dX5_readWeights_92 rfl ?_
            refine Ev.aload_0 dX5_readWeights_93 rfl ?_
            refine Ev.getf cf5 18 (by decide) wf_X5_100 dX5_readWeights_94 rfl rfl ?_
            refine Ev.icmp_ne 104 dX5_readWeights_97 (by decide) (fun h97 => ?_) (fun h97 => ?_)
            · have hw1 : (if k + 4 = L then (1 : Int32) else 0) = 0 := if_neg (fun q => h97 (by rw [show upd g 22 (g 22 + 1) 18 = nI L from hL, q]))
              refine Ev.iconst (v := 0) dX5_readWeights_104 (by decide) ?_
              refine ev_top hw1 ?_
              refine pw_modW_0_20 dX5_readWeights_105 wf_X5_120 (by rw [hw1]; decide) (by rw [hw1]; decide) ?_
              have e22 : g 22 + 1 = nI (5 - n) := by rw [hw, nI_1]; congr 1; omega
              refine Ev.aload_0 dX5_readWeights_108 rfl ?_
              refine Ev.getf cf5 22 (by decide) wf_X5_108 dX5_readWeights_109 rfl rfl ?_
              refine Ev.iconst (v := 5) dX5_readWeights_112 (by decide) ?_
              refine Ev.icmp_eq 126 dX5_readWeights_113 (by decide) (fun h113 => ?_) (fun h113 => ?_)
              · have hn : n = 0 := by
                  have h113 : g 22 + 1 = 5 := h113
                  rw [e22] at h113
                  have := (nI_eq (a := 5 - n) (b := 5) (by omega) (by decide)).mp h113
                  omega
                have e : rwF (F 19) L (n + 1) k g = (k + 4, rw2 L k g) := (if_neg h19).trans ((if_neg h34).trans ((if_neg h55).trans ((if_neg h71).trans (if_pos (Or.inl hn)))))
                refine Ev.iload_2 dX5_readWeights_126 rfl ?_
                refine Ev.iret dX5_readWeights_127 ?_
                exact ⟨by rw [← hR, e], by rw [← hR, e]; try rfl⟩
              have hn : ¬ n = 0 := by
                intro q
                subst q
                exact h113 (by show g 22 + 1 = 5; rw [e22]; rfl)
              refine Ev.aload_0 dX5_readWeights_116 rfl ?_
              refine Ev.iload_2 dX5_readWeights_117 rfl ?_
              refine k_X5_at (m_at (g := rw2 L k g) hL h36 (by omega)) dX5_readWeights_118 wl_X5_104 rfl (Nat.le_of_ble_eq_true rfl) ?_
              refine Ev.bipush (v := 44) dX5_readWeights_121 (by decide) ?_
              refine Ev.icmp_eq 128 dX5_readWeights_123 (by decide) (fun h123 => ?_) (fun h123 => ?_)
              · have e : rwF (F 19) L (n + 1) k g = rwF (F 19) L n (k + 5) (rw2 L k g) := (if_neg h19).trans ((if_neg h34).trans ((if_neg h55).trans ((if_neg h71).trans (if_neg (fun q => q.elim hn (fun z => z h123))))))
                first | refine Ev.incn2 dX5_readWeights_128 rfl ?_ | refine Ev.inc2 dX5_readWeights_128 rfl ?_
                refine Ev.goto 2 dX5_readWeights_131 (by decide) ?_
                exact ih (k + 5) (rw2 L k g) R hL (by show g 22 + 1 = _; rw [e22]) (by omega) (by omega) (by rw [← hR, e])
              have e : rwF (F 19) L (n + 1) k g = (k + 4, rw2 L k g) := (if_neg h19).trans ((if_neg h34).trans ((if_neg h55).trans ((if_neg h71).trans (if_pos (Or.inr h123)))))
              refine Ev.iload_2 dX5_readWeights_126 rfl ?_
              refine Ev.iret dX5_readWeights_127 ?_
              exact ⟨by rw [← hR, e], by rw [← hR, e]; try rfl⟩
            have hw1 : (if k + 4 = L then (1 : Int32) else 0) = 1 := if_pos ((nI_eq (by omega) (by omega)).mp (h97.trans hL))
            refine Ev.iconst (v := 1) dX5_readWeights_100 (by decide) ?_
            refine Ev.goto 105 dX5_readWeights_101 (by decide) ?_
            refine ev_top hw1 ?_
            refine pw_modW_0_20 dX5_readWeights_105 wf_X5_120 (by rw [hw1]; decide) (by rw [hw1]; decide) ?_
            have e22 : g 22 + 1 = nI (5 - n) := by rw [hw, nI_1]; congr 1; omega
            refine Ev.aload_0 dX5_readWeights_108 rfl ?_
            refine Ev.getf cf5 22 (by decide) wf_X5_108 dX5_readWeights_109 rfl rfl ?_
            refine Ev.iconst (v := 5) dX5_readWeights_112 (by decide) ?_
            refine Ev.icmp_eq 126 dX5_readWeights_113 (by decide) (fun h113 => ?_) (fun h113 => ?_)
            · have hn : n = 0 := by
                have h113 : g 22 + 1 = 5 := h113
                rw [e22] at h113
                have := (nI_eq (a := 5 - n) (b := 5) (by omega) (by decide)).mp h113
                omega
              have e : rwF (F 19) L (n + 1) k g = (k + 4, rw2 L k g) := (if_neg h19).trans ((if_neg h34).trans ((if_neg h55).trans ((if_neg h71).trans (if_pos (Or.inl hn)))))
              refine Ev.iload_2 dX5_readWeights_126 rfl ?_
              refine Ev.iret dX5_readWeights_127 ?_
              exact ⟨by rw [← hR, e], by rw [← hR, e]; try rfl⟩
            have hn : ¬ n = 0 := by
              intro q
              subst q
              exact h113 (by show g 22 + 1 = 5; rw [e22]; rfl)
            refine Ev.aload_0 dX5_readWeights_116 rfl ?_
            refine Ev.iload_2 dX5_readWeights_117 rfl ?_
            refine k_X5_at (m_at (g := rw2 L k g) hL h36 (by omega)) dX5_readWeights_118 wl_X5_104 rfl (Nat.le_of_ble_eq_true rfl) ?_
            refine Ev.bipush (v := 44) dX5_readWeights_121 (by decide) ?_
            refine Ev.icmp_eq 128 dX5_readWeights_123 (by decide) (fun h123 => ?_) (fun h123 => ?_)
            · have e : rwF (F 19) L (n + 1) k g = rwF (F 19) L n (k + 5) (rw2 L k g) := (if_neg h19).trans ((if_neg h34).trans ((if_neg h55).trans ((if_neg h71).trans (if_neg (fun q => q.elim hn (fun z => z h123))))))
              first | refine Ev.incn2 dX5_readWeights_128 rfl ?_ | refine Ev.inc2 dX5_readWeights_128 rfl ?_
              refine Ev.goto 2 dX5_readWeights_131 (by decide) ?_
              exact ih (k + 5) (rw2 L k g) R hL (by show g 22 + 1 = _; rw [e22]) (by omega) (by omega) (by rw [← hR, e])
            have e : rwF (F 19) L (n + 1) k g = (k + 4, rw2 L k g) := (if_neg h19).trans ((if_neg h34).trans ((if_neg h55).trans ((if_neg h71).trans (if_pos (Or.inr h123)))))
            refine Ev.iload_2 dX5_readWeights_126 rfl ?_
            refine Ev.iret dX5_readWeights_127 ?_
            exact ⟨by rw [← hR, e], by rw [← hR, e]; try rfl⟩
          have e : rwF (F 19) L (n + 1) k g = (k + 3, g) := (if_neg h19).trans ((if_neg h34).trans ((if_neg h55).trans (if_pos h71)))
          refine Ev.iload_2 dX5_readWeights_74 rfl ?_
          refine Ev.iconst (v := 3) dX5_readWeights_75 (by decide) ?_
          refine Ev.iadd dX5_readWeights_76 ?_
          rw [show nI k + 3 = nI (k + 3) from nI_add k 3]
          refine Ev.iret dX5_readWeights_77 ?_
          exact ⟨by rw [← hR, e], by rw [← hR, e]; try rfl⟩
        have e : rwF (F 19) L (n + 1) k g = (k + 2, g) := (if_neg h19).trans ((if_neg h34).trans (if_pos h55))
        refine Ev.iload_2 dX5_readWeights_58 rfl ?_
        refine Ev.iconst (v := 2) dX5_readWeights_59 (by decide) ?_
        refine Ev.iadd dX5_readWeights_60 ?_
        rw [show nI k + 2 = nI (k + 2) from nI_add k 2]
        refine Ev.iret dX5_readWeights_61 ?_
        exact ⟨by rw [← hR, e], by rw [← hR, e]; try rfl⟩
      have e : rwF (F 19) L (n + 1) k g = (k + 1, g) := (if_neg h19).trans (if_pos h34)
      refine Ev.iload_2 dX5_readWeights_37 rfl ?_
      refine Ev.iconst (v := 1) dX5_readWeights_38 (by decide) ?_
      refine Ev.iadd dX5_readWeights_39 ?_
      rw [show nI k + 1 = nI (k + 1) from nI_add k 1]
      refine Ev.iret dX5_readWeights_40 ?_
      exact ⟨by rw [← hR, e], by rw [← hR, e]; try rfl⟩
    have e : rwF (F 19) L (n + 1) k g = (k, g) := if_pos h19
    refine Ev.iload_2 dX5_readWeights_22 rfl ?_
    refine Ev.iret dX5_readWeights_23 ?_
    exact ⟨by rw [← hR, e], by rw [← hR, e]; try rfl⟩

set_option maxHeartbeats 4000000 in
set_option maxRecDepth 100000 in
theorem m_readWeights {d : Nat} {g : Nat → Int32} {G : Nat → Int64} {F : Nat → Nat → Int32} {L : Nat} (hL : g 18 = nI L) (h36 : L ≤ 36) (h22 : g 22 = 0) {k : Nat} (hk : k ≤ 50) : Ev (d + 2) yX5_readWeights cX5_readWeights (some .int) 0 [some (.ref 0), some (.int (nI k)), none] [] (modW g G F) (Is (some (.int (nI (rwF (F 19) L 5 k g).1))) (modW (rwF (F 19) L 5 k g).2 G F)) := by
  refine Ev.iload_1 dX5_readWeights_0 rfl ?_
  refine Ev.ist2 dX5_readWeights_1 rfl ?_
  exact m_rw_loop h36 5 k g _ hL (by rw [h22]; rfl) (by omega) (by omega) rfl

set_option maxHeartbeats 4000000 in
set_option maxRecDepth 100000 in
theorem m_rd_loop {d : Nat} {G : Nat → Int64} {F : Nat → Nat → Int32} {L : Nat} (h36 : L ≤ 36) : ∀ (n k : Nat) (g : Nat → Int32) (R : Nat × (Nat → Int32)), g 18 = nI L → g 22 = 0 → g 21 = nI (4 - n) → n ≤ 4 → k ≤ 20 - 2 * n → rdF (F 19) L n k g = R → Ev (d + 3) yX5_read cX5_read (some .int) 17 [some (.ref 0), some (.int (nI k))] [] (modW g G F) (Is (some (.int (nI R.1))) (modW R.2 G F)) := by
  intro n
  induction n with
  | zero =>
    intro k g R hL hw hv hn4 hk hR
    refine Ev.aload_0 dX5_read_17 rfl ?_
    refine Ev.getf cf5 21 (by decide) wf_X5_117 dX5_read_18 rfl rfl ?_
    refine Ev.iconst (v := 4) dX5_read_21 (by decide) ?_
    refine Ev.icmp_ge 103 dX5_read_22 (by decide) (fun h22 => ?_) (fun h22 => ?_)
    · refine Ev.iload_1 dX5_read_103 rfl ?_
      refine Ev.iret dX5_read_104 ?_
      exact ⟨by rw [← hR]; rfl, by rw [← hR]; rfl⟩
    · exact absurd (show (4 : Int32) ≤ g 21 from by rw [hv]; exact lp_le (x := 4) (N := 4) rfl (by omega) (by omega)) h22
  | succ n ih =>
    intro k g R hL hw hv hn4 hk hR
    refine Ev.aload_0 dX5_read_17 rfl ?_
    refine Ev.getf cf5 21 (by decide) wf_X5_117 dX5_read_18 rfl rfl ?_
    refine Ev.iconst (v := 4) dX5_read_21 (by decide) ?_
    refine Ev.icmp_ge 103 dX5_read_22 (by decide) (fun h22 => ?_) (fun h22 => ?_)
    · exact absurd h22 (by rw [hv]; exact lp_ge (x := 4) (N := 4) rfl (by omega) (by omega))
    refine Ev.aload_0 dX5_read_25 rfl ?_
    refine Ev.iload_1 dX5_read_26 rfl ?_
    refine Ev.iconst (v := 0) dX5_read_27 (by decide) ?_
    refine Ev.bipush (v := 9) dX5_read_28 (by decide) ?_
    refine k_X5_isFigure (m_isFigure hL h36 (by omega) _ _) dX5_read_30 wl_X5_114 rfl (Nat.le_of_ble_eq_true rfl) ?_
    refine Ev.if_ne 38 dX5_read_33 (by decide) (fun h33 => ?_) (fun h33 => ?_)
    · refine Ev.aload_0 dX5_read_38 rfl ?_
      refine Ev.dup dX5_read_39 rfl ?_
      refine Ev.getf cf5 21 (by decide) wf_X5_117 dX5_read_40 rfl rfl ?_
      refine Ev.iconst (v := 1) dX5_read_43 (by decide) ?_
      refine Ev.iadd dX5_read_44 ?_
      refine pw_modW_0_21 dX5_read_45 wf_X5_117 ?_
      first | refine Ev.incn1 dX5_read_48 rfl ?_ | refine Ev.inc1 dX5_read_48 rfl ?_
      have e21 : g 21 + 1 = nI (4 - n) := by rw [hv, nI_1]; congr 1; omega
      refine Ev.aload_0 dX5_read_51 rfl ?_
      refine Ev.iload_1 dX5_read_52 rfl ?_
      refine k_X5_at (m_at (g := upd g 21 (g 21 + 1)) hL h36 (by omega)) dX5_read_53 wl_X5_104 rfl (Nat.le_of_ble_eq_true rfl) ?_
      refine Ev.bipush (v := 59) dX5_read_56 (by decide) ?_
      refine Ev.icmp_ne 77 dX5_read_58 (by decide) (fun h58 => ?_) (fun h58 => ?_)
      · have hc : ¬ (atv (F 19) L (k + 1) = 59 ∧ ¬ g 21 + 1 ≤ 1) := fun q => h58 q.1
        refine Ev.aload_0 dX5_read_77 rfl ?_
        refine Ev.getf cf5 21 (by decide) wf_X5_117 dX5_read_78 rfl rfl ?_
        refine Ev.iconst (v := 4) dX5_read_81 (by decide) ?_
        refine Ev.icmp_eq 95 dX5_read_82 (by decide) (fun h82 => ?_) (fun h82 => ?_)
        · have hn : n = 0 := by
            have h82 : g 21 + 1 = 4 := h82
            rw [e21] at h82
            have := (nI_eq (a := 4 - n) (b := 4) (by omega) (by decide)).mp h82
            omega
          have e : rdF (F 19) L (n + 1) k g = (k + 1, upd g 21 (g 21 + 1)) := (if_neg h33).trans ((if_neg hc).trans (if_pos (Or.inl hn)))
          refine Ev.iload_1 dX5_read_95 rfl ?_
          refine Ev.iret dX5_read_96 ?_
          exact ⟨by rw [← hR, e], by rw [← hR, e]⟩
        have hn : ¬ n = 0 := by
          intro q
          subst q
          exact h82 (by show g 21 + 1 = 4; rw [e21]; rfl)
        refine Ev.aload_0 dX5_read_85 rfl ?_
        refine Ev.iload_1 dX5_read_86 rfl ?_
        refine k_X5_at (m_at (g := upd g 21 (g 21 + 1)) hL h36 (by omega)) dX5_read_87 wl_X5_104 rfl (Nat.le_of_ble_eq_true rfl) ?_
        refine Ev.bipush (v := 44) dX5_read_90 (by decide) ?_
        refine Ev.icmp_eq 97 dX5_read_92 (by decide) (fun h92 => ?_) (fun h92 => ?_)
        · have e : rdF (F 19) L (n + 1) k g = rdF (F 19) L n (k + 2) (upd g 21 (g 21 + 1)) := (if_neg h33).trans ((if_neg hc).trans (if_neg (fun q => q.elim hn (fun z => z h92))))
          first | refine Ev.incn1 dX5_read_97 rfl ?_ | refine Ev.inc1 dX5_read_97 rfl ?_
          refine Ev.goto 17 dX5_read_100 (by decide) ?_
          exact ih (k + 2) (upd g 21 (g 21 + 1)) R hL hw (by show g 21 + 1 = _; rw [e21]) (by omega) (by omega) (by rw [← hR, e])
        have e : rdF (F 19) L (n + 1) k g = (k + 1, upd g 21 (g 21 + 1)) := (if_neg h33).trans ((if_neg hc).trans (if_pos (Or.inr h92)))
        refine Ev.iload_1 dX5_read_95 rfl ?_
        refine Ev.iret dX5_read_96 ?_
        exact ⟨by rw [← hR, e], by rw [← hR, e]⟩
      refine Ev.aload_0 dX5_read_61 rfl ?_
      refine Ev.getf cf5 21 (by decide) wf_X5_117 dX5_read_62 rfl rfl ?_
      refine Ev.iconst (v := 1) dX5_read_65 (by decide) ?_
      refine Ev.icmp_le 77 dX5_read_66 (by decide) (fun h66 => ?_) (fun h66 => ?_)
      · have hc : ¬ (atv (F 19) L (k + 1) = 59 ∧ ¬ g 21 + 1 ≤ 1) := fun q => q.2 h66
        refine Ev.aload_0 dX5_read_77 rfl ?_
        refine Ev.getf cf5 21 (by decide) wf_X5_117 dX5_read_78 rfl rfl ?_
        refine Ev.iconst (v := 4) dX5_read_81 (by decide) ?_
        refine Ev.icmp_eq 95 dX5_read_82 (by decide) (fun h82 => ?_) (fun h82 => ?_)
        · have hn : n = 0 := by
            have h82 : g 21 + 1 = 4 := h82
            rw [e21] at h82
            have := (nI_eq (a := 4 - n) (b := 4) (by omega) (by decide)).mp h82
            omega
          have e : rdF (F 19) L (n + 1) k g = (k + 1, upd g 21 (g 21 + 1)) := (if_neg h33).trans ((if_neg hc).trans (if_pos (Or.inl hn)))
          refine Ev.iload_1 dX5_read_95 rfl ?_
          refine Ev.iret dX5_read_96 ?_
          exact ⟨by rw [← hR, e], by rw [← hR, e]⟩
        have hn : ¬ n = 0 := by
          intro q
          subst q
          exact h82 (by show g 21 + 1 = 4; rw [e21]; rfl)
        refine Ev.aload_0 dX5_read_85 rfl ?_
        refine Ev.iload_1 dX5_read_86 rfl ?_
        refine k_X5_at (m_at (g := upd g 21 (g 21 + 1)) hL h36 (by omega)) dX5_read_87 wl_X5_104 rfl (Nat.le_of_ble_eq_true rfl) ?_
        refine Ev.bipush (v := 44) dX5_read_90 (by decide) ?_
        refine Ev.icmp_eq 97 dX5_read_92 (by decide) (fun h92 => ?_) (fun h92 => ?_)
        · have e : rdF (F 19) L (n + 1) k g = rdF (F 19) L n (k + 2) (upd g 21 (g 21 + 1)) := (if_neg h33).trans ((if_neg hc).trans (if_neg (fun q => q.elim hn (fun z => z h92))))
          first | refine Ev.incn1 dX5_read_97 rfl ?_ | refine Ev.inc1 dX5_read_97 rfl ?_
          refine Ev.goto 17 dX5_read_100 (by decide) ?_
          exact ih (k + 2) (upd g 21 (g 21 + 1)) R hL hw (by show g 21 + 1 = _; rw [e21]) (by omega) (by omega) (by rw [← hR, e])
        have e : rdF (F 19) L (n + 1) k g = (k + 1, upd g 21 (g 21 + 1)) := (if_neg h33).trans ((if_neg hc).trans (if_pos (Or.inr h92)))
        refine Ev.iload_1 dX5_read_95 rfl ?_
        refine Ev.iret dX5_read_96 ?_
        exact ⟨by rw [← hR, e], by rw [← hR, e]⟩
      refine Ev.aload_0 dX5_read_69 rfl ?_
      refine Ev.iload_1 dX5_read_70 rfl ?_
      refine Ev.iconst (v := 1) dX5_read_71 (by decide) ?_
      refine Ev.iadd dX5_read_72 ?_
      rw [show nI (k + 1) + 1 = nI (k + 2) from nI_1 (k + 1)]
      have e : rdF (F 19) L (n + 1) k g = rwF (F 19) L 5 (k + 2) (upd g 21 (g 21 + 1)) := (if_neg h33).trans (if_pos ⟨h58, h66⟩)
      refine k_X5_readWeights (m_readWeights (g := upd g 21 (g 21 + 1)) hL h36 hw (by omega)) dX5_read_73 wl_X5_124 rfl (Nat.le_of_ble_eq_true rfl) ?_
      refine Ev.iret dX5_read_76 ?_
      exact ⟨by rw [← hR, e], by rw [← hR, e]⟩
    have e : rdF (F 19) L (n + 1) k g = (k, g) := if_pos h33
    refine Ev.iload_1 dX5_read_36 rfl ?_
    refine Ev.iret dX5_read_37 ?_
    exact ⟨by rw [← hR, e], by rw [← hR, e]⟩

set_option maxHeartbeats 4000000 in
set_option maxRecDepth 100000 in
theorem m_read {d : Nat} {g : Nat → Int32} {G : Nat → Int64} {F : Nat → Nat → Int32} {L : Nat} (hL : g 18 = nI L) (h36 : L ≤ 36)  : Ev (d + 3) yX5_read cX5_read (some .int) 0 [some (.ref 0), none] [] (modW g G F) (Is (some (.int (nI (rd (F 19) L g).1))) (modW (rd (F 19) L g).2 G F)) := by
  refine Ev.aload_0 dX5_read_0 rfl ?_
  refine Ev.iconst (v := 0) dX5_read_1 (by decide) ?_
  refine pw_modW_0_20 dX5_read_2 wf_X5_120 (by decide) (by decide) ?_
  refine Ev.aload_0 dX5_read_5 rfl ?_
  refine Ev.iconst (v := 0) dX5_read_6 (by decide) ?_
  refine pw_modW_0_21 dX5_read_7 wf_X5_117 ?_
  refine Ev.aload_0 dX5_read_10 rfl ?_
  refine Ev.iconst (v := 0) dX5_read_11 (by decide) ?_
  refine pw_modW_0_22 dX5_read_12 wf_X5_108 ?_
  refine Ev.iconst (v := 0) dX5_read_15 (by decide) ?_
  refine Ev.ist1 dX5_read_16 rfl ?_
  exact m_rd_loop h36 4 0 _ (rd (F 19) L g) hL rfl rfl (by omega) (by omega) rfl

set_option maxHeartbeats 4000000 in
set_option maxRecDepth 100000 in
theorem m_fault {d : Nat} {g : Nat → Int32} {G : Nat → Int64} {F : Nat → Nat → Int32} {L : Nat} (hL : g 18 = nI L) (h36 : L ≤ 36)  : Ev (d + 4) yX5_fault cX5_fault (some .int) 0 [some (.ref 0)] [] (modW g G F) (Is (some (.int (nI (rd (F 19) L g).1))) (modW (rd (F 19) L g).2 G F)) := by
  refine Ev.aload_0 dX5_fault_0 rfl ?_
  refine k_X5_read (m_read hL h36) dX5_fault_1 wl_X5_127 rfl (Nat.le_of_ble_eq_true rfl) ?_
  refine Ev.iret dX5_fault_4 ?_
  exact ⟨rfl, rfl⟩

set_option maxHeartbeats 4000000 in
set_option maxRecDepth 100000 in
theorem m_table_s {d : Nat} {g : Nat → Int32} {G : Nat → Int64} {F : Nat → Nat → Int32} {L : Nat} (hL : g 18 = nI L) (h36 : L ≤ 36) (hs : (rd (F 19) L g).2 20 = 0) : Ev (d + 4) yX5_table cX5_table (some .int) 0 [some (.ref 0), none, none] [] (modW g G F) (Is (some (.int (-103))) (modW (rd (F 19) L g).2 G F)) := by
  refine Ev.aload_0 dX5_table_0 rfl ?_
  refine k_X5_read (m_read hL h36) dX5_table_1 wl_X5_127 rfl (Nat.le_of_ble_eq_true rfl) ?_
  refine Ev.pop dX5_table_4 rfl ?_
  refine Ev.aload_0 dX5_table_5 rfl ?_
  refine Ev.getf cf5 20 (by decide) wf_X5_120 dX5_table_6 rfl rfl ?_
  refine Ev.if_ne 15 dX5_table_9 (by decide) (fun h9 => ?_) (fun h9 => ?_)
  · exact absurd hs h9
  refine Ev.bipush (v := -103) dX5_table_12 (by decide) ?_
  refine Ev.iret dX5_table_14 ?_
  exact ⟨rfl, rfl⟩

set_option maxHeartbeats 4000000 in
set_option maxRecDepth 100000 in
theorem m_tb_1 {d : Nat} {g : Nat → Int32} {G : Nat → Int64} {lt : Nat → Int32} {V : Nat} (hV : g 1 = nI V) (h4 : V ≤ 4) {x : Option Value} {Q : Option Value → List Ce → Prop}  : ∀ (n : Nat) (k : Nat) (F R : Nat → Nat → Int32), F 19 = lt → k + n = V → mtB lt n k F = R → Ev (d + 4) yX5_table cX5_table (some .int) 64 [some (.ref 0), some (.int (nI V)), x] [] (modW g G R) Q → Ev (d + 4) yX5_table cX5_table (some .int) 33 [some (.ref 0), some (.int (nI k)), x] [] (modW g G F) Q := by
  intro n
  induction n with
  | zero =>
    intro k F R hF hk hR K
    have hk : k = V := by omega
    subst hk
    have hR : F = R := hR
    subst hR
    refine Ev.iload_1 dX5_table_33 rfl ?_
    refine Ev.aload_0 dX5_table_34 rfl ?_
    refine Ev.getf cf5 1 (by decide) wf_X5_131 dX5_table_35 rfl rfl ?_
    refine Ev.icmp_ge 64 dX5_table_38 (by decide) (fun h38 => ?_) (fun h38 => ?_)
    · exact K
    · exact absurd (lp_le hV (by omega) (by omega)) h38
  | succ n ih =>
    intro k F R hF hk hR K
    refine Ev.iload_1 dX5_table_33 rfl ?_
    refine Ev.aload_0 dX5_table_34 rfl ?_
    refine Ev.getf cf5 1 (by decide) wf_X5_131 dX5_table_35 rfl rfl ?_
    refine Ev.icmp_ge 64 dX5_table_38 (by decide) (fun h38 => ?_) (fun h38 => ?_)
    · exact absurd h38 (lp_ge hV (by omega) (by omega))
    refine Ev.aload_0 dX5_table_41 rfl ?_
    refine Ev.getf cf5 3 (by decide) wf_X5_7 dX5_table_42 rfl rfl ?_
    refine Ev.iload_1 dX5_table_45 rfl ?_
    refine Ev.aload_0 dX5_table_46 rfl ?_
    refine Ev.getf cf5 19 (by decide) wf_X5_40 dX5_table_47 rfl rfl ?_
    refine Ev.iconst (v := 2) dX5_table_50 (by decide) ?_
    refine Ev.iload_1 dX5_table_51 rfl ?_
    refine Ev.imul dX5_table_52 ?_
    rw [show (2 : Int32) * nI k = nI (2 * k) from pk_mul 2 k]
    refine Ev.baldn dX5_table_53 rfl (by omega) (by decide) ?_
    refine Ev.bipush (v := 48) dX5_table_54 (by decide) ?_
    refine Ev.isub dX5_table_56 ?_
    refine aw_modW_1 dX5_table_57 (by omega) ?_
    first | refine Ev.incn1 dX5_table_58 rfl ?_ | refine Ev.inc1 dX5_table_58 rfl ?_
    refine Ev.goto 33 dX5_table_61 (by decide) ?_
    exact ih (k + 1) _ R (by rw [← hF]; simp [up2]) (by omega) (by rw [← hR, mtB, ← hF]) K

set_option maxHeartbeats 4000000 in
set_option maxRecDepth 100000 in
theorem m_tb_2 {d : Nat} {g : Nat → Int32} {G : Nat → Int64} {lt : Nat → Int32} {V N : Nat} (h4 : V ≤ 4) (hN : g 2 = nI N) (h5 : N ≤ 5) {Q : Option Value → List Ce → Prop}  : ∀ (n : Nat) (k : Nat) (F R : Nat → Nat → Int32), F 19 = lt → k + n = N → mtW lt V n k F = R → Ev (d + 4) yX5_table cX5_table (some .int) 176 [some (.ref 0), some (.int (nI (2 * V))), some (.int (nI N))] [] (modW g G R) Q → Ev (d + 4) yX5_table cX5_table (some .int) 73 [some (.ref 0), some (.int (nI (2 * V))), some (.int (nI k))] [] (modW g G F) Q := by
  intro n
  induction n with
  | zero =>
    intro k F R hF hk hR K
    have hk : k = N := by omega
    subst hk
    have hR : F = R := hR
    subst hR
    refine Ev.iload_2 dX5_table_73 rfl ?_
    refine Ev.aload_0 dX5_table_74 rfl ?_
    refine Ev.getf cf5 2 (by decide) wf_X5_134 dX5_table_75 rfl rfl ?_
    refine Ev.icmp_ge 176 dX5_table_78 (by decide) (fun h78 => ?_) (fun h78 => ?_)
    · exact K
    · exact absurd (lp_le hN (by omega) (by omega)) h78
  | succ n ih =>
    intro k F R hF hk hR K
    refine Ev.iload_2 dX5_table_73 rfl ?_
    refine Ev.aload_0 dX5_table_74 rfl ?_
    refine Ev.getf cf5 2 (by decide) wf_X5_134 dX5_table_75 rfl rfl ?_
    refine Ev.icmp_ge 176 dX5_table_78 (by decide) (fun h78 => ?_) (fun h78 => ?_)
    · exact absurd h78 (lp_ge hN (by omega) (by omega))
    refine Ev.aload_0 dX5_table_81 rfl ?_
    refine Ev.getf cf5 4 (by decide) wf_X5_13 dX5_table_82 rfl rfl ?_
    refine Ev.iload_2 dX5_table_85 rfl ?_
    refine Ev.aload_0 dX5_table_86 rfl ?_
    refine Ev.getf cf5 19 (by decide) wf_X5_40 dX5_table_87 rfl rfl ?_
    refine Ev.iload_1 dX5_table_90 rfl ?_
    refine Ev.iconst (v := 5) dX5_table_91 (by decide) ?_
    refine Ev.iload_2 dX5_table_92 rfl ?_
    refine Ev.imul dX5_table_93 ?_
    refine Ev.iadd dX5_table_94 ?_
    rw [show (5 : Int32) * nI k = nI (5 * k) from pk_mul 5 k, nI_add]
    refine Ev.baldn dX5_table_95 rfl (by omega) (by decide) ?_
    refine k_X5_kindBy (m_kindBy _) dX5_table_96 wl_X5_111 (Nat.le_of_ble_eq_true rfl) ?_
    refine aw_modW_2 dX5_table_99 (by omega) ?_
    refine Ev.aload_0 dX5_table_100 rfl ?_
    refine Ev.getf cf5 5 (by decide) wf_X5_16 dX5_table_101 rfl rfl ?_
    refine Ev.iload_2 dX5_table_104 rfl ?_
    refine Ev.aload_0 dX5_table_105 rfl ?_
    refine Ev.getf cf5 19 (by decide) wf_X5_40 dX5_table_106 rfl rfl ?_
    refine Ev.iload_1 dX5_table_109 rfl ?_
    refine Ev.iconst (v := 5) dX5_table_110 (by decide) ?_
    refine Ev.iload_2 dX5_table_111 rfl ?_
    refine Ev.imul dX5_table_112 ?_
    refine Ev.iadd dX5_table_113 ?_
    refine Ev.iconst (v := 1) dX5_table_114 (by decide) ?_
    refine Ev.iadd dX5_table_115 ?_
    rw [show (5 : Int32) * nI k = nI (5 * k) from pk_mul 5 k, nI_add, show nI (2 * V + 5 * k) + 1 = nI (2 * V + 5 * k + 1) from nI_add _ 1]
    refine Ev.baldn dX5_table_116 rfl (by omega) (by decide) ?_
    refine Ev.bipush (v := 48) dX5_table_117 (by decide) ?_
    refine Ev.isub dX5_table_119 ?_
    refine aw_modW_3 dX5_table_120 (by omega) ?_
    refine Ev.aload_0 dX5_table_121 rfl ?_
    refine Ev.getf cf5 6 (by decide) wf_X5_19 dX5_table_122 rfl rfl ?_
    refine Ev.iload_2 dX5_table_125 rfl ?_
    refine Ev.aload_0 dX5_table_126 rfl ?_
    refine Ev.getf cf5 19 (by decide) wf_X5_40 dX5_table_127 rfl rfl ?_
    refine Ev.iload_1 dX5_table_130 rfl ?_
    refine Ev.iconst (v := 5) dX5_table_131 (by decide) ?_
    refine Ev.iload_2 dX5_table_132 rfl ?_
    refine Ev.imul dX5_table_133 ?_
    refine Ev.iadd dX5_table_134 ?_
    refine Ev.iconst (v := 2) dX5_table_135 (by decide) ?_
    refine Ev.iadd dX5_table_136 ?_
    rw [show (5 : Int32) * nI k = nI (5 * k) from pk_mul 5 k, nI_add, show nI (2 * V + 5 * k) + 2 = nI (2 * V + 5 * k + 2) from nI_add _ 2]
    refine Ev.baldn dX5_table_137 rfl (by omega) (by decide) ?_
    refine Ev.bipush (v := 48) dX5_table_138 (by decide) ?_
    refine Ev.isub dX5_table_140 ?_
    refine aw_modW_4 dX5_table_141 (by omega) ?_
    refine Ev.aload_0 dX5_table_142 rfl ?_
    refine Ev.getf cf5 7 (by decide) wf_X5_22 dX5_table_143 rfl rfl ?_
    refine Ev.iload_2 dX5_table_146 rfl ?_
    refine Ev.aload_0 dX5_table_147 rfl ?_
    refine Ev.getf cf5 19 (by decide) wf_X5_40 dX5_table_148 rfl rfl ?_
    refine Ev.iload_1 dX5_table_151 rfl ?_
    refine Ev.iconst (v := 5) dX5_table_152 (by decide) ?_
    refine Ev.iload_2 dX5_table_153 rfl ?_
    refine Ev.imul dX5_table_154 ?_
    refine Ev.iadd dX5_table_155 ?_
    refine Ev.iconst (v := 3) dX5_table_156 (by decide) ?_
    refine Ev.iadd dX5_table_157 ?_
    rw [show (5 : Int32) * nI k = nI (5 * k) from pk_mul 5 k, nI_add, show nI (2 * V + 5 * k) + 3 = nI (2 * V + 5 * k + 3) from nI_add _ 3]
    refine Ev.baldn dX5_table_158 rfl (by omega) (by decide) ?_
    refine Ev.bipush (v := 48) dX5_table_159 (by decide) ?_
    refine Ev.isub dX5_table_161 ?_
    refine aw_modW_5 dX5_table_162 (by omega) ?_
    refine Ev.aload_0 dX5_table_163 rfl ?_
    refine Ev.getf cf5 8 (by decide) wf_X5_25 dX5_table_164 rfl rfl ?_
    refine Ev.iload_2 dX5_table_167 rfl ?_
    refine Ev.iconst (v := 0) dX5_table_168 (by decide) ?_
    refine aw_modW_6 dX5_table_169 (by omega) ?_
    first | refine Ev.incn2 dX5_table_170 rfl ?_ | refine Ev.inc2 dX5_table_170 rfl ?_
    refine Ev.goto 73 dX5_table_173 (by decide) ?_
    exact ih (k + 1) _ R (by rw [← hF]; simp [up2]) (by omega) (by rw [← hR, mtW, ← hF]; rfl) K

theorem mtB_19 {lt : Nat → Int32} : ∀ (n k : Nat) (F : Nat → Nat → Int32), mtB lt n k F 19 = F 19
  | 0, _, _ => rfl
  | n + 1, k, F => by rw [mtB, mtB_19 n]; simp [up2]

set_option maxHeartbeats 4000000 in
set_option maxRecDepth 100000 in
theorem m_table_k {d : Nat} {g : Nat → Int32} {G : Nat → Int64} {F : Nat → Nat → Int32} {L : Nat} (hL : g 18 = nI L) (h36 : L ≤ 36) (hs : ¬ (rd (F 19) L g).2 20 = 0) {V N : Nat} (hV : (rd (F 19) L g).2 21 = nI V) (h4 : V ≤ 4) (hN : (rd (F 19) L g).2 22 = nI N) (h5 : N ≤ 5) {g0 : Int32} (hg0 : (rd (F 19) L g).2 0 = g0) : Ev (d + 4) yX5_table cX5_table (some .int) 0 [some (.ref 0), none, none] [] (modW g G F) (Is (some (.int (nI V))) (modW (upd (upd (upd (upd (upd (upd (upd (upd (rd (F 19) L g).2 1 (nI V)) 2 (nI N)) 9 0) 10 0) 11 0) 0 (g0 + 1)) 13 0) 18 0) G (mtW (F 19) V N 0 (mtB (F 19) V 0 F)))) := by
  refine Ev.aload_0 dX5_table_0 rfl ?_
  refine k_X5_read (m_read hL h36) dX5_table_1 wl_X5_127 rfl (Nat.le_of_ble_eq_true rfl) ?_
  refine Ev.pop dX5_table_4 rfl ?_
  refine Ev.aload_0 dX5_table_5 rfl ?_
  refine Ev.getf cf5 20 (by decide) wf_X5_120 dX5_table_6 rfl rfl ?_
  refine Ev.if_ne 15 dX5_table_9 (by decide) (fun h9 => ?_) (fun h9 => ?_)
  · refine Ev.aload_0 dX5_table_15 rfl ?_
    refine Ev.aload_0 dX5_table_16 rfl ?_
    refine Ev.getf cf5 21 (by decide) wf_X5_117 dX5_table_17 rfl rfl ?_
    rw [hV]
    refine pw_modW_0_1 dX5_table_20 wf_X5_131 ?_
    refine Ev.aload_0 dX5_table_23 rfl ?_
    refine Ev.aload_0 dX5_table_24 rfl ?_
    refine Ev.getf cf5 22 (by decide) wf_X5_108 dX5_table_25 rfl rfl ?_
    rw [show upd (rd (F 19) L g).2 1 (nI V) 22 = nI N from hN]
    refine pw_modW_0_2 dX5_table_28 wf_X5_134 ?_
    refine Ev.iconst (v := 0) dX5_table_31 (by decide) ?_
    refine Ev.ist1 dX5_table_32 rfl ?_
    refine m_tb_1 (V := V) rfl h4 V 0 F _ rfl (by omega) rfl ?_
    refine Ev.iconst (v := 2) dX5_table_64 (by decide) ?_
    refine Ev.aload_0 dX5_table_65 rfl ?_
    refine Ev.getf cf5 1 (by decide) wf_X5_131 dX5_table_66 rfl rfl ?_
    refine Ev.imul dX5_table_69 ?_
    rw [show upd (upd (rd (F 19) L g).2 1 (nI V)) 2 (nI N) 1 = nI V from rfl, show (2 : Int32) * nI V = nI (2 * V) from pk_mul 2 V]
    refine Ev.ist1 dX5_table_70 rfl ?_
    refine Ev.iconst (v := 0) dX5_table_71 (by decide) ?_
    refine Ev.ist2 dX5_table_72 rfl ?_
    refine m_tb_2 (lt := F 19) h4 (N := N) rfl h5 N 0 _ _ (mtB_19 V 0 F) (by omega) rfl ?_
    refine Ev.aload_0 dX5_table_176 rfl ?_
    refine Ev.iconst (v := 0) dX5_table_177 (by decide) ?_
    refine pw_modW_0_9 dX5_table_178 wf_X5_137 ?_
    refine Ev.aload_0 dX5_table_181 rfl ?_
    refine Ev.iconst (v := 0) dX5_table_182 (by decide) ?_
    refine pw_modW_0_10 dX5_table_183 wf_X5_140 ?_
    refine Ev.aload_0 dX5_table_186 rfl ?_
    refine Ev.iconst (v := 0) dX5_table_187 (by decide) ?_
    refine pw_modW_0_11 dX5_table_188 wf_X5_143 ?_
    refine Ev.aload_0 dX5_table_191 rfl ?_
    refine Ev.dup dX5_table_192 rfl ?_
    refine Ev.getf cf5 0 (by decide) wf_X5_146 dX5_table_193 rfl rfl ?_
    refine Ev.iconst (v := 1) dX5_table_196 (by decide) ?_
    refine Ev.iadd dX5_table_197 ?_
    rw [show upd (upd (upd (upd (upd (rd (F 19) L g).2 1 (nI V)) 2 (nI N)) 9 0) 10 0) 11 0 0 = g0 from hg0]
    refine pw_modW_0_0 dX5_table_198 wf_X5_146 ?_
    refine Ev.aload_0 dX5_table_201 rfl ?_
    refine Ev.iconst (v := 0) dX5_table_202 (by decide) ?_
    refine pw_modW_0_13 dX5_table_203 wf_X5_149 ?_
    refine Ev.aload_0 dX5_table_206 rfl ?_
    refine Ev.iconst (v := 0) dX5_table_207 (by decide) ?_
    refine pw_modW_0_18 dX5_table_208 wf_X5_100 ?_
    refine Ev.aload_0 dX5_table_211 rfl ?_
    refine Ev.getf cf5 1 (by decide) wf_X5_131 dX5_table_212 rfl rfl ?_
    refine Ev.iret dX5_table_215 ?_
    exact ⟨rfl, rfl⟩
  · exact absurd h9 hs
