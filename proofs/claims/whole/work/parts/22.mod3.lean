theorem nar_byte {n : Nat} (h : n < 128) : vp_nar .byte (nI n) = nI n := by rw [vp_nar_byte, i2b_small h]

set_option maxHeartbeats 4000000 in
set_option maxRecDepth 100000 in
theorem m_letter_o {d : Nat} {g : Nat → Int32} {G : Nat → Int64} {F : Nat → Nat → Int32} {x : Int32} (hx : x < 32 ∨ 126 < x) : Ev (d + 1) yX5_letter cX5_letter (some .int) 0 [some (.ref 0), some (.int x)] [] (modW g G F) (Is (some (.int (-102))) (modW g G F)) := by
  refine Ev.iload_1 dX5_letter_0 rfl ?_
  refine Ev.bipush (v := 32) dX5_letter_1 (by decide) ?_
  refine Ev.bipush (v := 126) dX5_letter_3 (by decide) ?_
  refine k_X5_within (m_within _ _ _) dX5_letter_5 wl_X5_96 (Nat.le_of_ble_eq_true rfl) ?_
  rw [wtn_is0 hx]
  refine Ev.if_ne 14 dX5_letter_8 (by decide) (fun hcst => ?_) (fun hcst => ?_)
  · exact absurd hcst (by decide)
  refine Ev.bipush (v := -102) dX5_letter_11 (by decide) ?_
  refine Ev.iret dX5_letter_13 ?_
  exact ⟨rfl, rfl⟩

set_option maxHeartbeats 4000000 in
set_option maxRecDepth 100000 in
theorem m_letter_f {d : Nat} {g : Nat → Int32} {G : Nat → Int64} {F : Nat → Nat → Int32} {n : Nat} (hn : 32 ≤ n) (hn2 : n ≤ 126) (hL : g 18 = nI 36) : Ev (d + 1) yX5_letter cX5_letter (some .int) 0 [some (.ref 0), some (.int (nI n))] [] (modW g G F) (Is (some (.int (-104))) (modW g G F)) := by
  refine Ev.iload_1 dX5_letter_0 rfl ?_
  refine Ev.bipush (v := 32) dX5_letter_1 (by decide) ?_
  refine Ev.bipush (v := 126) dX5_letter_3 (by decide) ?_
  refine k_X5_within (m_within _ _ _) dX5_letter_5 wl_X5_96 (Nat.le_of_ble_eq_true rfl) ?_
  rw [show wtn (nI n) 32 126 = 1 from wtn_is1 (lp_gt (x := nI n) (N := n) rfl (k := 32) hn (by omega)) (lp_gt (x := 126) (N := 126) rfl hn2 (by omega))]
  refine Ev.if_ne 14 dX5_letter_8 (by decide) (fun hcst => ?_) (fun hcst => ?_)
  rotate_left
  · exact absurd hcst (by decide)
  refine Ev.aload_0 dX5_letter_14 rfl ?_
  refine Ev.getf cf5 18 (by decide) wf_X5_100 dX5_letter_15 rfl rfl ?_
  refine Ev.bipush (v := 36) dX5_letter_18 (by decide) ?_
  refine Ev.icmp_ne 26 dX5_letter_20 (by decide) (fun h20 => ?_) (fun h20 => ?_)
  · exact absurd hL h20
  refine Ev.bipush (v := -104) dX5_letter_23 (by decide) ?_
  refine Ev.iret dX5_letter_25 ?_
  exact ⟨rfl, rfl⟩

set_option maxHeartbeats 4000000 in
set_option maxRecDepth 100000 in
theorem m_letter_k {d : Nat} {g : Nat → Int32} {G : Nat → Int64} {F : Nat → Nat → Int32} {n : Nat} (hn : 32 ≤ n) (hn2 : n ≤ 126) {L : Nat} (hL : g 18 = nI L) (h36 : L < 36) : Ev (d + 1) yX5_letter cX5_letter (some .int) 0 [some (.ref 0), some (.int (nI n))] [] (modW g G F) (Is (some (.int (nI (L + 1)))) (modW (upd g 18 (nI (L + 1))) G (up2 F 19 L (nI n)))) := by
  refine Ev.iload_1 dX5_letter_0 rfl ?_
  refine Ev.bipush (v := 32) dX5_letter_1 (by decide) ?_
  refine Ev.bipush (v := 126) dX5_letter_3 (by decide) ?_
  refine k_X5_within (m_within _ _ _) dX5_letter_5 wl_X5_96 (Nat.le_of_ble_eq_true rfl) ?_
  rw [show wtn (nI n) 32 126 = 1 from wtn_is1 (lp_gt (x := nI n) (N := n) rfl (k := 32) hn (by omega)) (lp_gt (x := 126) (N := 126) rfl hn2 (by omega))]
  refine Ev.if_ne 14 dX5_letter_8 (by decide) (fun hcst => ?_) (fun hcst => ?_)
  rotate_left
  · exact absurd hcst (by decide)
  refine Ev.aload_0 dX5_letter_14 rfl ?_
  refine Ev.getf cf5 18 (by decide) wf_X5_100 dX5_letter_15 rfl rfl ?_
  refine Ev.bipush (v := 36) dX5_letter_18 (by decide) ?_
  refine Ev.icmp_ne 26 dX5_letter_20 (by decide) (fun h20 => ?_) (fun h20 => ?_)
  · refine Ev.aload_0 dX5_letter_26 rfl ?_
    refine Ev.getf cf5 19 (by decide) wf_X5_40 dX5_letter_27 rfl rfl ?_
    refine Ev.aload_0 dX5_letter_30 rfl ?_
    refine Ev.getf cf5 18 (by decide) wf_X5_100 dX5_letter_31 rfl rfl ?_
    rw [hL]
    refine Ev.iload_1 dX5_letter_34 rfl ?_
    refine Ev.i2b dX5_letter_35 (i2b_small (by omega)) ?_
    refine aw_modW_11 dX5_letter_36 (by omega) ?_
    rw [nar_byte (by omega)]
    refine Ev.aload_0 dX5_letter_37 rfl ?_
    refine Ev.dup dX5_letter_38 rfl ?_
    refine Ev.getf cf5 18 (by decide) wf_X5_100 dX5_letter_39 rfl rfl ?_
    refine Ev.iconst (v := 1) dX5_letter_42 (by decide) ?_
    refine Ev.iadd dX5_letter_43 ?_
    rw [hL, nI_1]
    refine pw_modW_0_18 dX5_letter_44 wf_X5_100 ?_
    refine Ev.aload_0 dX5_letter_47 rfl ?_
    refine Ev.getf cf5 18 (by decide) wf_X5_100 dX5_letter_48 rfl rfl ?_
    refine Ev.iret dX5_letter_51 ?_
    exact ⟨rfl, rfl⟩
  · exact absurd (hL.symm.trans h20) (fun q => absurd ((nI_eq (a := L) (b := 36) (by omega) (by decide)).mp q) (by omega))

set_option maxHeartbeats 4000000 in
set_option maxRecDepth 100000 in
theorem m_blank {d : Nat} {g : Nat → Int32} {G : Nat → Int64} {F : Nat → Nat → Int32}  : Ev d yX5_blank cX5_blank (some .int) 0 [some (.ref 0), none] [] (modW g G F) (Is (some (.int (g 18))) (modW (upd g 18 0) G F)) := by
  refine Ev.aload_0 dX5_blank_0 rfl ?_
  refine Ev.getf cf5 18 (by decide) wf_X5_100 dX5_blank_1 rfl rfl ?_
  refine Ev.ist1 dX5_blank_4 rfl ?_
  refine Ev.aload_0 dX5_blank_5 rfl ?_
  refine Ev.iconst (v := 0) dX5_blank_6 (by decide) ?_
  refine pw_modW_0_18 dX5_blank_7 wf_X5_100 ?_
  refine Ev.iload_1 dX5_blank_10 rfl ?_
  refine Ev.iret dX5_blank_11 ?_
  exact ⟨rfl, rfl⟩

set_option maxHeartbeats 4000000 in
set_option maxRecDepth 100000 in
theorem m_weight_u {d : Nat} {g : Nat → Int32} {G : Nat → Int64} {F : Nat → Nat → Int32} {V N : Nat} (ok : MOK g F V N) {x : Int32} (hx : ∀ w, w < N → x ≠ nI w) (what : Int32) : Ev (d + 2) yX5_weight cX5_weight (some .int) 0 [some (.ref 0), some (.int x), some (.int what)] [] (modW g G F) (Is (some (.int (-101))) (modW g G F)) := by
  refine Ev.aload_0 dX5_weight_0 rfl ?_
  refine Ev.iload_1 dX5_weight_1 rfl ?_
  refine k_X5_isWeight (m_isWeight_f ok hx) dX5_weight_2 wl_X5_182 rfl (Nat.le_of_ble_eq_true rfl) ?_
  refine Ev.if_ne 13 dX5_weight_5 (by decide) (fun hcst => ?_) (fun hcst => ?_)
  · exact absurd hcst (by decide)
  refine Ev.bipush (v := -101) dX5_weight_8 (by decide) ?_
  refine Ev.goto 34 dX5_weight_10 (by decide) ?_
  refine Ev.iret dX5_weight_34 ?_
  exact ⟨rfl, rfl⟩

set_option maxHeartbeats 4000000 in
set_option maxRecDepth 100000 in
theorem m_weight_k {d : Nat} {g : Nat → Int32} {G : Nat → Int64} {F : Nat → Nat → Int32} {V N : Nat} (ok : MOK g F V N) {K : Nat} (hK : g 13 = nI K) (h8 : K ≤ 8) {w : Nat} (hw : w < N) {j : Nat} (hj : j < 8) : Ev (d + 7) yX5_weight cX5_weight (some .int) 0 [some (.ref 0), some (.int (nI w)), some (.int (nI j))] [] (modW g G F) (Is (some (.int (mwA F N K w j))) (modW g G F)) := by
  refine Ev.aload_0 dX5_weight_0 rfl ?_
  refine Ev.iload_1 dX5_weight_1 rfl ?_
  refine k_X5_isWeight (m_isWeight_t ok hw) dX5_weight_2 wl_X5_182 rfl (Nat.le_of_ble_eq_true rfl) ?_
  refine Ev.if_ne 13 dX5_weight_5 (by decide) (fun hcst => ?_) (fun hcst => ?_)
  rotate_left
  · exact absurd hcst (by decide)
  refine Ev.iload_2 dX5_weight_13 rfl ?_
  refine Ev.iconst (v := 0) dX5_weight_14 (by decide) ?_
  refine Ev.bipush (v := 7) dX5_weight_15 (by decide) ?_
  refine k_X5_within (m_within _ _ _) dX5_weight_17 wl_X5_96 (Nat.le_of_ble_eq_true rfl) ?_
  rw [show wtn (nI j) 0 7 = 1 from wtn_c (hi := 7) (by omega) (by omega)]
  refine Ev.if_eq 32 dX5_weight_20 (by decide) (fun hcst => ?_) (fun hcst => ?_)
  · exact absurd hcst (by decide)
  refine Ev.aload_0 dX5_weight_23 rfl ?_
  refine Ev.iload_1 dX5_weight_24 rfl ?_
  refine Ev.iload_2 dX5_weight_25 rfl ?_
  refine k_X5_weightNow (m_weightNow_n ok hK h8 hw j hj) dX5_weight_26 wl_X5_186 rfl (Nat.le_of_ble_eq_true rfl) ?_
  refine Ev.goto 34 dX5_weight_29 (by decide) ?_
  refine Ev.iret dX5_weight_34 ?_
  exact ⟨rfl, rfl⟩

set_option maxHeartbeats 4000000 in
set_option maxRecDepth 100000 in
theorem m_weight_o {d : Nat} {g : Nat → Int32} {G : Nat → Int64} {F : Nat → Nat → Int32} {V N : Nat} (ok : MOK g F V N) {w : Nat} (hw : w < N) {x : Int32} (hx : x < 0 ∨ 7 < x) : Ev (d + 2) yX5_weight cX5_weight (some .int) 0 [some (.ref 0), some (.int (nI w)), some (.int x)] [] (modW g G F) (Is (some (.int (-102))) (modW g G F)) := by
  refine Ev.aload_0 dX5_weight_0 rfl ?_
  refine Ev.iload_1 dX5_weight_1 rfl ?_
  refine k_X5_isWeight (m_isWeight_t ok hw) dX5_weight_2 wl_X5_182 rfl (Nat.le_of_ble_eq_true rfl) ?_
  refine Ev.if_ne 13 dX5_weight_5 (by decide) (fun hcst => ?_) (fun hcst => ?_)
  rotate_left
  · exact absurd hcst (by decide)
  refine Ev.iload_2 dX5_weight_13 rfl ?_
  refine Ev.iconst (v := 0) dX5_weight_14 (by decide) ?_
  refine Ev.bipush (v := 7) dX5_weight_15 (by decide) ?_
  refine k_X5_within (m_within _ _ _) dX5_weight_17 wl_X5_96 (Nat.le_of_ble_eq_true rfl) ?_
  rw [wtn_is0 hx]
  refine Ev.if_eq 32 dX5_weight_20 (by decide) (fun hcst => ?_) (fun hcst => ?_)
  rotate_left
  · exact absurd hcst (by decide)
  refine Ev.bipush (v := -102) dX5_weight_32 (by decide) ?_
  refine Ev.iret dX5_weight_34 ?_
  exact ⟨rfl, rfl⟩

set_option maxHeartbeats 4000000 in
set_option maxRecDepth 100000 in
theorem m_as_u {d : Nat} {g : Nat → Int32} {G : Nat → Int64} {F : Nat → Nat → Int32} {V N : Nat} (ok : MOK g F V N) {x : Int32} (hx : ∀ w, w < N → x ≠ nI w) (kind : Int32) : Ev (d + 2) yX5_as cX5_as (some .int) 0 [some (.ref 0), some (.int x), some (.int kind), none] [] (modW g G F) (Is (some (.int (-101))) (modW g G F)) := by
  refine Ev.aload_0 dX5_as_0 rfl ?_
  refine Ev.iload_1 dX5_as_1 rfl ?_
  refine k_X5_isWeight (m_isWeight_f ok hx) dX5_as_2 wl_X5_182 rfl (Nat.le_of_ble_eq_true rfl) ?_
  refine Ev.if_ne 11 dX5_as_5 (by decide) (fun hcst => ?_) (fun hcst => ?_)
  · exact absurd hcst (by decide)
  refine Ev.bipush (v := -101) dX5_as_8 (by decide) ?_
  refine Ev.iret dX5_as_10 ?_
  exact ⟨rfl, rfl⟩

set_option maxHeartbeats 4000000 in
set_option maxRecDepth 100000 in
theorem m_as_o {d : Nat} {g : Nat → Int32} {G : Nat → Int64} {F : Nat → Nat → Int32} {V N : Nat} (ok : MOK g F V N) {w : Nat} (hw : w < N) {x : Int32} (hx : x < 0 ∨ 4 < x) : Ev (d + 2) yX5_as cX5_as (some .int) 0 [some (.ref 0), some (.int (nI w)), some (.int x), none] [] (modW g G F) (Is (some (.int (-102))) (modW g G F)) := by
  refine Ev.aload_0 dX5_as_0 rfl ?_
  refine Ev.iload_1 dX5_as_1 rfl ?_
  refine k_X5_isWeight (m_isWeight_t ok hw) dX5_as_2 wl_X5_182 rfl (Nat.le_of_ble_eq_true rfl) ?_
  refine Ev.if_ne 11 dX5_as_5 (by decide) (fun hcst => ?_) (fun hcst => ?_)
  rotate_left
  · exact absurd hcst (by decide)
  refine Ev.iload_2 dX5_as_11 rfl ?_
  refine Ev.iconst (v := 0) dX5_as_12 (by decide) ?_
  refine Ev.iconst (v := 4) dX5_as_13 (by decide) ?_
  refine k_X5_within (m_within _ _ _) dX5_as_14 wl_X5_96 (Nat.le_of_ble_eq_true rfl) ?_
  rw [wtn_is0 hx]
  refine Ev.if_ne 23 dX5_as_17 (by decide) (fun hcst => ?_) (fun hcst => ?_)
  · exact absurd hcst (by decide)
  refine Ev.bipush (v := -102) dX5_as_20 (by decide) ?_
  refine Ev.iret dX5_as_22 ?_
  exact ⟨rfl, rfl⟩

set_option maxHeartbeats 4000000 in
set_option maxRecDepth 100000 in
theorem m_as_k {d : Nat} {g : Nat → Int32} {G : Nat → Int64} {F : Nat → Nat → Int32} {V N : Nat} (ok : MOK g F V N) {w : Nat} (hw : w < N) {x : Int32} (h0 : ¬ x < 0) (h4 : ¬ 4 < x) : Ev (d + 2) yX5_as cX5_as (some .int) 0 [some (.ref 0), some (.int (nI w)), some (.int x), none] [] (modW g G F) (Is (some (.int (if iok (F 4 w) x = 0 then -1 else nI w))) (modW g G F)) := by
  refine Ev.aload_0 dX5_as_0 rfl ?_
  refine Ev.iload_1 dX5_as_1 rfl ?_
  refine k_X5_isWeight (m_isWeight_t ok hw) dX5_as_2 wl_X5_182 rfl (Nat.le_of_ble_eq_true rfl) ?_
  refine Ev.if_ne 11 dX5_as_5 (by decide) (fun hcst => ?_) (fun hcst => ?_)
  rotate_left
  · exact absurd hcst (by decide)
  refine Ev.iload_2 dX5_as_11 rfl ?_
  refine Ev.iconst (v := 0) dX5_as_12 (by decide) ?_
  refine Ev.iconst (v := 4) dX5_as_13 (by decide) ?_
  refine k_X5_within (m_within _ _ _) dX5_as_14 wl_X5_96 (Nat.le_of_ble_eq_true rfl) ?_
  rw [wtn_is1 h0 h4]
  refine Ev.if_ne 23 dX5_as_17 (by decide) (fun hcst => ?_) (fun hcst => ?_)
  rotate_left
  · exact absurd hcst (by decide)
  refine Ev.aload_0 dX5_as_23 rfl ?_
  refine Ev.getf cf5 4 (by decide) wf_X5_13 dX5_as_24 rfl rfl ?_
  refine Ev.iload_1 dX5_as_27 rfl ?_
  refine Ev.aldn dX5_as_28 rfl (by have := ok.2.2.2.1; omega) (by decide) ?_
  refine Ev.ist3 dX5_as_29 rfl ?_
  refine Ev.iload_2 dX5_as_30 rfl ?_
  refine Ev.if_eq 49 dX5_as_31 (by decide) (fun h31 => ?_) (fun h31 => ?_)
  · have e : iok (F 4 w) x = 1 := if_pos h31
    refine Ev.iload_1 dX5_as_49 rfl ?_
    refine Ev.goto 54 dX5_as_50 (by decide) ?_
    refine Ev.iret dX5_as_54 ?_
    exact ⟨by rw [e]; simp, rfl⟩
  refine Ev.iload_3 dX5_as_34 rfl ?_
  refine Ev.iload_2 dX5_as_35 rfl ?_
  refine Ev.icmp_eq 49 dX5_as_36 (by decide) (fun h36 => ?_) (fun h36 => ?_)
  · have e : iok (F 4 w) x = 1 := (if_neg h31).trans (if_pos h36.symm)
    refine Ev.iload_1 dX5_as_49 rfl ?_
    refine Ev.goto 54 dX5_as_50 (by decide) ?_
    refine Ev.iret dX5_as_54 ?_
    exact ⟨by rw [e]; simp, rfl⟩
  refine Ev.iload_2 dX5_as_39 rfl ?_
  refine Ev.iconst (v := 1) dX5_as_40 (by decide) ?_
  refine Ev.icmp_ne 53 dX5_as_41 (by decide) (fun h41 => ?_) (fun h41 => ?_)
  · have e : iok (F 4 w) x = 0 := (if_neg h31).trans ((if_neg (fun q => h36 q.symm)).trans (if_neg (fun q => h41 q.1)))
    refine Ev.iconst (v := -1) dX5_as_53 (by decide) ?_
    refine Ev.iret dX5_as_54 ?_
    exact ⟨by rw [e]; simp, rfl⟩
  refine Ev.iload_3 dX5_as_44 rfl ?_
  refine Ev.iconst (v := 4) dX5_as_45 (by decide) ?_
  refine Ev.icmp_ne 53 dX5_as_46 (by decide) (fun h46 => ?_) (fun h46 => ?_)
  · have e : iok (F 4 w) x = 0 := (if_neg h31).trans ((if_neg (fun q => h36 q.symm)).trans (if_neg (fun q => h46 q.2)))
    refine Ev.iconst (v := -1) dX5_as_53 (by decide) ?_
    refine Ev.iret dX5_as_54 ?_
    exact ⟨by rw [e]; simp, rfl⟩
  have e : iok (F 4 w) x = 1 := (if_neg h31).trans ((if_neg (fun q => h36 q.symm)).trans (if_pos ⟨h41, h46⟩))
  refine Ev.iload_1 dX5_as_49 rfl ?_
  refine Ev.goto 54 dX5_as_50 (by decide) ?_
  refine Ev.iret dX5_as_54 ?_
  exact ⟨by rw [e]; simp, rfl⟩

set_option maxHeartbeats 4000000 in
set_option maxRecDepth 100000 in
theorem m_village_u {d : Nat} {g : Nat → Int32} {G : Nat → Int64} {F : Nat → Nat → Int32} {V N : Nat} (ok : MOK g F V N) {y : Int32} (hy : ∀ w, w < V → y ≠ nI w) (what : Int32) : Ev (d + 2) yX5_village cX5_village (some .int) 0 [some (.ref 0), some (.int y), some (.int what)] [] (modW g G F) (Is (some (.int (-101))) (modW g G F)) := by
  refine Ev.aload_0 dX5_village_0 rfl ?_
  refine Ev.iload_1 dX5_village_1 rfl ?_
  refine k_X5_isVillage (m_isVillage_f ok hy) dX5_village_2 wl_X5_195 rfl (Nat.le_of_ble_eq_true rfl) ?_
  refine Ev.if_ne 13 dX5_village_5 (by decide) (fun hcst => ?_) (fun hcst => ?_)
  · exact absurd hcst (by decide)
  refine Ev.bipush (v := -101) dX5_village_8 (by decide) ?_
  refine Ev.goto 34 dX5_village_10 (by decide) ?_
  refine Ev.iret dX5_village_34 ?_
  exact ⟨rfl, rfl⟩

set_option maxHeartbeats 4000000 in
set_option maxRecDepth 100000 in
theorem m_village_k {d : Nat} {g : Nat → Int32} {G : Nat → Int64} {F : Nat → Nat → Int32} {V N : Nat} (ok : MOK g F V N) {v : Nat} (hv : v < V) {j : Nat} (hj : j < 8) : Ev (d + 5) yX5_village cX5_village (some .int) 0 [some (.ref 0), some (.int (nI v)), some (.int (nI j))] [] (modW g G F) (Is (some (.int (mvA F N v j))) (modW g G F)) := by
  refine Ev.aload_0 dX5_village_0 rfl ?_
  refine Ev.iload_1 dX5_village_1 rfl ?_
  refine k_X5_isVillage (m_isVillage_t ok hv) dX5_village_2 wl_X5_195 rfl (Nat.le_of_ble_eq_true rfl) ?_
  refine Ev.if_ne 13 dX5_village_5 (by decide) (fun hcst => ?_) (fun hcst => ?_)
  rotate_left
  · exact absurd hcst (by decide)
  refine Ev.iload_2 dX5_village_13 rfl ?_
  refine Ev.iconst (v := 0) dX5_village_14 (by decide) ?_
  refine Ev.bipush (v := 7) dX5_village_15 (by decide) ?_
  refine k_X5_within (m_within _ _ _) dX5_village_17 wl_X5_96 (Nat.le_of_ble_eq_true rfl) ?_
  rw [show wtn (nI j) 0 7 = 1 from wtn_c (hi := 7) (by omega) (by omega)]
  refine Ev.if_eq 32 dX5_village_20 (by decide) (fun hcst => ?_) (fun hcst => ?_)
  · exact absurd hcst (by decide)
  refine Ev.aload_0 dX5_village_23 rfl ?_
  refine Ev.iload_1 dX5_village_24 rfl ?_
  refine Ev.iload_2 dX5_village_25 rfl ?_
  refine k_X5_villageNow (m_villageNow_n ok hv j hj) dX5_village_26 wl_X5_198 rfl (Nat.le_of_ble_eq_true rfl) ?_
  refine Ev.goto 34 dX5_village_29 (by decide) ?_
  refine Ev.iret dX5_village_34 ?_
  exact ⟨rfl, rfl⟩

set_option maxHeartbeats 4000000 in
set_option maxRecDepth 100000 in
theorem m_village_o {d : Nat} {g : Nat → Int32} {G : Nat → Int64} {F : Nat → Nat → Int32} {V N : Nat} (ok : MOK g F V N) {v : Nat} (hv : v < V) {x : Int32} (hx : x < 0 ∨ 7 < x) : Ev (d + 2) yX5_village cX5_village (some .int) 0 [some (.ref 0), some (.int (nI v)), some (.int x)] [] (modW g G F) (Is (some (.int (-102))) (modW g G F)) := by
  refine Ev.aload_0 dX5_village_0 rfl ?_
  refine Ev.iload_1 dX5_village_1 rfl ?_
  refine k_X5_isVillage (m_isVillage_t ok hv) dX5_village_2 wl_X5_195 rfl (Nat.le_of_ble_eq_true rfl) ?_
  refine Ev.if_ne 13 dX5_village_5 (by decide) (fun hcst => ?_) (fun hcst => ?_)
  rotate_left
  · exact absurd hcst (by decide)
  refine Ev.iload_2 dX5_village_13 rfl ?_
  refine Ev.iconst (v := 0) dX5_village_14 (by decide) ?_
  refine Ev.bipush (v := 7) dX5_village_15 (by decide) ?_
  refine k_X5_within (m_within _ _ _) dX5_village_17 wl_X5_96 (Nat.le_of_ble_eq_true rfl) ?_
  rw [wtn_is0 hx]
  refine Ev.if_eq 32 dX5_village_20 (by decide) (fun hcst => ?_) (fun hcst => ?_)
  rotate_left
  · exact absurd hcst (by decide)
  refine Ev.bipush (v := -102) dX5_village_32 (by decide) ?_
  refine Ev.iret dX5_village_34 ?_
  exact ⟨rfl, rfl⟩

set_option maxHeartbeats 4000000 in
set_option maxRecDepth 100000 in
theorem m_lifts_u {d : Nat} {g : Nat → Int32} {G : Nat → Int64} {F : Nat → Nat → Int32} {V N : Nat} (ok : MOK g F V N) {y : Int32} (hy : ∀ w, w < V → y ≠ nI w) (p q : Int32) : Ev (d + 2) yX5_lifts cX5_lifts (some .int) 0 [some (.ref 0), some (.int y), some (.int p), some (.int q)] [] (modW g G F) (Is (some (.int (-101))) (modW g G F)) := by
  refine Ev.aload_0 dX5_lifts_0 rfl ?_
  refine Ev.iload_1 dX5_lifts_1 rfl ?_
  refine k_X5_isVillage (m_isVillage_f ok hy) dX5_lifts_2 wl_X5_195 rfl (Nat.le_of_ble_eq_true rfl) ?_
  refine Ev.if_ne 11 dX5_lifts_5 (by decide) (fun hcst => ?_) (fun hcst => ?_)
  · exact absurd hcst (by decide)
  refine Ev.bipush (v := -101) dX5_lifts_8 (by decide) ?_
  refine Ev.iret dX5_lifts_10 ?_
  exact ⟨rfl, rfl⟩

set_option maxHeartbeats 4000000 in
set_option maxRecDepth 100000 in
theorem m_lifts_o {d : Nat} {g : Nat → Int32} {G : Nat → Int64} {F : Nat → Nat → Int32} {V N : Nat} (ok : MOK g F V N) {v : Nat} (hv : v < V) {p q : Int32} (hpq : ∀ a b, a < 2 → b < 100 → ¬ (p = nI a ∧ q = nI b))  : Ev (d + 2) yX5_lifts cX5_lifts (some .int) 0 [some (.ref 0), some (.int (nI v)), some (.int p), some (.int q)] [] (modW g G F) (Is (some (.int (-102))) (modW g G F)) := by
  refine Ev.aload_0 dX5_lifts_0 rfl ?_
  refine Ev.iload_1 dX5_lifts_1 rfl ?_
  refine k_X5_isVillage (m_isVillage_t ok hv) dX5_lifts_2 wl_X5_195 rfl (Nat.le_of_ble_eq_true rfl) ?_
  refine Ev.if_ne 11 dX5_lifts_5 (by decide) (fun hcst => ?_) (fun hcst => ?_)
  rotate_left
  · exact absurd hcst (by decide)
  refine Ev.iload_2 dX5_lifts_11 rfl ?_
  refine Ev.iload_3 dX5_lifts_12 rfl ?_
  refine k_X5_isWind (m_isWind_f hpq) dX5_lifts_13 wl_X5_201 (Nat.le_of_ble_eq_true rfl) ?_
  refine Ev.if_ne 22 dX5_lifts_16 (by decide) (fun hcst => ?_) (fun hcst => ?_)
  · exact absurd hcst (by decide)
  refine Ev.bipush (v := -102) dX5_lifts_19 (by decide) ?_
  refine Ev.iret dX5_lifts_21 ?_
  exact ⟨rfl, rfl⟩

set_option maxHeartbeats 4000000 in
set_option maxRecDepth 100000 in
theorem m_lifts_k {d : Nat} {g : Nat → Int32} {G : Nat → Int64} {F : Nat → Nat → Int32} {V N : Nat} (ok : MOK g F V N) {v : Nat} (hv : v < V) {a b : Nat} (ha : a < 2) (hb : b < 100)  : Ev (d + 3) yX5_lifts cX5_lifts (some .int) 0 [some (.ref 0), some (.int (nI v)), some (.int (nI a)), some (.int (nI b))] [] (modW g G F) (Is (some (.int (if lifs (hld (vM F) N (-1) v (nI a)) (nI b) = 0 then 0 else 1))) (modW g G F)) := by
  refine Ev.aload_0 dX5_lifts_0 rfl ?_
  refine Ev.iload_1 dX5_lifts_1 rfl ?_
  refine k_X5_isVillage (m_isVillage_t ok hv) dX5_lifts_2 wl_X5_195 rfl (Nat.le_of_ble_eq_true rfl) ?_
  refine Ev.if_ne 11 dX5_lifts_5 (by decide) (fun hcst => ?_) (fun hcst => ?_)
  rotate_left
  · exact absurd hcst (by decide)
  refine Ev.iload_2 dX5_lifts_11 rfl ?_
  refine Ev.iload_3 dX5_lifts_12 rfl ?_
  refine k_X5_isWind (m_isWind_t ha hb) dX5_lifts_13 wl_X5_201 (Nat.le_of_ble_eq_true rfl) ?_
  refine Ev.if_ne 22 dX5_lifts_16 (by decide) (fun hcst => ?_) (fun hcst => ?_)
  rotate_left
  · exact absurd hcst (by decide)
  refine Ev.aload_0 dX5_lifts_22 rfl ?_
  refine Ev.iload_1 dX5_lifts_23 rfl ?_
  refine Ev.iload_2 dX5_lifts_24 rfl ?_
  refine Ev.iload_3 dX5_lifts_25 rfl ?_
  refine k_X5_wouldLift (m_wouldLift ok (by have := ok.2.2.1; omega) _ _) dX5_lifts_26 wl_X5_204 rfl (Nat.le_of_ble_eq_true rfl) ?_
  refine Ev.if_eq 36 dX5_lifts_29 (by decide) (fun h29 => ?_) (fun h29 => ?_)
  · refine Ev.iconst (v := 0) dX5_lifts_36 (by decide) ?_
    refine Ev.iret dX5_lifts_37 ?_
    exact ⟨by simp [*], rfl⟩
  refine Ev.iconst (v := 1) dX5_lifts_32 (by decide) ?_
  refine Ev.goto 37 dX5_lifts_33 (by decide) ?_
  refine Ev.iret dX5_lifts_37 ?_
  exact ⟨by simp [*], rfl⟩

set_option maxHeartbeats 4000000 in
set_option maxRecDepth 100000 in
theorem m_goAway {d : Nat} {g : Nat → Int32} {G : Nat → Int64} {F : Nat → Nat → Int32} {w : Nat} (hw : w < 5) : Ev d yX5_goAway cX5_goAway none 0 [some (.ref 0), some (.int (nI w))] [] (modW g G F) (Is none (modW g G (up2 (up2 (up2 F 6 w (-1)) 7 w (-1)) 8 w 0))) := by
  refine Ev.aload_0 dX5_goAway_0 rfl ?_
  refine Ev.getf cf5 6 (by decide) wf_X5_19 dX5_goAway_1 rfl rfl ?_
  refine Ev.iload_1 dX5_goAway_4 rfl ?_
  refine Ev.iconst (v := -1) dX5_goAway_5 (by decide) ?_
  refine aw_modW_4 dX5_goAway_6 (by omega) ?_
  refine Ev.aload_0 dX5_goAway_7 rfl ?_
  refine Ev.getf cf5 7 (by decide) wf_X5_22 dX5_goAway_8 rfl rfl ?_
  refine Ev.iload_1 dX5_goAway_11 rfl ?_
  refine Ev.iconst (v := -1) dX5_goAway_12 (by decide) ?_
  refine aw_modW_5 dX5_goAway_13 (by omega) ?_
  refine Ev.aload_0 dX5_goAway_14 rfl ?_
  refine Ev.getf cf5 8 (by decide) wf_X5_25 dX5_goAway_15 rfl rfl ?_
  refine Ev.iload_1 dX5_goAway_18 rfl ?_
  refine Ev.iconst (v := 0) dX5_goAway_19 (by decide) ?_
  refine aw_modW_6 dX5_goAway_20 (by omega) ?_
  refine Ev.vret dX5_goAway_21 ?_
  exact ⟨rfl, rfl⟩

set_option maxHeartbeats 4000000 in
set_option maxRecDepth 100000 in
theorem m_put_u1 {d : Nat} {g : Nat → Int32} {G : Nat → Int64} {F : Nat → Nat → Int32} {V N : Nat} (ok : MOK g F V N) {x : Int32} (hx : ∀ w, w < N → x ≠ nI w) (y z : Int32) : Ev (d + 2) yX5_put cX5_put (some .int) 0 [some (.ref 0), some (.int x), some (.int y), some (.int z), none] [] (modW g G F) (Is (some (.int (-101))) (modW g G F)) := by
  refine Ev.aload_0 dX5_put_0 rfl ?_
  refine Ev.iload_1 dX5_put_1 rfl ?_
  refine k_X5_isWeight (m_isWeight_f ok hx) dX5_put_2 wl_X5_182 rfl (Nat.le_of_ble_eq_true rfl) ?_
  refine Ev.if_eq 16 dX5_put_5 (by decide) (fun hcst => ?_) (fun hcst => ?_)
  rotate_left
  · exact absurd hcst (by decide)
  refine Ev.bipush (v := -101) dX5_put_16 (by decide) ?_
  refine Ev.iret dX5_put_18 ?_
  exact ⟨rfl, rfl⟩

set_option maxHeartbeats 4000000 in
set_option maxRecDepth 100000 in
theorem m_put_u2 {d : Nat} {g : Nat → Int32} {G : Nat → Int64} {F : Nat → Nat → Int32} {V N : Nat} (ok : MOK g F V N) {w : Nat} (hw : w < N) {y : Int32} (hy : ∀ w, w < V → y ≠ nI w) (z : Int32) : Ev (d + 2) yX5_put cX5_put (some .int) 0 [some (.ref 0), some (.int (nI w)), some (.int y), some (.int z), none] [] (modW g G F) (Is (some (.int (-101))) (modW g G F)) := by
  refine Ev.aload_0 dX5_put_0 rfl ?_
  refine Ev.iload_1 dX5_put_1 rfl ?_
  refine k_X5_isWeight (m_isWeight_t ok hw) dX5_put_2 wl_X5_182 rfl (Nat.le_of_ble_eq_true rfl) ?_
  refine Ev.if_eq 16 dX5_put_5 (by decide) (fun hcst => ?_) (fun hcst => ?_)
  · exact absurd hcst (by decide)
  refine Ev.aload_0 dX5_put_8 rfl ?_
  refine Ev.iload_2 dX5_put_9 rfl ?_
  refine k_X5_isVillage (m_isVillage_f ok hy) dX5_put_10 wl_X5_195 rfl (Nat.le_of_ble_eq_true rfl) ?_
  refine Ev.if_ne 19 dX5_put_13 (by decide) (fun hcst => ?_) (fun hcst => ?_)
  · exact absurd hcst (by decide)
  refine Ev.bipush (v := -101) dX5_put_16 (by decide) ?_
  refine Ev.iret dX5_put_18 ?_
  exact ⟨rfl, rfl⟩

set_option maxHeartbeats 4000000 in
set_option maxRecDepth 100000 in
theorem m_put_o {d : Nat} {g : Nat → Int32} {G : Nat → Int64} {F : Nat → Nat → Int32} {V N : Nat} (ok : MOK g F V N) {w : Nat} (hw : w < N) {v : Nat} (hv : v < V) {z : Int32} (hz : z < 0 ∨ 4 < z) : Ev (d + 2) yX5_put cX5_put (some .int) 0 [some (.ref 0), some (.int (nI w)), some (.int (nI v)), some (.int z), none] [] (modW g G F) (Is (some (.int (-102))) (modW g G F)) := by
  refine Ev.aload_0 dX5_put_0 rfl ?_
  refine Ev.iload_1 dX5_put_1 rfl ?_
  refine k_X5_isWeight (m_isWeight_t ok hw) dX5_put_2 wl_X5_182 rfl (Nat.le_of_ble_eq_true rfl) ?_
  refine Ev.if_eq 16 dX5_put_5 (by decide) (fun hcst => ?_) (fun hcst => ?_)
  · exact absurd hcst (by decide)
  refine Ev.aload_0 dX5_put_8 rfl ?_
  refine Ev.iload_2 dX5_put_9 rfl ?_
  refine k_X5_isVillage (m_isVillage_t ok hv) dX5_put_10 wl_X5_195 rfl (Nat.le_of_ble_eq_true rfl) ?_
  refine Ev.if_ne 19 dX5_put_13 (by decide) (fun hcst => ?_) (fun hcst => ?_)
  rotate_left
  · exact absurd hcst (by decide)
  refine Ev.iload_3 dX5_put_19 rfl ?_
  refine Ev.iconst (v := 0) dX5_put_20 (by decide) ?_
  refine Ev.iconst (v := 4) dX5_put_21 (by decide) ?_
  refine k_X5_within (m_within _ _ _) dX5_put_22 wl_X5_96 (Nat.le_of_ble_eq_true rfl) ?_
  rw [wtn_is0 hz]
  refine Ev.if_ne 31 dX5_put_25 (by decide) (fun hcst => ?_) (fun hcst => ?_)
  · exact absurd hcst (by decide)
  refine Ev.bipush (v := -102) dX5_put_28 (by decide) ?_
  refine Ev.iret dX5_put_30 ?_
  exact ⟨rfl, rfl⟩

set_option maxHeartbeats 4000000 in
set_option maxRecDepth 100000 in
theorem m_put_k {d : Nat} {g : Nat → Int32} {G : Nat → Int64} {F : Nat → Nat → Int32} {V N : Nat} (ok : MOK g F V N) {w : Nat} (hw : w < N) {v : Nat} (hv : v < V) {z : Int32} (h0 : ¬ z < 0) (h4 : ¬ 4 < z) : Ev (d + 2) yX5_put cX5_put (some .int) 0 [some (.ref 0), some (.int (nI w)), some (.int (nI v)), some (.int z), none] [] (modW g G F) (Is (some (.int (F 6 w))) (modW g G (up2 (up2 (up2 F 6 w (nI v)) 7 w z) 8 w 0))) := by
  refine Ev.aload_0 dX5_put_0 rfl ?_
  refine Ev.iload_1 dX5_put_1 rfl ?_
  refine k_X5_isWeight (m_isWeight_t ok hw) dX5_put_2 wl_X5_182 rfl (Nat.le_of_ble_eq_true rfl) ?_
  refine Ev.if_eq 16 dX5_put_5 (by decide) (fun hcst => ?_) (fun hcst => ?_)
  · exact absurd hcst (by decide)
  refine Ev.aload_0 dX5_put_8 rfl ?_
  refine Ev.iload_2 dX5_put_9 rfl ?_
  refine k_X5_isVillage (m_isVillage_t ok hv) dX5_put_10 wl_X5_195 rfl (Nat.le_of_ble_eq_true rfl) ?_
  refine Ev.if_ne 19 dX5_put_13 (by decide) (fun hcst => ?_) (fun hcst => ?_)
  rotate_left
  · exact absurd hcst (by decide)
  refine Ev.iload_3 dX5_put_19 rfl ?_
  refine Ev.iconst (v := 0) dX5_put_20 (by decide) ?_
  refine Ev.iconst (v := 4) dX5_put_21 (by decide) ?_
  refine k_X5_within (m_within _ _ _) dX5_put_22 wl_X5_96 (Nat.le_of_ble_eq_true rfl) ?_
  rw [wtn_is1 h0 h4]
  refine Ev.if_ne 31 dX5_put_25 (by decide) (fun hcst => ?_) (fun hcst => ?_)
  rotate_left
  · exact absurd hcst (by decide)
  refine Ev.aload_0 dX5_put_31 rfl ?_
  refine Ev.getf cf5 6 (by decide) wf_X5_19 dX5_put_32 rfl rfl ?_
  refine Ev.iload_1 dX5_put_35 rfl ?_
  refine Ev.aldn dX5_put_36 rfl (by have := ok.2.2.2.1; omega) (by decide) ?_
  refine Ev.ist4 dX5_put_37 rfl ?_
  refine Ev.aload_0 dX5_put_39 rfl ?_
  refine Ev.getf cf5 6 (by decide) wf_X5_19 dX5_put_40 rfl rfl ?_
  refine Ev.iload_1 dX5_put_43 rfl ?_
  refine Ev.iload_2 dX5_put_44 rfl ?_
  refine aw_modW_4 dX5_put_45 (by have := ok.2.2.2.1; omega) ?_
  refine Ev.aload_0 dX5_put_46 rfl ?_
  refine Ev.getf cf5 7 (by decide) wf_X5_22 dX5_put_47 rfl rfl ?_
  refine Ev.iload_1 dX5_put_50 rfl ?_
  refine Ev.iload_3 dX5_put_51 rfl ?_
  refine aw_modW_5 dX5_put_52 (by have := ok.2.2.2.1; omega) ?_
  refine Ev.aload_0 dX5_put_53 rfl ?_
  refine Ev.getf cf5 8 (by decide) wf_X5_25 dX5_put_54 rfl rfl ?_
  refine Ev.iload_1 dX5_put_57 rfl ?_
  refine Ev.iconst (v := 0) dX5_put_58 (by decide) ?_
  refine aw_modW_6 dX5_put_59 (by have := ok.2.2.2.1; omega) ?_
  refine Ev.iload dX5_put_60 rfl ?_
  refine Ev.iret dX5_put_62 ?_
  exact ⟨rfl, rfl⟩

set_option maxHeartbeats 4000000 in
set_option maxRecDepth 100000 in
theorem m_lift_u {d : Nat} {g : Nat → Int32} {G : Nat → Int64} {F : Nat → Nat → Int32} {V N : Nat} (ok : MOK g F V N) {x : Int32} (hx : ∀ w, w < N → x ≠ nI w)  : Ev (d + 2) yX5_lift cX5_lift (some .int) 0 [some (.ref 0), some (.int x), none] [] (modW g G F) (Is (some (.int (-101))) (modW g G F)) := by
  refine Ev.aload_0 dX5_lift_0 rfl ?_
  refine Ev.iload_1 dX5_lift_1 rfl ?_
  refine k_X5_isWeight (m_isWeight_f ok hx) dX5_lift_2 wl_X5_182 rfl (Nat.le_of_ble_eq_true rfl) ?_
  refine Ev.if_ne 11 dX5_lift_5 (by decide) (fun hcst => ?_) (fun hcst => ?_)
  · exact absurd hcst (by decide)
  refine Ev.bipush (v := -101) dX5_lift_8 (by decide) ?_
  refine Ev.iret dX5_lift_10 ?_
  exact ⟨rfl, rfl⟩

set_option maxHeartbeats 4000000 in
set_option maxRecDepth 100000 in
theorem m_lift_s {d : Nat} {g : Nat → Int32} {G : Nat → Int64} {F : Nat → Nat → Int32} {V N : Nat} (ok : MOK g F V N) {w : Nat} (hw : w < N) (hh : F 6 w = -1) : Ev (d + 2) yX5_lift cX5_lift (some .int) 0 [some (.ref 0), some (.int (nI w)), none] [] (modW g G F) (Is (some (.int (-103))) (modW g G F)) := by
  refine Ev.aload_0 dX5_lift_0 rfl ?_
  refine Ev.iload_1 dX5_lift_1 rfl ?_
  refine k_X5_isWeight (m_isWeight_t ok hw) dX5_lift_2 wl_X5_182 rfl (Nat.le_of_ble_eq_true rfl) ?_
  refine Ev.if_ne 11 dX5_lift_5 (by decide) (fun hcst => ?_) (fun hcst => ?_)
  rotate_left
  · exact absurd hcst (by decide)
  refine Ev.aload_0 dX5_lift_11 rfl ?_
  refine Ev.getf cf5 6 (by decide) wf_X5_19 dX5_lift_12 rfl rfl ?_
  refine Ev.iload_1 dX5_lift_15 rfl ?_
  refine Ev.aldn dX5_lift_16 rfl (by have := ok.2.2.2.1; omega) (by decide) ?_
  refine Ev.ist2 dX5_lift_17 rfl ?_
  refine Ev.iload_2 dX5_lift_18 rfl ?_
  refine Ev.iconst (v := -1) dX5_lift_19 (by decide) ?_
  refine Ev.icmp_ne 26 dX5_lift_20 (by decide) (fun h20 => ?_) (fun h20 => ?_)
  · exact absurd hh h20
  refine Ev.bipush (v := -103) dX5_lift_23 (by decide) ?_
  refine Ev.iret dX5_lift_25 ?_
  exact ⟨rfl, rfl⟩

set_option maxHeartbeats 4000000 in
set_option maxRecDepth 100000 in
theorem m_lift_k {d : Nat} {g : Nat → Int32} {G : Nat → Int64} {F : Nat → Nat → Int32} {V N : Nat} (ok : MOK g F V N) {w : Nat} (hw : w < N) (hh : ¬ F 6 w = -1) : Ev (d + 2) yX5_lift cX5_lift (some .int) 0 [some (.ref 0), some (.int (nI w)), none] [] (modW g G F) (Is (some (.int (F 6 w))) (modW g G (up2 (up2 (up2 F 6 w (-1)) 7 w (-1)) 8 w 0))) := by
  refine Ev.aload_0 dX5_lift_0 rfl ?_
  refine Ev.iload_1 dX5_lift_1 rfl ?_
  refine k_X5_isWeight (m_isWeight_t ok hw) dX5_lift_2 wl_X5_182 rfl (Nat.le_of_ble_eq_true rfl) ?_
  refine Ev.if_ne 11 dX5_lift_5 (by decide) (fun hcst => ?_) (fun hcst => ?_)
  rotate_left
  · exact absurd hcst (by decide)
  refine Ev.aload_0 dX5_lift_11 rfl ?_
  refine Ev.getf cf5 6 (by decide) wf_X5_19 dX5_lift_12 rfl rfl ?_
  refine Ev.iload_1 dX5_lift_15 rfl ?_
  refine Ev.aldn dX5_lift_16 rfl (by have := ok.2.2.2.1; omega) (by decide) ?_
  refine Ev.ist2 dX5_lift_17 rfl ?_
  refine Ev.iload_2 dX5_lift_18 rfl ?_
  refine Ev.iconst (v := -1) dX5_lift_19 (by decide) ?_
  refine Ev.icmp_ne 26 dX5_lift_20 (by decide) (fun h20 => ?_) (fun h20 => ?_)
  · refine Ev.aload_0 dX5_lift_26 rfl ?_
    refine Ev.iload_1 dX5_lift_27 rfl ?_
    refine k_X5_goAway (m_goAway (by have := ok.2.2.2.1; omega)) dX5_lift_28 wl_X5_207 rfl (Nat.le_of_ble_eq_true rfl) ?_
    refine Ev.iload_2 dX5_lift_31 rfl ?_
    refine Ev.iret dX5_lift_32 ?_
    exact ⟨rfl, rfl⟩
  · exact absurd h20 hh

set_option maxHeartbeats 4000000 in
set_option maxRecDepth 100000 in
theorem m_cut_u {d : Nat} {g : Nat → Int32} {G : Nat → Int64} {F : Nat → Nat → Int32} {V N : Nat} (ok : MOK g F V N) {x : Int32} (hx : ∀ w, w < N → x ≠ nI w) (z : Int32) : Ev (d + 2) yX5_cut cX5_cut (some .int) 0 [some (.ref 0), some (.int x), some (.int z), none] [] (modW g G F) (Is (some (.int (-101))) (modW g G F)) := by
  refine Ev.aload_0 dX5_cut_0 rfl ?_
  refine Ev.iload_1 dX5_cut_1 rfl ?_
  refine k_X5_isWeight (m_isWeight_f ok hx) dX5_cut_2 wl_X5_182 rfl (Nat.le_of_ble_eq_true rfl) ?_
  refine Ev.if_ne 11 dX5_cut_5 (by decide) (fun hcst => ?_) (fun hcst => ?_)
  · exact absurd hcst (by decide)
  refine Ev.bipush (v := -101) dX5_cut_8 (by decide) ?_
  refine Ev.iret dX5_cut_10 ?_
  exact ⟨rfl, rfl⟩

set_option maxHeartbeats 4000000 in
set_option maxRecDepth 100000 in
theorem m_cut_o {d : Nat} {g : Nat → Int32} {G : Nat → Int64} {F : Nat → Nat → Int32} {V N : Nat} (ok : MOK g F V N) {w : Nat} (hw : w < N) {z : Int32} (hz : z < 1 ∨ 9 < z) : Ev (d + 2) yX5_cut cX5_cut (some .int) 0 [some (.ref 0), some (.int (nI w)), some (.int z), none] [] (modW g G F) (Is (some (.int (-102))) (modW g G F)) := by
  refine Ev.aload_0 dX5_cut_0 rfl ?_
  refine Ev.iload_1 dX5_cut_1 rfl ?_
  refine k_X5_isWeight (m_isWeight_t ok hw) dX5_cut_2 wl_X5_182 rfl (Nat.le_of_ble_eq_true rfl) ?_
  refine Ev.if_ne 11 dX5_cut_5 (by decide) (fun hcst => ?_) (fun hcst => ?_)
  rotate_left
  · exact absurd hcst (by decide)
  refine Ev.iload_2 dX5_cut_11 rfl ?_
  refine Ev.iconst (v := 1) dX5_cut_12 (by decide) ?_
  refine Ev.bipush (v := 9) dX5_cut_13 (by decide) ?_
  refine k_X5_within (m_within _ _ _) dX5_cut_15 wl_X5_96 (Nat.le_of_ble_eq_true rfl) ?_
  rw [wtn_is0 hz]
  refine Ev.if_ne 24 dX5_cut_18 (by decide) (fun hcst => ?_) (fun hcst => ?_)
  · exact absurd hcst (by decide)
  refine Ev.bipush (v := -102) dX5_cut_21 (by decide) ?_
  refine Ev.iret dX5_cut_23 ?_
  exact ⟨rfl, rfl⟩

set_option maxHeartbeats 4000000 in
set_option maxRecDepth 100000 in
theorem m_cut_k {d : Nat} {g : Nat → Int32} {G : Nat → Int64} {F : Nat → Nat → Int32} {V N : Nat} (ok : MOK g F V N) {w : Nat} (hw : w < N) {z : Int32} (h1 : ¬ z < 1) (h9 : ¬ 9 < z) : Ev (d + 2) yX5_cut cX5_cut (some .int) 0 [some (.ref 0), some (.int (nI w)), some (.int z), none] [] (modW g G F) (Is (some (.int (F 5 w))) (modW g G (up2 F 5 w z))) := by
  refine Ev.aload_0 dX5_cut_0 rfl ?_
  refine Ev.iload_1 dX5_cut_1 rfl ?_
  refine k_X5_isWeight (m_isWeight_t ok hw) dX5_cut_2 wl_X5_182 rfl (Nat.le_of_ble_eq_true rfl) ?_
  refine Ev.if_ne 11 dX5_cut_5 (by decide) (fun hcst => ?_) (fun hcst => ?_)
  rotate_left
  · exact absurd hcst (by decide)
  refine Ev.iload_2 dX5_cut_11 rfl ?_
  refine Ev.iconst (v := 1) dX5_cut_12 (by decide) ?_
  refine Ev.bipush (v := 9) dX5_cut_13 (by decide) ?_
  refine k_X5_within (m_within _ _ _) dX5_cut_15 wl_X5_96 (Nat.le_of_ble_eq_true rfl) ?_
  rw [wtn_is1 h1 h9]
  refine Ev.if_ne 24 dX5_cut_18 (by decide) (fun hcst => ?_) (fun hcst => ?_)
  rotate_left
  · exact absurd hcst (by decide)
  refine Ev.aload_0 dX5_cut_24 rfl ?_
  refine Ev.getf cf5 5 (by decide) wf_X5_16 dX5_cut_25 rfl rfl ?_
  refine Ev.iload_1 dX5_cut_28 rfl ?_
  refine Ev.aldn dX5_cut_29 rfl (by have := ok.2.2.2.1; omega) (by decide) ?_
  refine Ev.ist3 dX5_cut_30 rfl ?_
  refine Ev.aload_0 dX5_cut_31 rfl ?_
  refine Ev.getf cf5 5 (by decide) wf_X5_16 dX5_cut_32 rfl rfl ?_
  refine Ev.iload_1 dX5_cut_35 rfl ?_
  refine Ev.iload_2 dX5_cut_36 rfl ?_
  refine aw_modW_3 dX5_cut_37 (by have := ok.2.2.2.1; omega) ?_
  refine Ev.iload_3 dX5_cut_38 rfl ?_
  refine Ev.iret dX5_cut_39 ?_
  exact ⟨rfl, rfl⟩

set_option maxHeartbeats 4000000 in
set_option maxRecDepth 100000 in
theorem m_build_u {d : Nat} {g : Nat → Int32} {G : Nat → Int64} {F : Nat → Nat → Int32} {V N : Nat} (ok : MOK g F V N) {y : Int32} (hy : ∀ w, w < V → y ≠ nI w) (z : Int32) : Ev (d + 2) yX5_build cX5_build (some .int) 0 [some (.ref 0), some (.int y), some (.int z), none] [] (modW g G F) (Is (some (.int (-101))) (modW g G F)) := by
  refine Ev.aload_0 dX5_build_0 rfl ?_
  refine Ev.iload_1 dX5_build_1 rfl ?_
  refine k_X5_isVillage (m_isVillage_f ok hy) dX5_build_2 wl_X5_195 rfl (Nat.le_of_ble_eq_true rfl) ?_
  refine Ev.if_ne 11 dX5_build_5 (by decide) (fun hcst => ?_) (fun hcst => ?_)
  · exact absurd hcst (by decide)
  refine Ev.bipush (v := -101) dX5_build_8 (by decide) ?_
  refine Ev.iret dX5_build_10 ?_
  exact ⟨rfl, rfl⟩

set_option maxHeartbeats 4000000 in
set_option maxRecDepth 100000 in
theorem m_build_o {d : Nat} {g : Nat → Int32} {G : Nat → Int64} {F : Nat → Nat → Int32} {V N : Nat} (ok : MOK g F V N) {v : Nat} (hv : v < V) {z : Int32} (hz : z < 0 ∨ 9 < z) : Ev (d + 2) yX5_build cX5_build (some .int) 0 [some (.ref 0), some (.int (nI v)), some (.int z), none] [] (modW g G F) (Is (some (.int (-102))) (modW g G F)) := by
  refine Ev.aload_0 dX5_build_0 rfl ?_
  refine Ev.iload_1 dX5_build_1 rfl ?_
  refine k_X5_isVillage (m_isVillage_t ok hv) dX5_build_2 wl_X5_195 rfl (Nat.le_of_ble_eq_true rfl) ?_
  refine Ev.if_ne 11 dX5_build_5 (by decide) (fun hcst => ?_) (fun hcst => ?_)
  rotate_left
  · exact absurd hcst (by decide)
  refine Ev.iload_2 dX5_build_11 rfl ?_
  refine Ev.iconst (v := 0) dX5_build_12 (by decide) ?_
  refine Ev.bipush (v := 9) dX5_build_13 (by decide) ?_
  refine k_X5_within (m_within _ _ _) dX5_build_15 wl_X5_96 (Nat.le_of_ble_eq_true rfl) ?_
  rw [wtn_is0 hz]
  refine Ev.if_ne 24 dX5_build_18 (by decide) (fun hcst => ?_) (fun hcst => ?_)
  · exact absurd hcst (by decide)
  refine Ev.bipush (v := -102) dX5_build_21 (by decide) ?_
  refine Ev.iret dX5_build_23 ?_
  exact ⟨rfl, rfl⟩

set_option maxHeartbeats 4000000 in
set_option maxRecDepth 100000 in
theorem m_build_k {d : Nat} {g : Nat → Int32} {G : Nat → Int64} {F : Nat → Nat → Int32} {V N : Nat} (ok : MOK g F V N) {v : Nat} (hv : v < V) {z : Int32} (h0 : ¬ z < 0) (h9 : ¬ 9 < z) : Ev (d + 2) yX5_build cX5_build (some .int) 0 [some (.ref 0), some (.int (nI v)), some (.int z), none] [] (modW g G F) (Is (some (.int (F 3 v))) (modW g G (up2 F 3 v z))) := by
  refine Ev.aload_0 dX5_build_0 rfl ?_
  refine Ev.iload_1 dX5_build_1 rfl ?_
  refine k_X5_isVillage (m_isVillage_t ok hv) dX5_build_2 wl_X5_195 rfl (Nat.le_of_ble_eq_true rfl) ?_
  refine Ev.if_ne 11 dX5_build_5 (by decide) (fun hcst => ?_) (fun hcst => ?_)
  rotate_left
  · exact absurd hcst (by decide)
  refine Ev.iload_2 dX5_build_11 rfl ?_
  refine Ev.iconst (v := 0) dX5_build_12 (by decide) ?_
  refine Ev.bipush (v := 9) dX5_build_13 (by decide) ?_
  refine k_X5_within (m_within _ _ _) dX5_build_15 wl_X5_96 (Nat.le_of_ble_eq_true rfl) ?_
  rw [wtn_is1 h0 h9]
  refine Ev.if_ne 24 dX5_build_18 (by decide) (fun hcst => ?_) (fun hcst => ?_)
  rotate_left
  · exact absurd hcst (by decide)
  refine Ev.aload_0 dX5_build_24 rfl ?_
  refine Ev.getf cf5 3 (by decide) wf_X5_7 dX5_build_25 rfl rfl ?_
  refine Ev.iload_1 dX5_build_28 rfl ?_
  refine Ev.aldn dX5_build_29 rfl (by have := ok.2.2.1; omega) (by decide) ?_
  refine Ev.ist3 dX5_build_30 rfl ?_
  refine Ev.aload_0 dX5_build_31 rfl ?_
  refine Ev.getf cf5 3 (by decide) wf_X5_7 dX5_build_32 rfl rfl ?_
  refine Ev.iload_1 dX5_build_35 rfl ?_
  refine Ev.iload_2 dX5_build_36 rfl ?_
  refine aw_modW_1 dX5_build_37 (by have := ok.2.2.1; omega) ?_
  refine Ev.iload_3 dX5_build_38 rfl ?_
  refine Ev.iret dX5_build_39 ?_
  exact ⟨rfl, rfl⟩

set_option maxHeartbeats 4000000 in
set_option maxRecDepth 100000 in
theorem m_where_u1 {d : Nat} {g : Nat → Int32} {G : Nat → Int64} {F : Nat → Nat → Int32} {V N : Nat} (ok : MOK g F V N) {x : Int32} (hx : ∀ w, w < N → x ≠ nI w) (y z : Int32) : Ev (d + 2) yX5_where cX5_where (some .int) 0 [some (.ref 0), some (.int x), some (.int y), some (.int z)] [] (modW g G F) (Is (some (.int (-101))) (modW g G F)) := by
  refine Ev.aload_0 dX5_where_0 rfl ?_
  refine Ev.iload_1 dX5_where_1 rfl ?_
  refine k_X5_isWeight (m_isWeight_f ok hx) dX5_where_2 wl_X5_182 rfl (Nat.le_of_ble_eq_true rfl) ?_
  refine Ev.if_eq 16 dX5_where_5 (by decide) (fun hcst => ?_) (fun hcst => ?_)
  rotate_left
  · exact absurd hcst (by decide)
  refine Ev.bipush (v := -101) dX5_where_16 (by decide) ?_
  refine Ev.iret dX5_where_18 ?_
  exact ⟨rfl, rfl⟩

set_option maxHeartbeats 4000000 in
set_option maxRecDepth 100000 in
theorem m_where_u2 {d : Nat} {g : Nat → Int32} {G : Nat → Int64} {F : Nat → Nat → Int32} {V N : Nat} (ok : MOK g F V N) {w : Nat} (hw : w < N) {y : Int32} (hy : ∀ w, w < V → y ≠ nI w) (z : Int32) : Ev (d + 2) yX5_where cX5_where (some .int) 0 [some (.ref 0), some (.int (nI w)), some (.int y), some (.int z)] [] (modW g G F) (Is (some (.int (-101))) (modW g G F)) := by
  refine Ev.aload_0 dX5_where_0 rfl ?_
  refine Ev.iload_1 dX5_where_1 rfl ?_
  refine k_X5_isWeight (m_isWeight_t ok hw) dX5_where_2 wl_X5_182 rfl (Nat.le_of_ble_eq_true rfl) ?_
  refine Ev.if_eq 16 dX5_where_5 (by decide) (fun hcst => ?_) (fun hcst => ?_)
  · exact absurd hcst (by decide)
  refine Ev.aload_0 dX5_where_8 rfl ?_
  refine Ev.iload_2 dX5_where_9 rfl ?_
  refine k_X5_isVillage (m_isVillage_f ok hy) dX5_where_10 wl_X5_195 rfl (Nat.le_of_ble_eq_true rfl) ?_
  refine Ev.if_ne 19 dX5_where_13 (by decide) (fun hcst => ?_) (fun hcst => ?_)
  · exact absurd hcst (by decide)
  refine Ev.bipush (v := -101) dX5_where_16 (by decide) ?_
  refine Ev.iret dX5_where_18 ?_
  exact ⟨rfl, rfl⟩

set_option maxHeartbeats 4000000 in
set_option maxRecDepth 100000 in
theorem m_where_o {d : Nat} {g : Nat → Int32} {G : Nat → Int64} {F : Nat → Nat → Int32} {V N : Nat} (ok : MOK g F V N) {w : Nat} (hw : w < N) {v : Nat} (hv : v < V) {z : Int32} (hz : z < 0 ∨ 1 < z) : Ev (d + 2) yX5_where cX5_where (some .int) 0 [some (.ref 0), some (.int (nI w)), some (.int (nI v)), some (.int z)] [] (modW g G F) (Is (some (.int (-102))) (modW g G F)) := by
  refine Ev.aload_0 dX5_where_0 rfl ?_
  refine Ev.iload_1 dX5_where_1 rfl ?_
  refine k_X5_isWeight (m_isWeight_t ok hw) dX5_where_2 wl_X5_182 rfl (Nat.le_of_ble_eq_true rfl) ?_
  refine Ev.if_eq 16 dX5_where_5 (by decide) (fun hcst => ?_) (fun hcst => ?_)
  · exact absurd hcst (by decide)
  refine Ev.aload_0 dX5_where_8 rfl ?_
  refine Ev.iload_2 dX5_where_9 rfl ?_
  refine k_X5_isVillage (m_isVillage_t ok hv) dX5_where_10 wl_X5_195 rfl (Nat.le_of_ble_eq_true rfl) ?_
  refine Ev.if_ne 19 dX5_where_13 (by decide) (fun hcst => ?_) (fun hcst => ?_)
  rotate_left
  · exact absurd hcst (by decide)
  refine Ev.iload_3 dX5_where_19 rfl ?_
  refine Ev.iconst (v := 0) dX5_where_20 (by decide) ?_
  refine Ev.iconst (v := 1) dX5_where_21 (by decide) ?_
  refine k_X5_within (m_within _ _ _) dX5_where_22 wl_X5_96 (Nat.le_of_ble_eq_true rfl) ?_
  rw [wtn_is0 hz]
  refine Ev.if_eq 38 dX5_where_25 (by decide) (fun hcst => ?_) (fun hcst => ?_)
  rotate_left
  · exact absurd hcst (by decide)
  refine Ev.bipush (v := -102) dX5_where_38 (by decide) ?_
  refine Ev.iret dX5_where_40 ?_
  exact ⟨rfl, rfl⟩

set_option maxHeartbeats 4000000 in
set_option maxRecDepth 100000 in
theorem m_where_0 {d : Nat} {g : Nat → Int32} {G : Nat → Int64} {F : Nat → Nat → Int32} {V N : Nat} (ok : MOK g F V N) {w : Nat} (hw : w < N) {v : Nat} (hv : v < V)  : Ev (d + 5) yX5_where cX5_where (some .int) 0 [some (.ref 0), some (.int (nI w)), some (.int (nI v)), some (.int 0)] [] (modW g G F) (Is (some (.int ((mwh F N w v).1))) (modW g G F)) := by
  refine Ev.aload_0 dX5_where_0 rfl ?_
  refine Ev.iload_1 dX5_where_1 rfl ?_
  refine k_X5_isWeight (m_isWeight_t ok hw) dX5_where_2 wl_X5_182 rfl (Nat.le_of_ble_eq_true rfl) ?_
  refine Ev.if_eq 16 dX5_where_5 (by decide) (fun hcst => ?_) (fun hcst => ?_)
  · exact absurd hcst (by decide)
  refine Ev.aload_0 dX5_where_8 rfl ?_
  refine Ev.iload_2 dX5_where_9 rfl ?_
  refine k_X5_isVillage (m_isVillage_t ok hv) dX5_where_10 wl_X5_195 rfl (Nat.le_of_ble_eq_true rfl) ?_
  refine Ev.if_ne 19 dX5_where_13 (by decide) (fun hcst => ?_) (fun hcst => ?_)
  rotate_left
  · exact absurd hcst (by decide)
  refine Ev.iload_3 dX5_where_19 rfl ?_
  refine Ev.iconst (v := 0) dX5_where_20 (by decide) ?_
  refine Ev.iconst (v := 1) dX5_where_21 (by decide) ?_
  refine k_X5_within (m_within _ _ _) dX5_where_22 wl_X5_96 (Nat.le_of_ble_eq_true rfl) ?_
  rw [show wtn 0 0 1 = 1 from by decide]
  refine Ev.if_eq 38 dX5_where_25 (by decide) (fun hcst => ?_) (fun hcst => ?_)
  · exact absurd hcst (by decide)
  refine Ev.aload_0 dX5_where_28 rfl ?_
  refine Ev.iload_1 dX5_where_29 rfl ?_
  refine Ev.iload_2 dX5_where_30 rfl ?_
  refine Ev.iload_3 dX5_where_31 rfl ?_
  refine k_X5_whereNow (m_whereNow_0 ok hw hv) dX5_where_32 wl_X5_224 rfl (Nat.le_of_ble_eq_true rfl) ?_
  refine Ev.goto 40 dX5_where_35 (by decide) ?_
  refine Ev.iret dX5_where_40 ?_
  exact ⟨rfl, rfl⟩

set_option maxHeartbeats 4000000 in
set_option maxRecDepth 100000 in
theorem m_where_1 {d : Nat} {g : Nat → Int32} {G : Nat → Int64} {F : Nat → Nat → Int32} {V N : Nat} (ok : MOK g F V N) {w : Nat} (hw : w < N) {v : Nat} (hv : v < V)  : Ev (d + 5) yX5_where cX5_where (some .int) 0 [some (.ref 0), some (.int (nI w)), some (.int (nI v)), some (.int 1)] [] (modW g G F) (Is (some (.int ((mwh F N w v).2))) (modW g G F)) := by
  refine Ev.aload_0 dX5_where_0 rfl ?_
  refine Ev.iload_1 dX5_where_1 rfl ?_
  refine k_X5_isWeight (m_isWeight_t ok hw) dX5_where_2 wl_X5_182 rfl (Nat.le_of_ble_eq_true rfl) ?_
  refine Ev.if_eq 16 dX5_where_5 (by decide) (fun hcst => ?_) (fun hcst => ?_)
  · exact absurd hcst (by decide)
  refine Ev.aload_0 dX5_where_8 rfl ?_
  refine Ev.iload_2 dX5_where_9 rfl ?_
  refine k_X5_isVillage (m_isVillage_t ok hv) dX5_where_10 wl_X5_195 rfl (Nat.le_of_ble_eq_true rfl) ?_
  refine Ev.if_ne 19 dX5_where_13 (by decide) (fun hcst => ?_) (fun hcst => ?_)
  rotate_left
  · exact absurd hcst (by decide)
  refine Ev.iload_3 dX5_where_19 rfl ?_
  refine Ev.iconst (v := 0) dX5_where_20 (by decide) ?_
  refine Ev.iconst (v := 1) dX5_where_21 (by decide) ?_
  refine k_X5_within (m_within _ _ _) dX5_where_22 wl_X5_96 (Nat.le_of_ble_eq_true rfl) ?_
  rw [show wtn 1 0 1 = 1 from by decide]
  refine Ev.if_eq 38 dX5_where_25 (by decide) (fun hcst => ?_) (fun hcst => ?_)
  · exact absurd hcst (by decide)
  refine Ev.aload_0 dX5_where_28 rfl ?_
  refine Ev.iload_1 dX5_where_29 rfl ?_
  refine Ev.iload_2 dX5_where_30 rfl ?_
  refine Ev.iload_3 dX5_where_31 rfl ?_
  refine k_X5_whereNow (m_whereNow_1 ok hw hv) dX5_where_32 wl_X5_224 rfl (Nat.le_of_ble_eq_true rfl) ?_
  refine Ev.goto 40 dX5_where_35 (by decide) ?_
  refine Ev.iret dX5_where_40 ?_
  exact ⟨rfl, rfl⟩

set_option maxHeartbeats 4000000 in
set_option maxRecDepth 100000 in
theorem m_mend_s {d : Nat} {g : Nat → Int32} {G : Nat → Int64} {F : Nat → Nat → Int32} {N : Nat} (ok : MOK g F 0 N)  : Ev (d + 1) yX5_mend cX5_mend (some .int) 0 [some (.ref 0)] [] (modW g G F) (Is (some (.int (-103))) (modW g G F)) := by
  refine Ev.aload_0 dX5_mend_0 rfl ?_
  refine Ev.getf cf5 1 (by decide) wf_X5_131 dX5_mend_1 rfl rfl ?_
  refine Ev.if_ne 12 dX5_mend_4 (by decide) (fun h4 => ?_) (fun h4 => ?_)
  · exact absurd (show g 1 = 0 from ok.1) h4
  refine Ev.bipush (v := -103) dX5_mend_7 (by decide) ?_
  refine Ev.goto 16 dX5_mend_9 (by decide) ?_
  refine Ev.iret dX5_mend_16 ?_
  exact ⟨rfl, rfl⟩

set_option maxHeartbeats 4000000 in
set_option maxRecDepth 100000 in
theorem m_mend_k {d : Nat} {g : Nat → Int32} {G : Nat → Int64} {F : Nat → Nat → Int32} {V N : Nat} (ok : MOK g F V N) (hV : 0 < V)  : Ev (d + 6) yX5_mend cX5_mend (some .int) 0 [some (.ref 0)] [] (modW g G F) (Is (some (.int (mmd F V N))) (modW g G F)) := by
  refine Ev.aload_0 dX5_mend_0 rfl ?_
  refine Ev.getf cf5 1 (by decide) wf_X5_131 dX5_mend_1 rfl rfl ?_
  refine Ev.if_ne 12 dX5_mend_4 (by decide) (fun h4 => ?_) (fun h4 => ?_)
  · refine Ev.aload_0 dX5_mend_12 rfl ?_
    refine k_X5_mendNow (m_mendNow ok) dX5_mend_13 wl_X5_262 rfl (Nat.le_of_ble_eq_true rfl) ?_
    refine Ev.iret dX5_mend_16 ?_
    exact ⟨rfl, rfl⟩
  · exact absurd h4 (by rw [ok.1]; exact nI_ne0 hV (by have := ok.2.2.1; omega))

set_option maxHeartbeats 4000000 in
set_option maxRecDepth 100000 in
theorem m_odds_o1 {d : Nat} {g : Nat → Int32} {G : Nat → Int64} {F : Nat → Nat → Int32} {x y : Int32} (hx : x < 1 ∨ 4 < x) : Ev (d + 1) yX5_odds cX5_odds (some .int) 0 [some (.ref 0), some (.int x), some (.int y)] [] (modW g G F) (Is (some (.int (-102))) (modW g G F)) := by
  refine Ev.iload_1 dX5_odds_0 rfl ?_
  refine Ev.iconst (v := 1) dX5_odds_1 (by decide) ?_
  refine Ev.iconst (v := 4) dX5_odds_2 (by decide) ?_
  refine k_X5_within (m_within _ _ _) dX5_odds_3 wl_X5_96 (Nat.le_of_ble_eq_true rfl) ?_
  rw [wtn_is0 hx]
  refine Ev.if_eq 18 dX5_odds_6 (by decide) (fun hcst => ?_) (fun hcst => ?_)
  rotate_left
  · exact absurd hcst (by decide)
  refine Ev.bipush (v := -102) dX5_odds_18 (by decide) ?_
  refine Ev.iret dX5_odds_20 ?_
  exact ⟨rfl, rfl⟩

set_option maxHeartbeats 4000000 in
set_option maxRecDepth 100000 in
theorem m_odds_o2 {d : Nat} {g : Nat → Int32} {G : Nat → Int64} {F : Nat → Nat → Int32} {a : Nat} (ha : 1 ≤ a) (ha4 : a ≤ 4) {y : Int32} (hy : y < 0 ∨ 1 < y) : Ev (d + 1) yX5_odds cX5_odds (some .int) 0 [some (.ref 0), some (.int (nI a)), some (.int y)] [] (modW g G F) (Is (some (.int (-102))) (modW g G F)) := by
  refine Ev.iload_1 dX5_odds_0 rfl ?_
  refine Ev.iconst (v := 1) dX5_odds_1 (by decide) ?_
  refine Ev.iconst (v := 4) dX5_odds_2 (by decide) ?_
  refine k_X5_within (m_within _ _ _) dX5_odds_3 wl_X5_96 (Nat.le_of_ble_eq_true rfl) ?_
  rw [show wtn (nI a) 1 4 = 1 from wtn_is1 (lp_gt (x := nI a) (N := a) rfl (k := 1) ha (by omega)) (lp_gt (x := 4) (N := 4) rfl ha4 (by omega))]
  refine Ev.if_eq 18 dX5_odds_6 (by decide) (fun hcst => ?_) (fun hcst => ?_)
  · exact absurd hcst (by decide)
  refine Ev.iload_2 dX5_odds_9 rfl ?_
  refine Ev.iconst (v := 0) dX5_odds_10 (by decide) ?_
  refine Ev.iconst (v := 1) dX5_odds_11 (by decide) ?_
  refine k_X5_within (m_within _ _ _) dX5_odds_12 wl_X5_96 (Nat.le_of_ble_eq_true rfl) ?_
  rw [wtn_is0 hy]
  refine Ev.if_ne 21 dX5_odds_15 (by decide) (fun hcst => ?_) (fun hcst => ?_)
  · exact absurd hcst (by decide)
  refine Ev.bipush (v := -102) dX5_odds_18 (by decide) ?_
  refine Ev.iret dX5_odds_20 ?_
  exact ⟨rfl, rfl⟩

set_option maxHeartbeats 4000000 in
set_option maxRecDepth 100000 in
theorem m_odds_s {d : Nat} {g : Nat → Int32} {G : Nat → Int64} {F : Nat → Nat → Int32} {N : Nat} (ok : MOK g F 0 N) {a : Nat} (ha : 1 ≤ a) (ha4 : a ≤ 4) {y : Int32} (h0 : ¬ y < 0) (h1 : ¬ 1 < y) : Ev (d + 1) yX5_odds cX5_odds (some .int) 0 [some (.ref 0), some (.int (nI a)), some (.int y)] [] (modW g G F) (Is (some (.int (-103))) (modW g G F)) := by
  refine Ev.iload_1 dX5_odds_0 rfl ?_
  refine Ev.iconst (v := 1) dX5_odds_1 (by decide) ?_
  refine Ev.iconst (v := 4) dX5_odds_2 (by decide) ?_
  refine k_X5_within (m_within _ _ _) dX5_odds_3 wl_X5_96 (Nat.le_of_ble_eq_true rfl) ?_
  rw [show wtn (nI a) 1 4 = 1 from wtn_is1 (lp_gt (x := nI a) (N := a) rfl (k := 1) ha (by omega)) (lp_gt (x := 4) (N := 4) rfl ha4 (by omega))]
  refine Ev.if_eq 18 dX5_odds_6 (by decide) (fun hcst => ?_) (fun hcst => ?_)
  · exact absurd hcst (by decide)
  refine Ev.iload_2 dX5_odds_9 rfl ?_
  refine Ev.iconst (v := 0) dX5_odds_10 (by decide) ?_
  refine Ev.iconst (v := 1) dX5_odds_11 (by decide) ?_
  refine k_X5_within (m_within _ _ _) dX5_odds_12 wl_X5_96 (Nat.le_of_ble_eq_true rfl) ?_
  rw [wtn_is1 h0 h1]
  refine Ev.if_ne 21 dX5_odds_15 (by decide) (fun hcst => ?_) (fun hcst => ?_)
  rotate_left
  · exact absurd hcst (by decide)
  refine Ev.aload_0 dX5_odds_21 rfl ?_
  refine Ev.getf cf5 1 (by decide) wf_X5_131 dX5_odds_22 rfl rfl ?_
  refine Ev.if_ne 33 dX5_odds_25 (by decide) (fun h25 => ?_) (fun h25 => ?_)
  · exact absurd (show g 1 = 0 from ok.1) h25
  refine Ev.bipush (v := -103) dX5_odds_28 (by decide) ?_
  refine Ev.goto 39 dX5_odds_30 (by decide) ?_
  refine Ev.iret dX5_odds_39 ?_
  exact ⟨rfl, rfl⟩

set_option maxHeartbeats 4000000 in
set_option maxRecDepth 100000 in
theorem m_oddsP_0 {d : Nat} {g : Nat → Int32} {G : Nat → Int64} {F : Nat → Nat → Int32} {V N : Nat} (ok : MOK g F V N) (hV : 0 < V) {a : Nat} (ha : 1 ≤ a) (ha4 : a ≤ 4) {gd : Nat} (hg : gdF (vM F) V N 10 0 0 = nI gd) (hg2 : gd ≤ 20) : Ev (d + 5) yX5_odds cX5_odds (some .int) 0 [some (.ref 0), some (.int (nI a)), some (.int 0)] [] (modW g G F) (Is (some (.int (nI (gd ^ a / Nat.gcd (gd ^ a) (20 ^ a))))) (modW g G F)) := by
  refine Ev.iload_1 dX5_odds_0 rfl ?_
  refine Ev.iconst (v := 1) dX5_odds_1 (by decide) ?_
  refine Ev.iconst (v := 4) dX5_odds_2 (by decide) ?_
  refine k_X5_within (m_within _ _ _) dX5_odds_3 wl_X5_96 (Nat.le_of_ble_eq_true rfl) ?_
  rw [show wtn (nI a) 1 4 = 1 from wtn_is1 (lp_gt (x := nI a) (N := a) rfl (k := 1) ha (by omega)) (lp_gt (x := 4) (N := 4) rfl ha4 (by omega))]
  refine Ev.if_eq 18 dX5_odds_6 (by decide) (fun hcst => ?_) (fun hcst => ?_)
  · exact absurd hcst (by decide)
  refine Ev.iload_2 dX5_odds_9 rfl ?_
  refine Ev.iconst (v := 0) dX5_odds_10 (by decide) ?_
  refine Ev.iconst (v := 1) dX5_odds_11 (by decide) ?_
  refine k_X5_within (m_within _ _ _) dX5_odds_12 wl_X5_96 (Nat.le_of_ble_eq_true rfl) ?_
  rw [show wtn 0 0 1 = 1 from by decide]
  refine Ev.if_ne 21 dX5_odds_15 (by decide) (fun hcst => ?_) (fun hcst => ?_)
  rotate_left
  · exact absurd hcst (by decide)
  refine Ev.aload_0 dX5_odds_21 rfl ?_
  refine Ev.getf cf5 1 (by decide) wf_X5_131 dX5_odds_22 rfl rfl ?_
  refine Ev.if_ne 33 dX5_odds_25 (by decide) (fun h25 => ?_) (fun h25 => ?_)
  · refine Ev.aload_0 dX5_odds_33 rfl ?_
    refine Ev.iload_1 dX5_odds_34 rfl ?_
    refine Ev.iload_2 dX5_odds_35 rfl ?_
    refine k_X5_oddsNow (m_oddsNow_0 ok ha4 hg hg2) dX5_odds_36 wl_X5_271 rfl (Nat.le_of_ble_eq_true rfl) ?_
    refine Ev.iret dX5_odds_39 ?_
    exact ⟨rfl, rfl⟩
  · exact absurd h25 (by rw [ok.1]; exact nI_ne0 hV (by have := ok.2.2.1; omega))

set_option maxHeartbeats 4000000 in
set_option maxRecDepth 100000 in
theorem m_oddsP_1 {d : Nat} {g : Nat → Int32} {G : Nat → Int64} {F : Nat → Nat → Int32} {V N : Nat} (ok : MOK g F V N) (hV : 0 < V) {a : Nat} (ha : 1 ≤ a) (ha4 : a ≤ 4) {gd : Nat} (hg : gdF (vM F) V N 10 0 0 = nI gd) (hg2 : gd ≤ 20) : Ev (d + 5) yX5_odds cX5_odds (some .int) 0 [some (.ref 0), some (.int (nI a)), some (.int 1)] [] (modW g G F) (Is (some (.int (nI (20 ^ a / Nat.gcd (gd ^ a) (20 ^ a))))) (modW g G F)) := by
  refine Ev.iload_1 dX5_odds_0 rfl ?_
  refine Ev.iconst (v := 1) dX5_odds_1 (by decide) ?_
  refine Ev.iconst (v := 4) dX5_odds_2 (by decide) ?_
  refine k_X5_within (m_within _ _ _) dX5_odds_3 wl_X5_96 (Nat.le_of_ble_eq_true rfl) ?_
  rw [show wtn (nI a) 1 4 = 1 from wtn_is1 (lp_gt (x := nI a) (N := a) rfl (k := 1) ha (by omega)) (lp_gt (x := 4) (N := 4) rfl ha4 (by omega))]
  refine Ev.if_eq 18 dX5_odds_6 (by decide) (fun hcst => ?_) (fun hcst => ?_)
  · exact absurd hcst (by decide)
  refine Ev.iload_2 dX5_odds_9 rfl ?_
  refine Ev.iconst (v := 0) dX5_odds_10 (by decide) ?_
  refine Ev.iconst (v := 1) dX5_odds_11 (by decide) ?_
  refine k_X5_within (m_within _ _ _) dX5_odds_12 wl_X5_96 (Nat.le_of_ble_eq_true rfl) ?_
  rw [show wtn 1 0 1 = 1 from by decide]
  refine Ev.if_ne 21 dX5_odds_15 (by decide) (fun hcst => ?_) (fun hcst => ?_)
  rotate_left
  · exact absurd hcst (by decide)
  refine Ev.aload_0 dX5_odds_21 rfl ?_
  refine Ev.getf cf5 1 (by decide) wf_X5_131 dX5_odds_22 rfl rfl ?_
  refine Ev.if_ne 33 dX5_odds_25 (by decide) (fun h25 => ?_) (fun h25 => ?_)
  · refine Ev.aload_0 dX5_odds_33 rfl ?_
    refine Ev.iload_1 dX5_odds_34 rfl ?_
    refine Ev.iload_2 dX5_odds_35 rfl ?_
    refine k_X5_oddsNow (m_oddsNow_1 ok ha4 hg hg2) dX5_odds_36 wl_X5_271 rfl (Nat.le_of_ble_eq_true rfl) ?_
    refine Ev.iret dX5_odds_39 ?_
    exact ⟨rfl, rfl⟩
  · exact absurd h25 (by rw [ok.1]; exact nI_ne0 hV (by have := ok.2.2.1; omega))

set_option maxHeartbeats 4000000 in
set_option maxRecDepth 100000 in
theorem m_see_u {d : Nat} {g : Nat → Int32} {G : Nat → Int64} {F : Nat → Nat → Int32} {V N : Nat} (ok : MOK g F V N) {x : Int32} (hx : ∀ w, w < N → x ≠ nI w) (p q z : Int32) : Ev (d + 2) yX5_see cX5_see (some .int) 0 [some (.ref 0), some (.int x), some (.int p), some (.int q), some (.int z)] [] (modW g G F) (Is (some (.int (-101))) (modW g G F)) := by
  refine Ev.aload_0 dX5_see_0 rfl ?_
  refine Ev.iload_1 dX5_see_1 rfl ?_
  refine k_X5_isWeight (m_isWeight_f ok hx) dX5_see_2 wl_X5_182 rfl (Nat.le_of_ble_eq_true rfl) ?_
  refine Ev.if_ne 11 dX5_see_5 (by decide) (fun hcst => ?_) (fun hcst => ?_)
  · exact absurd hcst (by decide)
  refine Ev.bipush (v := -101) dX5_see_8 (by decide) ?_
  refine Ev.iret dX5_see_10 ?_
  exact ⟨rfl, rfl⟩

set_option maxHeartbeats 4000000 in
set_option maxRecDepth 100000 in
theorem m_see_o {d : Nat} {g : Nat → Int32} {G : Nat → Int64} {F : Nat → Nat → Int32} {V N : Nat} (ok : MOK g F V N) {w : Nat} (hw : w < N) {p q : Int32} (hpq : ∀ a b, a < 2 → b < 100 → ¬ (p = nI a ∧ q = nI b)) (z : Int32) : Ev (d + 2) yX5_see cX5_see (some .int) 0 [some (.ref 0), some (.int (nI w)), some (.int p), some (.int q), some (.int z)] [] (modW g G F) (Is (some (.int (-102))) (modW g G F)) := by
  refine Ev.aload_0 dX5_see_0 rfl ?_
  refine Ev.iload_1 dX5_see_1 rfl ?_
  refine k_X5_isWeight (m_isWeight_t ok hw) dX5_see_2 wl_X5_182 rfl (Nat.le_of_ble_eq_true rfl) ?_
  refine Ev.if_ne 11 dX5_see_5 (by decide) (fun hcst => ?_) (fun hcst => ?_)
  rotate_left
  · exact absurd hcst (by decide)
  refine Ev.iload_2 dX5_see_11 rfl ?_
  refine Ev.iload_3 dX5_see_12 rfl ?_
  refine k_X5_isWind (m_isWind_f hpq) dX5_see_13 wl_X5_201 (Nat.le_of_ble_eq_true rfl) ?_
  refine Ev.if_ne 22 dX5_see_16 (by decide) (fun hcst => ?_) (fun hcst => ?_)
  · exact absurd hcst (by decide)
  refine Ev.bipush (v := -102) dX5_see_19 (by decide) ?_
  refine Ev.iret dX5_see_21 ?_
  exact ⟨rfl, rfl⟩

set_option maxHeartbeats 4000000 in
set_option maxRecDepth 100000 in
theorem m_see_f {d : Nat} {g : Nat → Int32} {G : Nat → Int64} {F : Nat → Nat → Int32} {V N : Nat} (ok : MOK g F V N) {w : Nat} (hw : w < N) {a b : Nat} (ha : a < 2) (hb : b < 100) (hK : g 13 = nI 8) (z : Int32) : Ev (d + 2) yX5_see cX5_see (some .int) 0 [some (.ref 0), some (.int (nI w)), some (.int (nI a)), some (.int (nI b)), some (.int z)] [] (modW g G F) (Is (some (.int (-104))) (modW g G F)) := by
  refine Ev.aload_0 dX5_see_0 rfl ?_
  refine Ev.iload_1 dX5_see_1 rfl ?_
  refine k_X5_isWeight (m_isWeight_t ok hw) dX5_see_2 wl_X5_182 rfl (Nat.le_of_ble_eq_true rfl) ?_
  refine Ev.if_ne 11 dX5_see_5 (by decide) (fun hcst => ?_) (fun hcst => ?_)
  rotate_left
  · exact absurd hcst (by decide)
  refine Ev.iload_2 dX5_see_11 rfl ?_
  refine Ev.iload_3 dX5_see_12 rfl ?_
  refine k_X5_isWind (m_isWind_t ha hb) dX5_see_13 wl_X5_201 (Nat.le_of_ble_eq_true rfl) ?_
  refine Ev.if_ne 22 dX5_see_16 (by decide) (fun hcst => ?_) (fun hcst => ?_)
  rotate_left
  · exact absurd hcst (by decide)
  refine Ev.aload_0 dX5_see_22 rfl ?_
  refine Ev.getf cf5 13 (by decide) wf_X5_149 dX5_see_23 rfl rfl ?_
  refine Ev.bipush (v := 8) dX5_see_26 (by decide) ?_
  refine Ev.icmp_ne 34 dX5_see_28 (by decide) (fun h28 => ?_) (fun h28 => ?_)
  · exact absurd hK h28
  refine Ev.bipush (v := -104) dX5_see_31 (by decide) ?_
  refine Ev.iret dX5_see_33 ?_
  exact ⟨rfl, rfl⟩

set_option maxHeartbeats 4000000 in
set_option maxRecDepth 100000 in
theorem m_see_k {d : Nat} {g : Nat → Int32} {G : Nat → Int64} {F : Nat → Nat → Int32} {V N : Nat} (ok : MOK g F V N) {w : Nat} (hw : w < N) {a b : Nat} (ha : a < 2) (hb : b < 100) {K : Nat} (hK : g 13 = nI K) (h8 : K < 8) (z : Int32) : Ev (d + 2) yX5_see cX5_see (some .int) 0 [some (.ref 0), some (.int (nI w)), some (.int (nI a)), some (.int (nI b)), some (.int z)] [] (modW g G F) (Is (some (.int (nI (K + 1)))) (modW (upd g 13 (nI (K + 1))) G (up2 (up2 (up2 (up2 F 14 K (nI w)) 15 K (nI a)) 16 K (nI b)) 17 K (if z = 0 then 0 else 1)))) := by
  refine Ev.aload_0 dX5_see_0 rfl ?_
  refine Ev.iload_1 dX5_see_1 rfl ?_
  refine k_X5_isWeight (m_isWeight_t ok hw) dX5_see_2 wl_X5_182 rfl (Nat.le_of_ble_eq_true rfl) ?_
  refine Ev.if_ne 11 dX5_see_5 (by decide) (fun hcst => ?_) (fun hcst => ?_)
  rotate_left
  · exact absurd hcst (by decide)
  refine Ev.iload_2 dX5_see_11 rfl ?_
  refine Ev.iload_3 dX5_see_12 rfl ?_
  refine k_X5_isWind (m_isWind_t ha hb) dX5_see_13 wl_X5_201 (Nat.le_of_ble_eq_true rfl) ?_
  refine Ev.if_ne 22 dX5_see_16 (by decide) (fun hcst => ?_) (fun hcst => ?_)
  rotate_left
  · exact absurd hcst (by decide)
  refine Ev.aload_0 dX5_see_22 rfl ?_
  refine Ev.getf cf5 13 (by decide) wf_X5_149 dX5_see_23 rfl rfl ?_
  refine Ev.bipush (v := 8) dX5_see_26 (by decide) ?_
  refine Ev.icmp_ne 34 dX5_see_28 (by decide) (fun h28 => ?_) (fun h28 => ?_)
  · refine Ev.aload_0 dX5_see_34 rfl ?_
    refine Ev.getf cf5 14 (by decide) wf_X5_28 dX5_see_35 rfl rfl ?_
    refine Ev.aload_0 dX5_see_38 rfl ?_
    refine Ev.getf cf5 13 (by decide) wf_X5_149 dX5_see_39 rfl rfl ?_
    rw [hK]
    refine Ev.iload_1 dX5_see_42 rfl ?_
    refine aw_modW_7 dX5_see_43 (by omega) ?_
    refine Ev.aload_0 dX5_see_44 rfl ?_
    refine Ev.getf cf5 15 (by decide) wf_X5_31 dX5_see_45 rfl rfl ?_
    refine Ev.aload_0 dX5_see_48 rfl ?_
    refine Ev.getf cf5 13 (by decide) wf_X5_149 dX5_see_49 rfl rfl ?_
    rw [hK]
    refine Ev.iload_2 dX5_see_52 rfl ?_
    refine aw_modW_8 dX5_see_53 (by omega) ?_
    refine Ev.aload_0 dX5_see_54 rfl ?_
    refine Ev.getf cf5 16 (by decide) wf_X5_34 dX5_see_55 rfl rfl ?_
    refine Ev.aload_0 dX5_see_58 rfl ?_
    refine Ev.getf cf5 13 (by decide) wf_X5_149 dX5_see_59 rfl rfl ?_
    rw [hK]
    refine Ev.iload_3 dX5_see_62 rfl ?_
    refine aw_modW_9 dX5_see_63 (by omega) ?_
    refine Ev.aload_0 dX5_see_64 rfl ?_
    refine Ev.getf cf5 17 (by decide) wf_X5_37 dX5_see_65 rfl rfl ?_
    refine Ev.aload_0 dX5_see_68 rfl ?_
    refine Ev.getf cf5 13 (by decide) wf_X5_149 dX5_see_69 rfl rfl ?_
    rw [hK]
    refine Ev.iload dX5_see_72 rfl ?_
    refine Ev.if_eq 81 dX5_see_74 (by decide) (fun h74 => ?_) (fun h74 => ?_)
    · refine Ev.iconst (v := 0) dX5_see_81 (by decide) ?_
      refine aw_modW_10 dX5_see_82 (by omega) ?_
      refine Ev.aload_0 dX5_see_83 rfl ?_
      refine Ev.dup dX5_see_84 rfl ?_
      refine Ev.getf cf5 13 (by decide) wf_X5_149 dX5_see_85 rfl rfl ?_
      refine Ev.iconst (v := 1) dX5_see_88 (by decide) ?_
      refine Ev.iadd dX5_see_89 ?_
      rw [hK, nI_1]
      refine pw_modW_0_13 dX5_see_90 wf_X5_149 ?_
      refine Ev.aload_0 dX5_see_93 rfl ?_
      refine Ev.getf cf5 13 (by decide) wf_X5_149 dX5_see_94 rfl rfl ?_
      refine Ev.iret dX5_see_97 ?_
      exact ⟨rfl, by simp [*]⟩
    refine Ev.iconst (v := 1) dX5_see_77 (by decide) ?_
    refine Ev.goto 82 dX5_see_78 (by decide) ?_
    refine aw_modW_10 dX5_see_82 (by omega) ?_
    refine Ev.aload_0 dX5_see_83 rfl ?_
    refine Ev.dup dX5_see_84 rfl ?_
    refine Ev.getf cf5 13 (by decide) wf_X5_149 dX5_see_85 rfl rfl ?_
    refine Ev.iconst (v := 1) dX5_see_88 (by decide) ?_
    refine Ev.iadd dX5_see_89 ?_
    rw [hK, nI_1]
    refine pw_modW_0_13 dX5_see_90 wf_X5_149 ?_
    refine Ev.aload_0 dX5_see_93 rfl ?_
    refine Ev.getf cf5 13 (by decide) wf_X5_149 dX5_see_94 rfl rfl ?_
    refine Ev.iret dX5_see_97 ?_
    exact ⟨rfl, by simp [*]⟩
  · exact absurd (hK.symm.trans h28) (fun q => absurd ((nI_eq (a := K) (b := 8) (by omega) (by decide)).mp q) (by omega))

set_option maxHeartbeats 4000000 in
set_option maxRecDepth 100000 in
theorem m_forget {d : Nat} {g : Nat → Int32} {G : Nat → Int64} {F : Nat → Nat → Int32}  : Ev d yX5_forget cX5_forget (some .int) 0 [some (.ref 0), none] [] (modW g G F) (Is (some (.int (g 13))) (modW (upd g 13 0) G F)) := by
  refine Ev.aload_0 dX5_forget_0 rfl ?_
  refine Ev.getf cf5 13 (by decide) wf_X5_149 dX5_forget_1 rfl rfl ?_
  refine Ev.ist1 dX5_forget_4 rfl ?_
  refine Ev.aload_0 dX5_forget_5 rfl ?_
  refine Ev.iconst (v := 0) dX5_forget_6 (by decide) ?_
  refine pw_modW_0_13 dX5_forget_7 wf_X5_149 ?_
  refine Ev.iload_1 dX5_forget_10 rfl ?_
  refine Ev.iret dX5_forget_11 ?_
  exact ⟨rfl, rfl⟩

set_option maxHeartbeats 4000000 in
set_option maxRecDepth 100000 in
theorem m_howMany_0 {d : Nat} {g : Nat → Int32} {G : Nat → Int64} {F : Nat → Nat → Int32} {V N : Nat} (ok : MOK g F V N)  : Ev (d + 5) yX5_howMany cX5_howMany (some .int) 0 [some (.ref 0), some (.int 0)] [] (modW g G F) (Is (some (.int (g 1))) (modW g G F)) := by
  refine Ev.iload_1 dX5_howMany_0 rfl ?_
  refine Ev.tableIn 64 dX5_howMany_1 (by decide) (by decide) rfl (by decide) ?_
  refine Ev.aload_0 dX5_howMany_64 rfl ?_
  refine Ev.getf cf5 1 (by decide) wf_X5_131 dX5_howMany_65 rfl rfl ?_
  refine Ev.iret dX5_howMany_68 ?_
  exact ⟨rfl, rfl⟩

set_option maxHeartbeats 4000000 in
set_option maxRecDepth 100000 in
theorem m_howMany_1 {d : Nat} {g : Nat → Int32} {G : Nat → Int64} {F : Nat → Nat → Int32} {V N : Nat} (ok : MOK g F V N)  : Ev (d + 5) yX5_howMany cX5_howMany (some .int) 0 [some (.ref 0), some (.int 1)] [] (modW g G F) (Is (some (.int (g 2))) (modW g G F)) := by
  refine Ev.iload_1 dX5_howMany_0 rfl ?_
  refine Ev.tableIn 69 dX5_howMany_1 (by decide) (by decide) rfl (by decide) ?_
  refine Ev.aload_0 dX5_howMany_69 rfl ?_
  refine Ev.getf cf5 2 (by decide) wf_X5_134 dX5_howMany_70 rfl rfl ?_
  refine Ev.iret dX5_howMany_73 ?_
  exact ⟨rfl, rfl⟩

set_option maxHeartbeats 4000000 in
set_option maxRecDepth 100000 in
theorem m_howMany_2 {d : Nat} {g : Nat → Int32} {G : Nat → Int64} {F : Nat → Nat → Int32} {V N : Nat} (ok : MOK g F V N)  : Ev (d + 5) yX5_howMany cX5_howMany (some .int) 0 [some (.ref 0), some (.int 2)] [] (modW g G F) (Is (some (.int (pnF (vM F) N 0 0))) (modW g G F)) := by
  refine Ev.iload_1 dX5_howMany_0 rfl ?_
  refine Ev.tableIn 74 dX5_howMany_1 (by decide) (by decide) rfl (by decide) ?_
  refine Ev.aload_0 dX5_howMany_74 rfl ?_
  refine k_X5_onPlain (m_onPlain ok) dX5_howMany_75 wl_X5_297 rfl (Nat.le_of_ble_eq_true rfl) ?_
  refine Ev.iret dX5_howMany_78 ?_
  exact ⟨rfl, rfl⟩

set_option maxHeartbeats 4000000 in
set_option maxRecDepth 100000 in
theorem m_howMany_3 {d : Nat} {g : Nat → Int32} {G : Nat → Int64} {F : Nat → Nat → Int32} {V N : Nat} (ok : MOK g F V N)  : Ev (d + 5) yX5_howMany cX5_howMany (some .int) 0 [some (.ref 0), some (.int 3)] [] (modW g G F) (Is (some (.int (os (vM F) N 31))) (modW g G F)) := by
  refine Ev.iload_1 dX5_howMany_0 rfl ?_
  refine Ev.tableIn 79 dX5_howMany_1 (by decide) (by decide) rfl (by decide) ?_
  refine Ev.aload_0 dX5_howMany_79 rfl ?_
  refine Ev.bipush (v := 31) dX5_howMany_80 (by decide) ?_
  refine k_X5_ouncesIn (m_ouncesIn ok 31) dX5_howMany_82 wl_X5_192 rfl (Nat.le_of_ble_eq_true rfl) ?_
  refine Ev.iret dX5_howMany_85 ?_
  exact ⟨rfl, rfl⟩

set_option maxHeartbeats 4000000 in
set_option maxRecDepth 100000 in
theorem m_howMany_4 {d : Nat} {g : Nat → Int32} {G : Nat → Int64} {F : Nat → Nat → Int32} {V N : Nat} (ok : MOK g F V N)  : Ev (d + 5) yX5_howMany cX5_howMany (some .int) 0 [some (.ref 0), some (.int 4)] [] (modW g G F) (Is (some (.int (mla (vM F) V N))) (modW g G F)) := by
  refine Ev.iload_1 dX5_howMany_0 rfl ?_
  refine Ev.tableIn 86 dX5_howMany_1 (by decide) (by decide) rfl (by decide) ?_
  refine Ev.aload_0 dX5_howMany_86 rfl ?_
  refine k_X5_leastOfAll (m_leastOfAll ok) dX5_howMany_87 wl_X5_259 rfl (Nat.le_of_ble_eq_true rfl) ?_
  refine Ev.iret dX5_howMany_90 ?_
  exact ⟨rfl, rfl⟩

set_option maxHeartbeats 4000000 in
set_option maxRecDepth 100000 in
theorem m_howMany_5 {d : Nat} {g : Nat → Int32} {G : Nat → Int64} {F : Nat → Nat → Int32} {V N : Nat} (ok : MOK g F V N)  : Ev (d + 5) yX5_howMany cX5_howMany (some .int) 0 [some (.ref 0), some (.int 5)] [] (modW g G F) (Is (some (.int (g 9))) (modW g G F)) := by
  refine Ev.iload_1 dX5_howMany_0 rfl ?_
  refine Ev.tableIn 91 dX5_howMany_1 (by decide) (by decide) rfl (by decide) ?_
  refine Ev.aload_0 dX5_howMany_91 rfl ?_
  refine Ev.getf cf5 9 (by decide) wf_X5_137 dX5_howMany_92 rfl rfl ?_
  refine Ev.iret dX5_howMany_95 ?_
  exact ⟨rfl, rfl⟩

set_option maxHeartbeats 4000000 in
set_option maxRecDepth 100000 in
theorem m_howMany_6 {d : Nat} {g : Nat → Int32} {G : Nat → Int64} {F : Nat → Nat → Int32} {V N : Nat} (ok : MOK g F V N)  : Ev (d + 5) yX5_howMany cX5_howMany (some .int) 0 [some (.ref 0), some (.int 6)] [] (modW g G F) (Is (some (.int (g 10))) (modW g G F)) := by
  refine Ev.iload_1 dX5_howMany_0 rfl ?_
  refine Ev.tableIn 96 dX5_howMany_1 (by decide) (by decide) rfl (by decide) ?_
  refine Ev.aload_0 dX5_howMany_96 rfl ?_
  refine Ev.getf cf5 10 (by decide) wf_X5_140 dX5_howMany_97 rfl rfl ?_
  refine Ev.iret dX5_howMany_100 ?_
  exact ⟨rfl, rfl⟩

set_option maxHeartbeats 4000000 in
set_option maxRecDepth 100000 in
theorem m_howMany_7 {d : Nat} {g : Nat → Int32} {G : Nat → Int64} {F : Nat → Nat → Int32} {V N : Nat} (ok : MOK g F V N)  : Ev (d + 5) yX5_howMany cX5_howMany (some .int) 0 [some (.ref 0), some (.int 7)] [] (modW g G F) (Is (some (.int (g 11))) (modW g G F)) := by
  refine Ev.iload_1 dX5_howMany_0 rfl ?_
  refine Ev.tableIn 101 dX5_howMany_1 (by decide) (by decide) rfl (by decide) ?_
  refine Ev.aload_0 dX5_howMany_101 rfl ?_
  refine Ev.getf cf5 11 (by decide) wf_X5_143 dX5_howMany_102 rfl rfl ?_
  refine Ev.iret dX5_howMany_105 ?_
  exact ⟨rfl, rfl⟩

set_option maxHeartbeats 4000000 in
set_option maxRecDepth 100000 in
theorem m_howMany_8 {d : Nat} {g : Nat → Int32} {G : Nat → Int64} {F : Nat → Nat → Int32} {V N : Nat} (ok : MOK g F V N)  : Ev (d + 5) yX5_howMany cX5_howMany (some .int) 0 [some (.ref 0), some (.int 8)] [] (modW g G F) (Is (some (.int (g 13))) (modW g G F)) := by
  refine Ev.iload_1 dX5_howMany_0 rfl ?_
  refine Ev.tableIn 106 dX5_howMany_1 (by decide) (by decide) rfl (by decide) ?_
  refine Ev.aload_0 dX5_howMany_106 rfl ?_
  refine Ev.getf cf5 13 (by decide) wf_X5_149 dX5_howMany_107 rfl rfl ?_
  refine Ev.iret dX5_howMany_110 ?_
  exact ⟨rfl, rfl⟩

set_option maxHeartbeats 4000000 in
set_option maxRecDepth 100000 in
theorem m_howMany_9 {d : Nat} {g : Nat → Int32} {G : Nat → Int64} {F : Nat → Nat → Int32} {V N : Nat} (ok : MOK g F V N)  : Ev (d + 5) yX5_howMany cX5_howMany (some .int) 0 [some (.ref 0), some (.int 9)] [] (modW g G F) (Is (some (.int (g 18))) (modW g G F)) := by
  refine Ev.iload_1 dX5_howMany_0 rfl ?_
  refine Ev.tableIn 111 dX5_howMany_1 (by decide) (by decide) rfl (by decide) ?_
  refine Ev.aload_0 dX5_howMany_111 rfl ?_
  refine Ev.getf cf5 18 (by decide) wf_X5_100 dX5_howMany_112 rfl rfl ?_
  refine Ev.iret dX5_howMany_115 ?_
  exact ⟨rfl, rfl⟩

set_option maxHeartbeats 4000000 in
set_option maxRecDepth 100000 in
theorem m_howMany_10 {d : Nat} {g : Nat → Int32} {G : Nat → Int64} {F : Nat → Nat → Int32} {V N : Nat} (ok : MOK g F V N)  : Ev (d + 5) yX5_howMany cX5_howMany (some .int) 0 [some (.ref 0), some (.int 10)] [] (modW g G F) (Is (some (.int (g 0))) (modW g G F)) := by
  refine Ev.iload_1 dX5_howMany_0 rfl ?_
  refine Ev.tableIn 116 dX5_howMany_1 (by decide) (by decide) rfl (by decide) ?_
  refine Ev.aload_0 dX5_howMany_116 rfl ?_
  refine Ev.getf cf5 0 (by decide) wf_X5_146 dX5_howMany_117 rfl rfl ?_
  refine Ev.iret dX5_howMany_120 ?_
  exact ⟨rfl, rfl⟩

set_option maxHeartbeats 4000000 in
set_option maxRecDepth 100000 in
theorem m_howMany_11 {d : Nat} {g : Nat → Int32} {G : Nat → Int64} {F : Nat → Nat → Int32} {V N : Nat} (ok : MOK g F V N)  : Ev (d + 5) yX5_howMany cX5_howMany (some .int) 0 [some (.ref 0), some (.int 11)] [] (modW g G F) (Is (some (.int (g 12))) (modW g G F)) := by
  refine Ev.iload_1 dX5_howMany_0 rfl ?_
  refine Ev.tableIn 121 dX5_howMany_1 (by decide) (by decide) rfl (by decide) ?_
  refine Ev.aload_0 dX5_howMany_121 rfl ?_
  refine Ev.getf cf5 12 (by decide) wf_X5_253 dX5_howMany_122 rfl rfl ?_
  refine Ev.iret dX5_howMany_125 ?_
  exact ⟨rfl, rfl⟩

set_option maxHeartbeats 4000000 in
set_option maxRecDepth 100000 in
theorem m_howMany_o {d : Nat} {g : Nat → Int32} {G : Nat → Int64} {F : Nat → Nat → Int32} {x : Int32} (hx : x.toInt < 0 ∨ 11 < x.toInt) : Ev (d + 5) yX5_howMany cX5_howMany (some .int) 0 [some (.ref 0), some (.int x)] [] (modW g G F) (Is (some (.int (-102))) (modW g G F)) := by
  refine Ev.iload_1 dX5_howMany_0 rfl ?_
  refine Ev.tableOut 126 dX5_howMany_1 hx (by decide) ?_
  refine Ev.bipush (v := -102) dX5_howMany_126 (by decide) ?_
  refine Ev.iret dX5_howMany_128 ?_
  exact ⟨rfl, rfl⟩

def mcA (g : Nat → Int32) (F : Nat → Nat → Int32) (V N j : Nat) : Int32 := if j = 0 then g 1 else if j = 1 then g 2 else if j = 2 then pnF (vM F) N 0 0 else if j = 3 then os (vM F) N 31 else if j = 4 then mla (vM F) V N else if j = 5 then g 9 else if j = 6 then g 10 else if j = 7 then g 11 else if j = 8 then g 13 else if j = 9 then g 18 else if j = 10 then g 0 else g 12
theorem m_howMany_n {d : Nat} {g : Nat → Int32} {G : Nat → Int64} {F : Nat → Nat → Int32} {V N : Nat} (ok : MOK g F V N) : ∀ (j : Nat), j < 12 → Ev (d + 5) yX5_howMany cX5_howMany (some .int) 0 [some (.ref 0), some (.int (nI j))] [] (modW g G F) (Is (some (.int (mcA g F V N j))) (modW g G F))
  | 0, _ => by rw [show mcA g F V N 0 = g 1 from by simp [mcA]]; exact m_howMany_0 ok
  | 1, _ => by rw [show mcA g F V N 1 = g 2 from by simp [mcA]]; exact m_howMany_1 ok
  | 2, _ => by rw [show mcA g F V N 2 = pnF (vM F) N 0 0 from by simp [mcA]]; exact m_howMany_2 ok
  | 3, _ => by rw [show mcA g F V N 3 = os (vM F) N 31 from by simp [mcA]]; exact m_howMany_3 ok
  | 4, _ => by rw [show mcA g F V N 4 = mla (vM F) V N from by simp [mcA]]; exact m_howMany_4 ok
  | 5, _ => by rw [show mcA g F V N 5 = g 9 from by simp [mcA]]; exact m_howMany_5 ok
  | 6, _ => by rw [show mcA g F V N 6 = g 10 from by simp [mcA]]; exact m_howMany_6 ok
  | 7, _ => by rw [show mcA g F V N 7 = g 11 from by simp [mcA]]; exact m_howMany_7 ok
  | 8, _ => by rw [show mcA g F V N 8 = g 13 from by simp [mcA]]; exact m_howMany_8 ok
  | 9, _ => by rw [show mcA g F V N 9 = g 18 from by simp [mcA]]; exact m_howMany_9 ok
  | 10, _ => by rw [show mcA g F V N 10 = g 0 from by simp [mcA]]; exact m_howMany_10 ok
  | 11, _ => by rw [show mcA g F V N 11 = g 12 from by simp [mcA]]; exact m_howMany_11 ok
  | j + 12, h => absurd h (by omega)
set_option maxHeartbeats 4000000 in
set_option maxRecDepth 100000 in
theorem m_count_k {d : Nat} {g : Nat → Int32} {G : Nat → Int64} {F : Nat → Nat → Int32} {V N : Nat} (ok : MOK g F V N) {j : Nat} (hj : j < 12) : Ev (d + 6) yX5_count cX5_count (some .int) 0 [some (.ref 0), some (.int (nI j))] [] (modW g G F) (Is (some (.int (mcA g F V N j))) (modW g G F)) := by
  refine Ev.aload_0 dX5_count_0 rfl ?_
  refine Ev.iload_1 dX5_count_1 rfl ?_
  refine k_X5_howMany (m_howMany_n ok j hj) dX5_count_2 wl_X5_321 rfl (Nat.le_of_ble_eq_true rfl) ?_
  refine Ev.iret dX5_count_5 ?_
  exact ⟨rfl, rfl⟩

set_option maxHeartbeats 4000000 in
set_option maxRecDepth 100000 in
theorem m_count_o {d : Nat} {g : Nat → Int32} {G : Nat → Int64} {F : Nat → Nat → Int32} {x : Int32} (hx : x.toInt < 0 ∨ 11 < x.toInt) : Ev (d + 6) yX5_count cX5_count (some .int) 0 [some (.ref 0), some (.int x)] [] (modW g G F) (Is (some (.int (-102))) (modW g G F)) := by
  refine Ev.aload_0 dX5_count_0 rfl ?_
  refine Ev.iload_1 dX5_count_1 rfl ?_
  refine k_X5_howMany (m_howMany_o hx) dX5_count_2 wl_X5_321 rfl (Nat.le_of_ble_eq_true rfl) ?_
  refine Ev.iret dX5_count_5 ?_
  exact ⟨rfl, rfl⟩

set_option maxHeartbeats 4000000 in
set_option maxRecDepth 100000 in
theorem m_mix {d : Nat} {g : Nat → Int32} {G : Nat → Int64} {F : Nat → Nat → Int32} (x : Int64) : Ev d yX5_mix cX5_mix none 0 [some (.ref 0), some (.long x), none] [] (modW g G F) (Is none (modW g (updJ G 49 (mxd (G 49) x)) F)) := by
  refine Ev.aload_0 dX5_mix_0 rfl ?_
  refine Ev.ldc2 wk_X5_324 dX5_mix_1 ?_
  refine Ev.aload_0 dX5_mix_4 rfl ?_
  refine Ev.getf cf5 49 (by decide) wf_X5_326 dX5_mix_5 rfl rfl ?_
  refine Ev.lmul dX5_mix_8 ?_
  refine Ev.lload_1 dX5_mix_9 rfl ?_
  refine Ev.ladd dX5_mix_10 ?_
  refine pw_modW_0_49 dX5_mix_11 wf_X5_326 ?_
  refine Ev.vret dX5_mix_14 ?_
  exact ⟨rfl, rfl⟩

theorem updJ_at (G : Nat → Int64) (x : Int64) : updJ G 49 x 49 = x := by simp [updJ]
theorem updJ_2 (G : Nat → Int64) (x y : Int64) : updJ (updJ G 49 x) 49 y = updJ G 49 y := by
  funext b; by_cases h : b = 49 <;> simp [updJ, h]

set_option maxHeartbeats 4000000 in
set_option maxRecDepth 100000 in
theorem m_mv_1 {d : Nat} {g : Nat → Int32} {G0 : Nat → Int64} {F : Nat → Nat → Int32} {Q : Option Value → List Ce → Prop} {V N : Nat} (ok : MOK g F V N) {v : Nat} (hv : v < V)  : ∀ (n : Nat) (j : Nat) (hh R : Int64), j + n = 8 → fld (mvA F N v) n j hh = R → Ev (d + 5) yX5_mixVillage cX5_mixVillage none 25 [some (.ref 0), some (.int (nI v)), some (.int (nI 8))] [] (modW g (updJ G0 49 R) F) Q → Ev (d + 5) yX5_mixVillage cX5_mixVillage none 2 [some (.ref 0), some (.int (nI v)), some (.int (nI j))] [] (modW g (updJ G0 49 hh) F) Q := by
  intro n
  induction n with
  | zero =>
    intro j hh R hk hR K
    have hk : j = 8 := by omega
    subst hk
    have hR : hh = R := hR
    subst hR
    refine Ev.iload_2 dX5_mixVillage_2 rfl ?_
    refine Ev.bipush (v := 8) dX5_mixVillage_3 (by decide) ?_
    refine Ev.icmp_ge 25 dX5_mixVillage_5 (by decide) (fun h5 => ?_) (fun h5 => ?_)
    · exact K
    · exact absurd (lp_le (x := 8) (N := 8) rfl (by omega) (by omega)) h5
  | succ n ih =>
    intro j hh R hk hR K
    refine Ev.iload_2 dX5_mixVillage_2 rfl ?_
    refine Ev.bipush (v := 8) dX5_mixVillage_3 (by decide) ?_
    refine Ev.icmp_ge 25 dX5_mixVillage_5 (by decide) (fun h5 => ?_) (fun h5 => ?_)
    · exact absurd h5 (lp_ge (x := 8) (N := 8) rfl (by omega) (by omega))
    refine Ev.aload_0 dX5_mixVillage_8 rfl ?_
    refine Ev.aload_0 dX5_mixVillage_9 rfl ?_
    refine Ev.iload_1 dX5_mixVillage_10 rfl ?_
    refine Ev.iload_2 dX5_mixVillage_11 rfl ?_
    refine k_X5_villageNow (m_villageNow_n ok hv j (by omega)) dX5_mixVillage_12 wl_X5_198 rfl (Nat.le_of_ble_eq_true rfl) ?_
    refine Ev.i2l dX5_mixVillage_15 ?_
    refine k_X5_mix (m_mix _) dX5_mixVillage_16 wl_X5_329 rfl (Nat.le_of_ble_eq_true rfl) ?_
    rw [updJ_2, updJ_at]
    first | refine Ev.incn2 dX5_mixVillage_19 rfl ?_ | refine Ev.inc2 dX5_mixVillage_19 rfl ?_
    refine Ev.goto 2 dX5_mixVillage_22 (by decide) ?_
    exact ih (j + 1) _ R (by omega) (by rw [← hR]; rfl) K

set_option maxHeartbeats 4000000 in
set_option maxRecDepth 100000 in
theorem m_mv_2 {d : Nat} {g : Nat → Int32} {G0 : Nat → Int64} {F : Nat → Nat → Int32} {Q : Option Value → List Ce → Prop} {V N : Nat} (ok : MOK g F V N) {v : Nat} (hv : v < V)  : ∀ (n : Nat) (j : Nat) (hh R : Int64), j + n = N → fl2 (fun w => (mwh F N w v).1) (fun w => (mwh F N w v).2) n j hh = R → Ev (d + 5) yX5_mixVillage cX5_mixVillage none 65 [some (.ref 0), some (.int (nI v)), some (.int (nI N))] [] (modW g (updJ G0 49 R) F) Q → Ev (d + 5) yX5_mixVillage cX5_mixVillage none 27 [some (.ref 0), some (.int (nI v)), some (.int (nI j))] [] (modW g (updJ G0 49 hh) F) Q := by
  intro n
  induction n with
  | zero =>
    intro j hh R hk hR K
    have hk : j = N := by omega
    subst hk
    have hR : hh = R := hR
    subst hR
    refine Ev.iload_2 dX5_mixVillage_27 rfl ?_
    refine Ev.aload_0 dX5_mixVillage_28 rfl ?_
    refine Ev.getf cf5 2 (by decide) wf_X5_134 dX5_mixVillage_29 rfl rfl ?_
    refine Ev.icmp_ge 65 dX5_mixVillage_32 (by decide) (fun h32 => ?_) (fun h32 => ?_)
    · exact K
    · exact absurd (lp_le ok.2.1 (by omega) (by have := ok.2.2.2.1; omega)) h32
  | succ n ih =>
    intro j hh R hk hR K
    refine Ev.iload_2 dX5_mixVillage_27 rfl ?_
    refine Ev.aload_0 dX5_mixVillage_28 rfl ?_
    refine Ev.getf cf5 2 (by decide) wf_X5_134 dX5_mixVillage_29 rfl rfl ?_
    refine Ev.icmp_ge 65 dX5_mixVillage_32 (by decide) (fun h32 => ?_) (fun h32 => ?_)
    · exact absurd h32 (lp_ge ok.2.1 (by omega) (by have := ok.2.2.2.1; omega))
    refine Ev.aload_0 dX5_mixVillage_35 rfl ?_
    refine Ev.aload_0 dX5_mixVillage_36 rfl ?_
    refine Ev.iload_2 dX5_mixVillage_37 rfl ?_
    refine Ev.iload_1 dX5_mixVillage_38 rfl ?_
    refine Ev.iconst (v := 0) dX5_mixVillage_39 (by decide) ?_
    refine k_X5_whereNow (m_whereNow_0 ok (by omega) hv) dX5_mixVillage_40 wl_X5_224 rfl (Nat.le_of_ble_eq_true rfl) ?_
    refine Ev.i2l dX5_mixVillage_43 ?_
    refine k_X5_mix (m_mix _) dX5_mixVillage_44 wl_X5_329 rfl (Nat.le_of_ble_eq_true rfl) ?_
    rw [updJ_2, updJ_at]
    refine Ev.aload_0 dX5_mixVillage_47 rfl ?_
    refine Ev.aload_0 dX5_mixVillage_48 rfl ?_
    refine Ev.iload_2 dX5_mixVillage_49 rfl ?_
    refine Ev.iload_1 dX5_mixVillage_50 rfl ?_
    refine Ev.iconst (v := 1) dX5_mixVillage_51 (by decide) ?_
    refine k_X5_whereNow (m_whereNow_1 ok (by omega) hv) dX5_mixVillage_52 wl_X5_224 rfl (Nat.le_of_ble_eq_true rfl) ?_
    refine Ev.i2l dX5_mixVillage_55 ?_
    refine k_X5_mix (m_mix _) dX5_mixVillage_56 wl_X5_329 rfl (Nat.le_of_ble_eq_true rfl) ?_
    rw [updJ_2, updJ_at]
    first | refine Ev.incn2 dX5_mixVillage_59 rfl ?_ | refine Ev.inc2 dX5_mixVillage_59 rfl ?_
    refine Ev.goto 27 dX5_mixVillage_62 (by decide) ?_
    exact ih (j + 1) _ R (by omega) (by rw [← hR]; rfl) K

set_option maxHeartbeats 4000000 in
set_option maxRecDepth 100000 in
theorem m_mixVillage {d : Nat} {g : Nat → Int32} {G0 : Nat → Int64} {F : Nat → Nat → Int32} {V N : Nat} (ok : MOK g F V N) {v : Nat} (hv : v < V) (hh : Int64) : Ev (d + 5) yX5_mixVillage cX5_mixVillage none 0 [some (.ref 0), some (.int (nI v)), none] [] (modW g (updJ G0 49 hh) F) (Is none (modW g (updJ G0 49 (fl2 (fun w => (mwh F N w v).1) (fun w => (mwh F N w v).2) N 0 (fld (mvA F N v) 8 0 hh))) F)) := by
  refine Ev.iconst (v := 0) dX5_mixVillage_0 (by decide) ?_
  refine Ev.ist2 dX5_mixVillage_1 rfl ?_
  refine m_mv_1 ok hv 8 0 _ _ (by omega) rfl ?_
  refine Ev.iconst (v := 0) dX5_mixVillage_25 (by decide) ?_
  refine Ev.ist2 dX5_mixVillage_26 rfl ?_
  exact m_mv_2 ok hv N 0 _ _ (by omega) rfl (Ev.vret dX5_mixVillage_65 ⟨rfl, rfl⟩)

set_option maxHeartbeats 4000000 in
set_option maxRecDepth 100000 in
theorem m_dA_in {d : Nat} {g : Nat → Int32} {G0 : Nat → Int64} {F : Nat → Nat → Int32} {Q : Option Value → List Ce → Prop} {V N : Nat} (ok : MOK g F V N) {K : Nat} (hK : g 13 = nI K) (h8 : K ≤ 8) {w : Nat} (hw : w < N)  : ∀ (n : Nat) (j : Nat) (hh R : Int64), j + n = 8 → fld (mwA F N K w) n j hh = R → Ev (d + 7) yX5_digest cX5_digest (some .long) 42 [some (.ref 0), some (.int (nI w)), some (.int (nI 8))] [] (modW g (updJ G0 49 R) F) Q → Ev (d + 7) yX5_digest cX5_digest (some .long) 19 [some (.ref 0), some (.int (nI w)), some (.int (nI j))] [] (modW g (updJ G0 49 hh) F) Q := by
  intro n
  induction n with
  | zero =>
    intro j hh R hk hR K1
    have hk : j = 8 := by omega
    subst hk
    have hR : hh = R := hR
    subst hR
    refine Ev.iload_2 dX5_digest_19 rfl ?_
    refine Ev.bipush (v := 8) dX5_digest_20 (by decide) ?_
    refine Ev.icmp_ge 42 dX5_digest_22 (by decide) (fun h22 => ?_) (fun h22 => ?_)
    · exact K1
    · exact absurd (lp_le (x := 8) (N := 8) rfl (by omega) (by omega)) h22
  | succ n ih =>
    intro j hh R hk hR K1
    refine Ev.iload_2 dX5_digest_19 rfl ?_
    refine Ev.bipush (v := 8) dX5_digest_20 (by decide) ?_
    refine Ev.icmp_ge 42 dX5_digest_22 (by decide) (fun h22 => ?_) (fun h22 => ?_)
    · exact absurd h22 (lp_ge (x := 8) (N := 8) rfl (by omega) (by omega))
    refine Ev.aload_0 dX5_digest_25 rfl ?_
    refine Ev.aload_0 dX5_digest_26 rfl ?_
    refine Ev.iload_1 dX5_digest_27 rfl ?_
    refine Ev.iload_2 dX5_digest_28 rfl ?_
    refine k_X5_weightNow (m_weightNow_n ok hK h8 hw j (by omega)) dX5_digest_29 wl_X5_186 rfl (Nat.le_of_ble_eq_true rfl) ?_
    refine Ev.i2l dX5_digest_32 ?_
    refine k_X5_mix (m_mix _) dX5_digest_33 wl_X5_329 rfl (Nat.le_of_ble_eq_true rfl) ?_
    rw [updJ_2, updJ_at]
    first | refine Ev.incn2 dX5_digest_36 rfl ?_ | refine Ev.inc2 dX5_digest_36 rfl ?_
    refine Ev.goto 19 dX5_digest_39 (by decide) ?_
    exact ih (j + 1) _ R (by omega) (by rw [← hR]; rfl) K1

set_option maxHeartbeats 4000000 in
set_option maxRecDepth 100000 in
theorem m_dA_out {d : Nat} {g : Nat → Int32} {G0 : Nat → Int64} {F : Nat → Nat → Int32} {Q : Option Value → List Ce → Prop} {V N : Nat} (ok : MOK g F V N) {K : Nat} (hK : g 13 = nI K) (h8 : K ≤ 8) : ∀ (n w : Nat) (hh R : Int64) (x : Option Value), lok [some (.ref 0), some (.int (nI w)), x] 2 = true → w + n = N → flw (fun w => mwA F N K w) n w hh = R → (∀ x : Option Value, lok [some (.ref 0), some (.int (nI N)), x] 2 = true → Ev (d + 7) yX5_digest cX5_digest (some .long) 48 [some (.ref 0), some (.int (nI N)), x] [] (modW g (updJ G0 49 R) F) Q) → Ev (d + 7) yX5_digest cX5_digest (some .long) 9 [some (.ref 0), some (.int (nI w)), x] [] (modW g (updJ G0 49 hh) F) Q := by
  intro n
  induction n with
  | zero =>
    intro w hh R x hx hk hR K1
    have hk : w = N := by omega
    subst hk
    have hR : hh = R := hR
    subst hR
    refine Ev.iload_1 dX5_digest_9 rfl ?_
    refine Ev.aload_0 dX5_digest_10 rfl ?_
    refine Ev.getf cf5 2 (by decide) wf_X5_134 dX5_digest_11 rfl rfl ?_
    refine Ev.icmp_ge 48 dX5_digest_14 (by decide) (fun h14 => ?_) (fun h14 => ?_)
    · exact K1 _ hx
    · exact absurd (lp_le ok.2.1 (by omega) (by have := ok.2.2.2.1; omega)) h14
  | succ n ih =>
    intro w hh R x hx hk hR K1
    refine Ev.iload_1 dX5_digest_9 rfl ?_
    refine Ev.aload_0 dX5_digest_10 rfl ?_
    refine Ev.getf cf5 2 (by decide) wf_X5_134 dX5_digest_11 rfl rfl ?_
    refine Ev.icmp_ge 48 dX5_digest_14 (by decide) (fun h14 => ?_) (fun h14 => ?_)
    · exact absurd h14 (lp_ge ok.2.1 (by omega) (by have := ok.2.2.2.1; omega))
    refine Ev.iconst (v := 0) dX5_digest_17 (by decide) ?_
    refine Ev.ist2 dX5_digest_18 rfl ?_
    refine m_dA_in ok hK h8 (by omega) 8 0 _ _ (by omega) rfl ?_
    first | refine Ev.incn1 dX5_digest_42 rfl ?_ | refine Ev.inc1 dX5_digest_42 rfl ?_
    refine Ev.goto 9 dX5_digest_45 (by decide) ?_
    exact ih (w + 1) _ R _ rfl (by omega) (by rw [← hR]; rfl) K1

set_option maxHeartbeats 4000000 in
set_option maxRecDepth 100000 in
theorem m_dB {d : Nat} {g : Nat → Int32} {G0 : Nat → Int64} {F : Nat → Nat → Int32} {Q : Option Value → List Ce → Prop} {V N : Nat} (ok : MOK g F V N) {x : Option Value}  : ∀ (n : Nat) (j : Nat) (hh R : Int64), j + n = V → flv (fun v => mvA F N v) (fun v w => (mwh F N w v).1) (fun v w => (mwh F N w v).2) N n j hh = R → Ev (d + 7) yX5_digest cX5_digest (some .long) 69 [some (.ref 0), some (.int (nI V)), x] [] (modW g (updJ G0 49 R) F) Q → Ev (d + 7) yX5_digest cX5_digest (some .long) 50 [some (.ref 0), some (.int (nI j)), x] [] (modW g (updJ G0 49 hh) F) Q := by
  intro n
  induction n with
  | zero =>
    intro j hh R hk hR K
    have hk : j = V := by omega
    subst hk
    have hR : hh = R := hR
    subst hR
    refine Ev.iload_1 dX5_digest_50 rfl ?_
    refine Ev.aload_0 dX5_digest_51 rfl ?_
    refine Ev.getf cf5 1 (by decide) wf_X5_131 dX5_digest_52 rfl rfl ?_
    refine Ev.icmp_ge 69 dX5_digest_55 (by decide) (fun h55 => ?_) (fun h55 => ?_)
    · exact K
    · exact absurd (lp_le ok.1 (by omega) (by have := ok.2.2.1; omega)) h55
  | succ n ih =>
    intro j hh R hk hR K
    refine Ev.iload_1 dX5_digest_50 rfl ?_
    refine Ev.aload_0 dX5_digest_51 rfl ?_
    refine Ev.getf cf5 1 (by decide) wf_X5_131 dX5_digest_52 rfl rfl ?_
    refine Ev.icmp_ge 69 dX5_digest_55 (by decide) (fun h55 => ?_) (fun h55 => ?_)
    · exact absurd h55 (lp_ge ok.1 (by omega) (by have := ok.2.2.1; omega))
    refine Ev.aload_0 dX5_digest_58 rfl ?_
    refine Ev.iload_1 dX5_digest_59 rfl ?_
    refine k_X5_mixVillage (m_mixVillage ok (by omega) _) dX5_digest_60 wl_X5_335 rfl (Nat.le_of_ble_eq_true rfl) ?_
    first | refine Ev.incn1 dX5_digest_63 rfl ?_ | refine Ev.inc1 dX5_digest_63 rfl ?_
    refine Ev.goto 50 dX5_digest_66 (by decide) ?_
    exact ih (j + 1) _ R (by omega) (by rw [← hR]; rfl) K

set_option maxHeartbeats 4000000 in
set_option maxRecDepth 100000 in
theorem m_dC {d : Nat} {g : Nat → Int32} {G0 : Nat → Int64} {F : Nat → Nat → Int32} {Q : Option Value → List Ce → Prop} {L : Nat} (hL : g 18 = nI L) (h36 : L ≤ 36) {x : Option Value}  : ∀ (n : Nat) (j : Nat) (hh R : Int64), j + n = L → fld (F 19) n j hh = R → Ev (d + 7) yX5_digest cX5_digest (some .long) 134 [some (.ref 0), some (.int (nI L)), x] [] (modW g (updJ G0 49 R) F) Q → Ev (d + 7) yX5_digest cX5_digest (some .long) 109 [some (.ref 0), some (.int (nI j)), x] [] (modW g (updJ G0 49 hh) F) Q := by
  intro n
  induction n with
  | zero =>
    intro j hh R hk hR K
    have hk : j = L := by omega
    subst hk
    have hR : hh = R := hR
    subst hR
    refine Ev.iload_1 dX5_digest_109 rfl ?_
    refine Ev.aload_0 dX5_digest_110 rfl ?_
    refine Ev.getf cf5 18 (by decide) wf_X5_100 dX5_digest_111 rfl rfl ?_
    refine Ev.icmp_ge 134 dX5_digest_114 (by decide) (fun h114 => ?_) (fun h114 => ?_)
    · exact K
    · exact absurd (lp_le hL (by omega) (by omega)) h114
  | succ n ih =>
    intro j hh R hk hR K
    refine Ev.iload_1 dX5_digest_109 rfl ?_
    refine Ev.aload_0 dX5_digest_110 rfl ?_
    refine Ev.getf cf5 18 (by decide) wf_X5_100 dX5_digest_111 rfl rfl ?_
    refine Ev.icmp_ge 134 dX5_digest_114 (by decide) (fun h114 => ?_) (fun h114 => ?_)
    · exact absurd h114 (lp_ge hL (by omega) (by omega))
    refine Ev.aload_0 dX5_digest_117 rfl ?_
    refine Ev.aload_0 dX5_digest_118 rfl ?_
    refine Ev.getf cf5 19 (by decide) wf_X5_40 dX5_digest_119 rfl rfl ?_
    refine Ev.iload_1 dX5_digest_122 rfl ?_
    refine Ev.baldn dX5_digest_123 rfl (by omega) (by decide) ?_
    refine Ev.i2l dX5_digest_124 ?_
    refine k_X5_mix (m_mix _) dX5_digest_125 wl_X5_329 rfl (Nat.le_of_ble_eq_true rfl) ?_
    rw [updJ_2, updJ_at]
    first | refine Ev.incn1 dX5_digest_128 rfl ?_ | refine Ev.inc1 dX5_digest_128 rfl ?_
    refine Ev.goto 109 dX5_digest_131 (by decide) ?_
    exact ih (j + 1) _ R (by omega) (by rw [← hR]; rfl) K

set_option maxHeartbeats 4000000 in
set_option maxRecDepth 100000 in
theorem m_dD {d : Nat} {g : Nat → Int32} {G0 : Nat → Int64} {F : Nat → Nat → Int32} {Q : Option Value → List Ce → Prop} {V N : Nat} (ok : MOK g F V N) {x : Option Value}  : ∀ (n : Nat) (j : Nat) (hh R : Int64), j + n = 12 → fld (mcA g F V N) n j hh = R → Ev (d + 7) yX5_digest cX5_digest (some .long) 158 [some (.ref 0), some (.int (nI 12)), x] [] (modW g (updJ G0 49 R) F) Q → Ev (d + 7) yX5_digest cX5_digest (some .long) 136 [some (.ref 0), some (.int (nI j)), x] [] (modW g (updJ G0 49 hh) F) Q := by
  intro n
  induction n with
  | zero =>
    intro j hh R hk hR K
    have hk : j = 12 := by omega
    subst hk
    have hR : hh = R := hR
    subst hR
    refine Ev.iload_1 dX5_digest_136 rfl ?_
    refine Ev.bipush (v := 12) dX5_digest_137 (by decide) ?_
    refine Ev.icmp_ge 158 dX5_digest_139 (by decide) (fun h139 => ?_) (fun h139 => ?_)
    · exact K
    · exact absurd (lp_le (x := 12) (N := 12) rfl (by omega) (by omega)) h139
  | succ n ih =>
    intro j hh R hk hR K
    refine Ev.iload_1 dX5_digest_136 rfl ?_
    refine Ev.bipush (v := 12) dX5_digest_137 (by decide) ?_
    refine Ev.icmp_ge 158 dX5_digest_139 (by decide) (fun h139 => ?_) (fun h139 => ?_)
    · exact absurd h139 (lp_ge (x := 12) (N := 12) rfl (by omega) (by omega))
    refine Ev.aload_0 dX5_digest_142 rfl ?_
    refine Ev.aload_0 dX5_digest_143 rfl ?_
    refine Ev.iload_1 dX5_digest_144 rfl ?_
    refine k_X5_howMany (m_howMany_n ok j (by omega)) dX5_digest_145 wl_X5_321 rfl (Nat.le_of_ble_eq_true rfl) ?_
    refine Ev.i2l dX5_digest_148 ?_
    refine k_X5_mix (m_mix _) dX5_digest_149 wl_X5_329 rfl (Nat.le_of_ble_eq_true rfl) ?_
    rw [updJ_2, updJ_at]
    first | refine Ev.incn1 dX5_digest_152 rfl ?_ | refine Ev.inc1 dX5_digest_152 rfl ?_
    refine Ev.goto 136 dX5_digest_155 (by decide) ?_
    exact ih (j + 1) _ R (by omega) (by rw [← hR]; rfl) K

def mdT (F : Nat → Nat → Int32) (V N gd : Nat) (x : Int64) : Int64 := if V = 0 then x else mxd (mxd (mxd x (mmd F V N).toInt64) (nI (gd ^ 3 / Nat.gcd (gd ^ 3) (20 ^ 3))).toInt64) (nI (20 ^ 3 / Nat.gcd (gd ^ 3) (20 ^ 3))).toInt64
def mdg (g : Nat → Int32) (F : Nat → Nat → Int32) (V N L K gd : Nat) : Int64 := fld (mcA g F V N) 12 0 (fld (F 19) L 0 (mdT F V N gd (flv (fun v => mvA F N v) (fun v w => (mwh F N w v).1) (fun v w => (mwh F N w v).2) N V 0 (flw (fun w => mwA F N K w) N 0 1163))))

set_option maxHeartbeats 4000000 in
set_option maxRecDepth 100000 in
theorem m_digest_z {d : Nat} {g : Nat → Int32} {G0 : Nat → Int64} {F : Nat → Nat → Int32} {V N : Nat} (ok : MOK g F V N) {K : Nat} (hK : g 13 = nI K) (h8 : K ≤ 8) {L : Nat} (hL : g 18 = nI L) (h36 : L ≤ 36) (gd : Nat) (hV : V = 0) : Ev (d + 7) yX5_digest cX5_digest (some .long) 0 [some (.ref 0), none, none] [] (modW g G0 F) (Is (some (.long (mdg g F V N L K gd))) (modW g (updJ G0 49 (mdg g F V N L K gd)) F)) := by
  refine Ev.aload_0 dX5_digest_0 rfl ?_
  refine Ev.ldc2 wk_X5_333 dX5_digest_1 ?_
  refine pw_modW_0_49 dX5_digest_4 wf_X5_326 ?_
  refine Ev.iconst (v := 0) dX5_digest_7 (by decide) ?_
  refine Ev.ist1 dX5_digest_8 rfl ?_
  refine m_dA_out ok hK h8 N 0 _ _ _ rfl (by omega) rfl (fun x hx => ?_)
  refine Ev.iconst (v := 0) dX5_digest_48 (by decide) ?_
  refine Ev.ist1 dX5_digest_49 rfl ?_
  refine m_dB ok V 0 _ _ (by omega) rfl ?_
  refine Ev.aload_0 dX5_digest_69 rfl ?_
  refine Ev.getf cf5 1 (by decide) wf_X5_131 dX5_digest_70 rfl rfl ?_
  refine Ev.if_le 107 dX5_digest_73 (by decide) (fun h73 => ?_) (fun h73 => ?_)
  · refine Ev.iconst (v := 0) dX5_digest_107 (by decide) ?_
    refine Ev.ist1 dX5_digest_108 rfl ?_
    refine m_dC hL h36 L 0 _ _ (by omega) rfl ?_
    refine Ev.iconst (v := 0) dX5_digest_134 (by decide) ?_
    refine Ev.ist1 dX5_digest_135 rfl ?_
    refine m_dD ok 12 0 _ _ (by omega) rfl ?_
    refine Ev.aload_0 dX5_digest_158 rfl ?_
    refine Ev.getf cf5 49 (by decide) wf_X5_326 dX5_digest_159 rfl rfl ?_
    rw [updJ_at]
    refine Ev.lret dX5_digest_162 ?_
    exact ⟨by rw [mdg, mdT, if_pos hV], by rw [mdg, mdT, if_pos hV]⟩
  · exact absurd (show g 1 ≤ 0 from by rw [ok.1, hV]; decide) h73

set_option maxHeartbeats 4000000 in
set_option maxRecDepth 100000 in
theorem m_digest_n {d : Nat} {g : Nat → Int32} {G0 : Nat → Int64} {F : Nat → Nat → Int32} {V N : Nat} (ok : MOK g F V N) {K : Nat} (hK : g 13 = nI K) (h8 : K ≤ 8) {L : Nat} (hL : g 18 = nI L) (h36 : L ≤ 36) {gd : Nat} (hV : 0 < V) (hg : gdF (vM F) V N 10 0 0 = nI gd) (hg2 : gd ≤ 20) : Ev (d + 7) yX5_digest cX5_digest (some .long) 0 [some (.ref 0), none, none] [] (modW g G0 F) (Is (some (.long (mdg g F V N L K gd))) (modW g (updJ G0 49 (mdg g F V N L K gd)) F)) := by
  refine Ev.aload_0 dX5_digest_0 rfl ?_
  refine Ev.ldc2 wk_X5_333 dX5_digest_1 ?_
  refine pw_modW_0_49 dX5_digest_4 wf_X5_326 ?_
  refine Ev.iconst (v := 0) dX5_digest_7 (by decide) ?_
  refine Ev.ist1 dX5_digest_8 rfl ?_
  refine m_dA_out ok hK h8 N 0 _ _ _ rfl (by omega) rfl (fun x hx => ?_)
  refine Ev.iconst (v := 0) dX5_digest_48 (by decide) ?_
  refine Ev.ist1 dX5_digest_49 rfl ?_
  refine m_dB ok V 0 _ _ (by omega) rfl ?_
  refine Ev.aload_0 dX5_digest_69 rfl ?_
  refine Ev.getf cf5 1 (by decide) wf_X5_131 dX5_digest_70 rfl rfl ?_
  refine Ev.if_le 107 dX5_digest_73 (by decide) (fun h73 => ?_) (fun h73 => ?_)
  · exact absurd h73 (by rw [ok.1]; exact nI_nle hV (by have := ok.2.2.1; omega))
  refine Ev.aload_0 dX5_digest_76 rfl ?_
  refine Ev.aload_0 dX5_digest_77 rfl ?_
  refine k_X5_mendNow (m_mendNow ok) dX5_digest_78 wl_X5_262 rfl (Nat.le_of_ble_eq_true rfl) ?_
  refine Ev.i2l dX5_digest_81 ?_
  refine k_X5_mix (m_mix _) dX5_digest_82 wl_X5_329 rfl (Nat.le_of_ble_eq_true rfl) ?_
  rw [updJ_2, updJ_at]
  refine Ev.aload_0 dX5_digest_85 rfl ?_
  refine Ev.aload_0 dX5_digest_86 rfl ?_
  refine Ev.iconst (v := 3) dX5_digest_87 (by decide) ?_
  refine Ev.iconst (v := 0) dX5_digest_88 (by decide) ?_
  refine k_X5_oddsNow (m_oddsNow_0 ok (a := 3) (by omega) hg hg2) dX5_digest_89 wl_X5_271 rfl (Nat.le_of_ble_eq_true rfl) ?_
  refine Ev.i2l dX5_digest_92 ?_
  refine k_X5_mix (m_mix _) dX5_digest_93 wl_X5_329 rfl (Nat.le_of_ble_eq_true rfl) ?_
  rw [updJ_2, updJ_at]
  refine Ev.aload_0 dX5_digest_96 rfl ?_
  refine Ev.aload_0 dX5_digest_97 rfl ?_
  refine Ev.iconst (v := 3) dX5_digest_98 (by decide) ?_
  refine Ev.iconst (v := 1) dX5_digest_99 (by decide) ?_
  refine k_X5_oddsNow (m_oddsNow_1 ok (a := 3) (by omega) hg hg2) dX5_digest_100 wl_X5_271 rfl (Nat.le_of_ble_eq_true rfl) ?_
  refine Ev.i2l dX5_digest_103 ?_
  refine k_X5_mix (m_mix _) dX5_digest_104 wl_X5_329 rfl (Nat.le_of_ble_eq_true rfl) ?_
  rw [updJ_2, updJ_at]
  refine Ev.iconst (v := 0) dX5_digest_107 (by decide) ?_
  refine Ev.ist1 dX5_digest_108 rfl ?_
  refine m_dC hL h36 L 0 _ _ (by omega) rfl ?_
  refine Ev.iconst (v := 0) dX5_digest_134 (by decide) ?_
  refine Ev.ist1 dX5_digest_135 rfl ?_
  refine m_dD ok 12 0 _ _ (by omega) rfl ?_
  refine Ev.aload_0 dX5_digest_158 rfl ?_
  refine Ev.getf cf5 49 (by decide) wf_X5_326 dX5_digest_159 rfl rfl ?_
  rw [updJ_at]
  refine Ev.lret dX5_digest_162 ?_
  exact ⟨by rw [mdg, mdT, if_neg (by omega)], by rw [mdg, mdT, if_neg (by omega)]⟩
