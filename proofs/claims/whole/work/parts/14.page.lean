def isdg (c a b : Int32) : Int32 := if c < 48 + a then 0 else if 48 + b < c then 0 else 1
def bB (pg : Nat → Int32) (c : Int32) : Int32 × (Nat → Int32) := if isdg c 0 9 = 0 then (7, pg) else (1, upd pg 2 (pg 2 + 1))
def bS (pg : Nat → Int32) (c : Int32) : Int32 := if c = 44 ∧ ¬ 4 ≤ pg 2 then 0 else if c = 59 ∧ ¬ pg 2 < 2 then 2 else 7
def bP (pg : Nat → Int32) (c : Int32) : Int32 × (Nat → Int32) := if isdg c 0 4 = 0 then (7, pg) else (6, upd pg 3 (pg 3 + 1))
/-- dueBehind -/
def db (pg : Nat → Int32) (c : Int32) : Int32 × (Nat → Int32) :=
  if pg 4 = 0 then bB pg c else if pg 4 = 1 then (bS pg c, pg) else if pg 4 = 2 then ((if kix c < 0 then 7 else 3), pg) else if pg 4 = 3 then ((if isdg c 1 9 = 0 then 7 else 4), pg) else if pg 4 = 4 then ((if isdg c 0 (pg 2 - 1) = 0 then 7 else 5), pg) else if pg 4 = 5 then bP pg c else if pg 4 = 6 then ((if c = 44 ∧ ¬ 5 ≤ pg 3 then 2 else 7), pg) else (7, pg)
theorem db_1 (pg : Nat → Int32) (c : Int32) : (db pg c).2 1 = pg 1 := by
  unfold db bB bP
  repeat' split
  all_goals simp [upd]
/-- scan -/
def scF (lt : Nat → Int32) : Nat → Nat → (Nat → Int32) → Int32 × (Nat → Int32)
  | 0, _, pg => (pg 1, pg)
  | n + 1, i, pg => if (db pg (lt i)).1 = 7 then (nI i, upd (db pg (lt i)).2 4 (db pg (lt i)).1) else scF lt n (i + 1) (upd (db pg (lt i)).2 4 (db pg (lt i)).1)
def sc (lt : Nat → Int32) (L : Nat) (pg : Nat → Int32) : Int32 × (Nat → Int32) := scF lt L 0 (upd (upd (upd pg 2 0) 3 0) 4 0)
def dgt (lt : Nat → Int32) (L a : Nat) : Int32 := if a < L then lt a - 48 else 0
def kat (lt : Nat → Int32) (L a : Nat) : Int32 := if a < L then kix (lt a) else 0
def rdB (lt : Nat → Int32) (L : Nat) : Nat → Nat → (Nat → Nat → Int32) → Nat → Nat → Int32
  | 0, _, LF => LF
  | n + 1, k, LF => rdB lt L n (k + 1) (up2 LF 2 k (dgt lt L (2 * k)))
def rdW (lt : Nat → Int32) (L V : Nat) : Nat → Nat → (Nat → Nat → Int32) → Nat → Nat → Int32
  | 0, _, LF => LF
  | n + 1, k, LF => rdW lt L V n (k + 1) (up2 (up2 (up2 (up2 LF 3 k (kat lt L (2 * V + 5 * k))) 4 k (dgt lt L (2 * V + 5 * k + 1))) 5 k (dgt lt L (2 * V + 5 * k + 2))) 6 k (dgt lt L (2 * V + 5 * k + 3)))

set_option maxHeartbeats 4000000 in
set_option maxRecDepth 100000 in
theorem e_X2_append {d : Nat} {pg : Nat → Int32} {PF : Nat → Nat → Int32} {L : Nat} (hL : pg 1 = nI L) (h36 : L < 36) (c : Int32) : Ev d yX2_append cX2_append none 0 [some (.ref 0), some (.int c)] [] (pageW pg PF) (Is none (pageW (upd pg 1 (nI (L + 1))) (up2 PF 0 L c))) := by
  refine Ev.aload_0 dX2_append_0 rfl ?_
  refine Ev.getf cf2 1 (by decide) wf_X2_15 dX2_append_1 rfl rfl ?_
  refine Ev.bipush (v := 36) dX2_append_4 (by decide) ?_
  refine Ev.icmp_ge 29 dX2_append_6 (by decide) (fun h6 => ?_) (fun h6 => ?_)
  · exact absurd h6 (by rw [hL]; exact lp_ge (x := 36) (N := 36) rfl h36 (by decide))
  refine Ev.aload_0 dX2_append_9 rfl ?_
  refine Ev.getf cf2 0 (by decide) wf_X2_9 dX2_append_10 rfl rfl ?_
  refine Ev.aload_0 dX2_append_13 rfl ?_
  refine Ev.getf cf2 1 (by decide) wf_X2_15 dX2_append_14 rfl rfl ?_
  rw [hL]
  refine Ev.iload_1 dX2_append_17 rfl ?_
  refine aw_pageW_1 dX2_append_18 (by omega) ?_
  refine Ev.aload_0 dX2_append_19 rfl ?_
  refine Ev.dup dX2_append_20 rfl ?_
  refine Ev.getf cf2 1 (by decide) wf_X2_15 dX2_append_21 rfl rfl ?_
  refine Ev.iconst (v := 1) dX2_append_24 (by decide) ?_
  refine Ev.iadd dX2_append_25 ?_
  rw [show up2 PF 0 L c = up2 PF 0 L c from rfl, hL, nI_1]
  refine pw_pageW_0_1 dX2_append_26 wf_X2_15 ?_
  refine Ev.vret dX2_append_29 ?_
  exact ⟨rfl, rfl⟩

set_option maxHeartbeats 4000000 in
set_option maxRecDepth 100000 in
theorem e_X2_isDigit {d : Nat} {w : List Ce} (c a b : Int32) : Ev d yX2_isDigit cX2_isDigit (some .boolean) 0 [some (.int c), some (.int a), some (.int b)] [] w (Is (some (.int (isdg c a b))) w) := by
  refine Ev.iload_0 dX2_isDigit_0 rfl ?_
  refine Ev.bipush (v := 48) dX2_isDigit_1 (by decide) ?_
  refine Ev.iload_1 dX2_isDigit_3 rfl ?_
  refine Ev.iadd dX2_isDigit_4 ?_
  refine Ev.icmp_lt 20 dX2_isDigit_5 (by decide) (fun h5 => ?_) (fun h5 => ?_)
  · refine Ev.iconst (v := 0) dX2_isDigit_20 (by decide) ?_
    refine Ev.zret dX2_isDigit_21 (by decide) ?_
    exact ⟨by simp [isdg, *], rfl⟩
  refine Ev.iload_0 dX2_isDigit_8 rfl ?_
  refine Ev.bipush (v := 48) dX2_isDigit_9 (by decide) ?_
  refine Ev.iload_2 dX2_isDigit_11 rfl ?_
  refine Ev.iadd dX2_isDigit_12 ?_
  refine Ev.icmp_gt 20 dX2_isDigit_13 (by decide) (fun h13 => ?_) (fun h13 => ?_)
  · refine Ev.iconst (v := 0) dX2_isDigit_20 (by decide) ?_
    refine Ev.zret dX2_isDigit_21 (by decide) ?_
    exact ⟨by simp [isdg, *], rfl⟩
  refine Ev.iconst (v := 1) dX2_isDigit_16 (by decide) ?_
  refine Ev.goto 21 dX2_isDigit_17 (by decide) ?_
  refine Ev.zret dX2_isDigit_21 (by decide) ?_
  exact ⟨by simp [isdg, *], rfl⟩

set_option maxHeartbeats 4000000 in
set_option maxRecDepth 100000 in
theorem e_X2_behindBase {d : Nat} {pg : Nat → Int32} {PF : Nat → Nat → Int32} (c : Int32) : Ev (d + 1) yX2_behindBase cX2_behindBase (some .int) 0 [some (.ref 0), some (.int c)] [] (pageW pg PF) (Is (some (.int (bB pg c).1)) (pageW (bB pg c).2 PF)) := by
  refine Ev.iload_1 dX2_behindBase_0 rfl ?_
  refine Ev.iconst (v := 0) dX2_behindBase_1 (by decide) ?_
  refine Ev.bipush (v := 9) dX2_behindBase_2 (by decide) ?_
  refine k_X2_isDigit (e_X2_isDigit _ 0 9) dX2_behindBase_4 wl_X2_49 (Nat.le_of_ble_eq_true rfl) ?_
  refine Ev.if_ne 13 dX2_behindBase_7 (by decide) (fun h7 => ?_) (fun h7 => ?_)
  · rw [show bB pg c = (1, upd pg 2 (pg 2 + 1)) from if_neg h7]
    refine Ev.aload_0 dX2_behindBase_13 rfl ?_
    refine Ev.dup dX2_behindBase_14 rfl ?_
    refine Ev.getf cf2 2 (by decide) wf_X2_19 dX2_behindBase_15 rfl rfl ?_
    refine Ev.iconst (v := 1) dX2_behindBase_18 (by decide) ?_
    refine Ev.iadd dX2_behindBase_19 ?_
    refine pw_pageW_0_2 dX2_behindBase_20 wf_X2_19 ?_
    refine Ev.iconst (v := 1) dX2_behindBase_23 (by decide) ?_
    refine Ev.iret dX2_behindBase_24 ?_
    exact ⟨rfl, rfl⟩
  rw [show bB pg c = (7, pg) from if_pos h7]
  refine Ev.bipush (v := 7) dX2_behindBase_10 (by decide) ?_
  refine Ev.iret dX2_behindBase_12 ?_
  exact ⟨rfl, rfl⟩

set_option maxHeartbeats 4000000 in
set_option maxRecDepth 100000 in
theorem e_X2_behindBaseSign {d : Nat} {pg : Nat → Int32} {PF : Nat → Nat → Int32} (c : Int32) : Ev d yX2_behindBaseSign cX2_behindBaseSign (some .int) 0 [some (.ref 0), some (.int c)] [] (pageW pg PF) (Is (some (.int (bS pg c))) (pageW pg PF)) := by
  refine Ev.iload_1 dX2_behindBaseSign_0 rfl ?_
  refine Ev.bipush (v := 44) dX2_behindBaseSign_1 (by decide) ?_
  refine Ev.icmp_ne 16 dX2_behindBaseSign_3 (by decide) (fun h3 => ?_) (fun h3 => ?_)
  · refine Ev.iload_1 dX2_behindBaseSign_16 rfl ?_
    refine Ev.bipush (v := 59) dX2_behindBaseSign_17 (by decide) ?_
    refine Ev.icmp_ne 34 dX2_behindBaseSign_19 (by decide) (fun h19 => ?_) (fun h19 => ?_)
    · refine Ev.bipush (v := 7) dX2_behindBaseSign_34 (by decide) ?_
      refine Ev.iret dX2_behindBaseSign_36 ?_
      first | exact absurd (h3.symm.trans h19) (by decide) | exact ⟨by simp [bS, *], rfl⟩
    refine Ev.aload_0 dX2_behindBaseSign_22 rfl ?_
    refine Ev.getf cf2 2 (by decide) wf_X2_19 dX2_behindBaseSign_23 rfl rfl ?_
    refine Ev.iconst (v := 2) dX2_behindBaseSign_26 (by decide) ?_
    refine Ev.icmp_lt 34 dX2_behindBaseSign_27 (by decide) (fun h27 => ?_) (fun h27 => ?_)
    · refine Ev.bipush (v := 7) dX2_behindBaseSign_34 (by decide) ?_
      refine Ev.iret dX2_behindBaseSign_36 ?_
      first | exact absurd (h3.symm.trans h19) (by decide) | exact ⟨by simp [bS, *], rfl⟩
    refine Ev.iconst (v := 2) dX2_behindBaseSign_30 (by decide) ?_
    refine Ev.goto 36 dX2_behindBaseSign_31 (by decide) ?_
    refine Ev.iret dX2_behindBaseSign_36 ?_
    first | exact absurd (h3.symm.trans h19) (by decide) | exact ⟨by simp [bS, *], rfl⟩
  refine Ev.aload_0 dX2_behindBaseSign_6 rfl ?_
  refine Ev.getf cf2 2 (by decide) wf_X2_19 dX2_behindBaseSign_7 rfl rfl ?_
  refine Ev.iconst (v := 4) dX2_behindBaseSign_10 (by decide) ?_
  refine Ev.icmp_ge 16 dX2_behindBaseSign_11 (by decide) (fun h11 => ?_) (fun h11 => ?_)
  · refine Ev.iload_1 dX2_behindBaseSign_16 rfl ?_
    refine Ev.bipush (v := 59) dX2_behindBaseSign_17 (by decide) ?_
    refine Ev.icmp_ne 34 dX2_behindBaseSign_19 (by decide) (fun h19 => ?_) (fun h19 => ?_)
    · refine Ev.bipush (v := 7) dX2_behindBaseSign_34 (by decide) ?_
      refine Ev.iret dX2_behindBaseSign_36 ?_
      first | exact absurd (h3.symm.trans h19) (by decide) | exact ⟨by simp [bS, *], rfl⟩
    refine Ev.aload_0 dX2_behindBaseSign_22 rfl ?_
    refine Ev.getf cf2 2 (by decide) wf_X2_19 dX2_behindBaseSign_23 rfl rfl ?_
    refine Ev.iconst (v := 2) dX2_behindBaseSign_26 (by decide) ?_
    refine Ev.icmp_lt 34 dX2_behindBaseSign_27 (by decide) (fun h27 => ?_) (fun h27 => ?_)
    · refine Ev.bipush (v := 7) dX2_behindBaseSign_34 (by decide) ?_
      refine Ev.iret dX2_behindBaseSign_36 ?_
      first | exact absurd (h3.symm.trans h19) (by decide) | exact ⟨by simp [bS, *], rfl⟩
    refine Ev.iconst (v := 2) dX2_behindBaseSign_30 (by decide) ?_
    refine Ev.goto 36 dX2_behindBaseSign_31 (by decide) ?_
    refine Ev.iret dX2_behindBaseSign_36 ?_
    first | exact absurd (h3.symm.trans h19) (by decide) | exact ⟨by simp [bS, *], rfl⟩
  refine Ev.iconst (v := 0) dX2_behindBaseSign_14 (by decide) ?_
  refine Ev.iret dX2_behindBaseSign_15 ?_
  first | exact absurd (h3.symm.trans h19) (by decide) | exact ⟨by simp [bS, *], rfl⟩

set_option maxHeartbeats 4000000 in
set_option maxRecDepth 100000 in
theorem e_X2_behindPlace {d : Nat} {pg : Nat → Int32} {PF : Nat → Nat → Int32} (c : Int32) : Ev (d + 1) yX2_behindPlace cX2_behindPlace (some .int) 0 [some (.ref 0), some (.int c)] [] (pageW pg PF) (Is (some (.int (bP pg c).1)) (pageW (bP pg c).2 PF)) := by
  refine Ev.iload_1 dX2_behindPlace_0 rfl ?_
  refine Ev.iconst (v := 0) dX2_behindPlace_1 (by decide) ?_
  refine Ev.iconst (v := 4) dX2_behindPlace_2 (by decide) ?_
  refine k_X2_isDigit (e_X2_isDigit _ 0 4) dX2_behindPlace_3 wl_X2_49 (Nat.le_of_ble_eq_true rfl) ?_
  refine Ev.if_ne 12 dX2_behindPlace_6 (by decide) (fun h6 => ?_) (fun h6 => ?_)
  · rw [show bP pg c = (6, upd pg 3 (pg 3 + 1)) from if_neg h6]
    refine Ev.aload_0 dX2_behindPlace_12 rfl ?_
    refine Ev.dup dX2_behindPlace_13 rfl ?_
    refine Ev.getf cf2 3 (by decide) wf_X2_22 dX2_behindPlace_14 rfl rfl ?_
    refine Ev.iconst (v := 1) dX2_behindPlace_17 (by decide) ?_
    refine Ev.iadd dX2_behindPlace_18 ?_
    refine pw_pageW_0_3 dX2_behindPlace_19 wf_X2_22 ?_
    refine Ev.bipush (v := 6) dX2_behindPlace_22 (by decide) ?_
    refine Ev.iret dX2_behindPlace_24 ?_
    exact ⟨rfl, rfl⟩
  rw [show bP pg c = (7, pg) from if_pos h6]
  refine Ev.bipush (v := 7) dX2_behindPlace_9 (by decide) ?_
  refine Ev.iret dX2_behindPlace_11 ?_
  exact ⟨rfl, rfl⟩

set_option maxHeartbeats 4000000 in
set_option maxRecDepth 100000 in
theorem e_X2_dueBehind {d : Nat} {pg : Nat → Int32} {PF : Nat → Nat → Int32} {n : Nat} (hn : n < 128) : Ev (d + 4) yX2_dueBehind cX2_dueBehind (some .int) 0 [some (.ref 0), some (.int (nI n))] [] (pageW pg PF) (Is (some (.int (db pg (nI n)).1)) (pageW (db pg (nI n)).2 PF)) := by
  refine Ev.aload_0 dX2_dueBehind_0 rfl ?_
  refine Ev.getf cf2 4 (by decide) wf_X2_25 dX2_dueBehind_1 rfl rfl ?_
  by_cases hs4_0 : pg 4 = 0
  · rw [hs4_0]
    refine Ev.tableIn 48 dX2_dueBehind_4 (by decide) (by decide) rfl (by decide) ?_
    have e : db pg (nI n) = bB pg (nI n) := by simp [db, hs4_0]
    rw [e]
    refine Ev.aload_0 dX2_dueBehind_48 rfl ?_
    refine Ev.iload_1 dX2_dueBehind_49 rfl ?_
    refine k_X2_behindBase (e_X2_behindBase _) dX2_dueBehind_50 wl_X2_36 rfl (Nat.le_of_ble_eq_true rfl) ?_
    refine Ev.iret dX2_dueBehind_53 ?_
    exact ⟨by simp [*], rfl⟩
  by_cases hs4_1 : pg 4 = 1
  · rw [hs4_1]
    refine Ev.tableIn 54 dX2_dueBehind_4 (by decide) (by decide) rfl (by decide) ?_
    have e : db pg (nI n) = (bS pg (nI n), pg) := by simp [db, hs4_1]
    rw [e]
    refine Ev.aload_0 dX2_dueBehind_54 rfl ?_
    refine Ev.iload_1 dX2_dueBehind_55 rfl ?_
    refine k_X2_behindBaseSign (e_X2_behindBaseSign _) dX2_dueBehind_56 wl_X2_39 rfl (Nat.le_of_ble_eq_true rfl) ?_
    refine Ev.iret dX2_dueBehind_59 ?_
    exact ⟨by simp [*], rfl⟩
  by_cases hs4_2 : pg 4 = 2
  · rw [hs4_2]
    refine Ev.tableIn 60 dX2_dueBehind_4 (by decide) (by decide) rfl (by decide) ?_
    have e : db pg (nI n) = ((if kix (nI n) < 0 then 7 else 3), pg) := by simp [db, hs4_2]
    rw [e]
    refine Ev.ldcS rfl dX2_dueBehind_60 ?_
    refine Ev.iload_1 dX2_dueBehind_62 rfl ?_
    refine Ev.i2c dX2_dueBehind_63 (i2c_small hn) ?_
    refine k_kix (hn) dX2_dueBehind_64 wl_X2_44 (Nat.le_of_ble_eq_true rfl) ?_
    refine Ev.if_lt 74 dX2_dueBehind_67 (by decide) (fun h67 => ?_) (fun h67 => ?_)
    · refine Ev.bipush (v := 7) dX2_dueBehind_74 (by decide) ?_
      refine Ev.iret dX2_dueBehind_76 ?_
      exact ⟨by simp [*], rfl⟩
    refine Ev.iconst (v := 3) dX2_dueBehind_70 (by decide) ?_
    refine Ev.goto 76 dX2_dueBehind_71 (by decide) ?_
    refine Ev.iret dX2_dueBehind_76 ?_
    exact ⟨by simp [*], rfl⟩
  by_cases hs4_3 : pg 4 = 3
  · rw [hs4_3]
    refine Ev.tableIn 77 dX2_dueBehind_4 (by decide) (by decide) rfl (by decide) ?_
    have e : db pg (nI n) = ((if isdg (nI n) 1 9 = 0 then 7 else 4), pg) := by simp [db, hs4_3]
    rw [e]
    refine Ev.iload_1 dX2_dueBehind_77 rfl ?_
    refine Ev.iconst (v := 1) dX2_dueBehind_78 (by decide) ?_
    refine Ev.bipush (v := 9) dX2_dueBehind_79 (by decide) ?_
    refine k_X2_isDigit (e_X2_isDigit _ 1 9) dX2_dueBehind_81 wl_X2_49 (Nat.le_of_ble_eq_true rfl) ?_
    refine Ev.if_eq 91 dX2_dueBehind_84 (by decide) (fun h84 => ?_) (fun h84 => ?_)
    · refine Ev.bipush (v := 7) dX2_dueBehind_91 (by decide) ?_
      refine Ev.iret dX2_dueBehind_93 ?_
      exact ⟨by simp [*], rfl⟩
    refine Ev.iconst (v := 4) dX2_dueBehind_87 (by decide) ?_
    refine Ev.goto 93 dX2_dueBehind_88 (by decide) ?_
    refine Ev.iret dX2_dueBehind_93 ?_
    exact ⟨by simp [*], rfl⟩
  by_cases hs4_4 : pg 4 = 4
  · rw [hs4_4]
    refine Ev.tableIn 94 dX2_dueBehind_4 (by decide) (by decide) rfl (by decide) ?_
    have e : db pg (nI n) = ((if isdg (nI n) 0 (pg 2 - 1) = 0 then 7 else 5), pg) := by simp [db, hs4_4]
    rw [e]
    refine Ev.iload_1 dX2_dueBehind_94 rfl ?_
    refine Ev.iconst (v := 0) dX2_dueBehind_95 (by decide) ?_
    refine Ev.aload_0 dX2_dueBehind_96 rfl ?_
    refine Ev.getf cf2 2 (by decide) wf_X2_19 dX2_dueBehind_97 rfl rfl ?_
    refine Ev.iconst (v := 1) dX2_dueBehind_100 (by decide) ?_
    refine Ev.isub dX2_dueBehind_101 ?_
    refine k_X2_isDigit (e_X2_isDigit _ 0 _) dX2_dueBehind_102 wl_X2_49 (Nat.le_of_ble_eq_true rfl) ?_
    refine Ev.if_eq 112 dX2_dueBehind_105 (by decide) (fun h105 => ?_) (fun h105 => ?_)
    · refine Ev.bipush (v := 7) dX2_dueBehind_112 (by decide) ?_
      refine Ev.iret dX2_dueBehind_114 ?_
      exact ⟨by simp [*], rfl⟩
    refine Ev.iconst (v := 5) dX2_dueBehind_108 (by decide) ?_
    refine Ev.goto 114 dX2_dueBehind_109 (by decide) ?_
    refine Ev.iret dX2_dueBehind_114 ?_
    exact ⟨by simp [*], rfl⟩
  by_cases hs4_5 : pg 4 = 5
  · rw [hs4_5]
    refine Ev.tableIn 115 dX2_dueBehind_4 (by decide) (by decide) rfl (by decide) ?_
    have e : db pg (nI n) = bP pg (nI n) := by simp [db, hs4_5]
    rw [e]
    refine Ev.aload_0 dX2_dueBehind_115 rfl ?_
    refine Ev.iload_1 dX2_dueBehind_116 rfl ?_
    refine k_X2_behindPlace (e_X2_behindPlace _) dX2_dueBehind_117 wl_X2_53 rfl (Nat.le_of_ble_eq_true rfl) ?_
    refine Ev.iret dX2_dueBehind_120 ?_
    exact ⟨by simp [*], rfl⟩
  by_cases hs4_6 : pg 4 = 6
  · rw [hs4_6]
    refine Ev.tableIn 121 dX2_dueBehind_4 (by decide) (by decide) rfl (by decide) ?_
    have e : db pg (nI n) = ((if nI n = 44 ∧ ¬ 5 ≤ pg 3 then 2 else 7), pg) := by simp [db, hs4_6]
    rw [e]
    refine Ev.iload_1 dX2_dueBehind_121 rfl ?_
    refine Ev.bipush (v := 44) dX2_dueBehind_122 (by decide) ?_
    refine Ev.icmp_ne 139 dX2_dueBehind_124 (by decide) (fun h124 => ?_) (fun h124 => ?_)
    · refine Ev.bipush (v := 7) dX2_dueBehind_139 (by decide) ?_
      refine Ev.iret dX2_dueBehind_141 ?_
      exact ⟨by simp [*], rfl⟩
    refine Ev.aload_0 dX2_dueBehind_127 rfl ?_
    refine Ev.getf cf2 3 (by decide) wf_X2_22 dX2_dueBehind_128 rfl rfl ?_
    refine Ev.iconst (v := 5) dX2_dueBehind_131 (by decide) ?_
    refine Ev.icmp_ge 139 dX2_dueBehind_132 (by decide) (fun h132 => ?_) (fun h132 => ?_)
    · refine Ev.bipush (v := 7) dX2_dueBehind_139 (by decide) ?_
      refine Ev.iret dX2_dueBehind_141 ?_
      exact ⟨by simp [*], rfl⟩
    refine Ev.iconst (v := 2) dX2_dueBehind_135 (by decide) ?_
    refine Ev.goto 141 dX2_dueBehind_136 (by decide) ?_
    refine Ev.iret dX2_dueBehind_141 ?_
    exact ⟨by simp [*], rfl⟩
  refine Ev.tableOut 142 dX2_dueBehind_4 (by have q0 := lv_neT hs4_0 (a := 0) (by decide); have q1 := lv_neT hs4_1 (a := 1) (by decide); have q2 := lv_neT hs4_2 (a := 2) (by decide); have q3 := lv_neT hs4_3 (a := 3) (by decide); have q4 := lv_neT hs4_4 (a := 4) (by decide); have q5 := lv_neT hs4_5 (a := 5) (by decide); have q6 := lv_neT hs4_6 (a := 6) (by decide); omega) (by decide) ?_
  have e : db pg (nI n) = (7, pg) := by simp [db, *]
  rw [e]
  refine Ev.bipush (v := 7) dX2_dueBehind_142 (by decide) ?_
  refine Ev.iret dX2_dueBehind_144 ?_
  exact ⟨by simp [*], rfl⟩

set_option maxHeartbeats 4000000 in
set_option maxRecDepth 100000 in
theorem e_scan_loop {d : Nat} {PF : Nat → Nat → Int32} {L : Nat} (h36 : L ≤ 36) (hc : ∀ j, j < L → ∃ n, n < 128 ∧ PF 0 j = nI n) : ∀ (n k : Nat) (pg : Nat → Int32) (R : Int32 × (Nat → Int32)), pg 1 = nI L → k + n = L → scF (PF 0) n k pg = R → Ev (d + 5) yX2_scan cX2_scan (some .int) 17 [some (.ref 0), some (.int (nI k))] [] (pageW pg PF) (Is (some (.int R.1)) (pageW R.2 PF)) := by
  intro n
  induction n with
  | zero =>
    intro k pg R hL hk hR
    refine Ev.iload_1 dX2_scan_17 rfl ?_
    refine Ev.aload_0 dX2_scan_18 rfl ?_
    refine Ev.getf cf2 1 (by decide) wf_X2_15 dX2_scan_19 rfl rfl ?_
    refine Ev.icmp_ge 56 dX2_scan_22 (by decide) (fun h22 => ?_) (fun h22 => ?_)
    · refine Ev.aload_0 dX2_scan_56 rfl ?_
      refine Ev.getf cf2 1 (by decide) wf_X2_15 dX2_scan_57 rfl rfl ?_
      refine Ev.iret dX2_scan_60 ?_
      exact ⟨by rw [← hR]; rfl, by rw [← hR]; rfl⟩
    · exact absurd (lp_le hL (by omega) (by omega)) h22
  | succ n ih =>
    intro k pg R hL hk hR
    refine Ev.iload_1 dX2_scan_17 rfl ?_
    refine Ev.aload_0 dX2_scan_18 rfl ?_
    refine Ev.getf cf2 1 (by decide) wf_X2_15 dX2_scan_19 rfl rfl ?_
    refine Ev.icmp_ge 56 dX2_scan_22 (by decide) (fun h22 => ?_) (fun h22 => ?_)
    · exact absurd h22 (lp_ge hL (by omega) (by omega))
    refine Ev.aload_0 dX2_scan_25 rfl ?_
    refine Ev.aload_0 dX2_scan_26 rfl ?_
    refine Ev.aload_0 dX2_scan_27 rfl ?_
    refine Ev.getf cf2 0 (by decide) wf_X2_9 dX2_scan_28 rfl rfl ?_
    refine Ev.iload_1 dX2_scan_31 rfl ?_
    refine Ev.aldn dX2_scan_32 rfl (by omega) (by decide) ?_
    obtain ⟨c, hc1, hc2⟩ := hc k (by omega)
    rw [hc2]
    refine k_X2_dueBehind (e_X2_dueBehind hc1) dX2_scan_33 wl_X2_28 rfl (Nat.le_of_ble_eq_true rfl) ?_
    refine pw_pageW_0_4 dX2_scan_36 wf_X2_25 ?_
    refine Ev.aload_0 dX2_scan_39 rfl ?_
    refine Ev.getf cf2 4 (by decide) wf_X2_25 dX2_scan_40 rfl rfl ?_
    refine Ev.bipush (v := 7) dX2_scan_43 (by decide) ?_
    refine Ev.icmp_ne 50 dX2_scan_45 (by decide) (fun h45 => ?_) (fun h45 => ?_)
    · have e : scF (PF 0) (n + 1) k pg = scF (PF 0) n (k + 1) (upd (db pg (nI c)).2 4 (db pg (nI c)).1) := by
        rw [scF, hc2, if_neg (show ¬ (db pg (nI c)).1 = 7 from h45)]
      first | refine Ev.incn1 dX2_scan_50 rfl ?_ | refine Ev.inc1 dX2_scan_50 rfl ?_
      refine Ev.goto 17 dX2_scan_53 (by decide) ?_
      exact ih (k + 1) _ R (by show upd _ 4 _ 1 = _; simp only [upd]; rw [if_neg (by decide), db_1]; exact hL) (by omega) (by rw [← hR, e])
    have e : scF (PF 0) (n + 1) k pg = (nI k, upd (db pg (nI c)).2 4 (db pg (nI c)).1) := by
      rw [scF, hc2, if_pos (show (db pg (nI c)).1 = 7 from h45)]
    refine Ev.iload_1 dX2_scan_48 rfl ?_
    refine Ev.iret dX2_scan_49 ?_
    exact ⟨by rw [← hR, e], by rw [← hR, e]⟩

set_option maxHeartbeats 4000000 in
set_option maxRecDepth 100000 in
theorem e_X2_scan {d : Nat} {pg : Nat → Int32} {PF : Nat → Nat → Int32} {L : Nat} (hL : pg 1 = nI L) (h36 : L ≤ 36) (hc : ∀ j, j < L → ∃ n, n < 128 ∧ PF 0 j = nI n)  : Ev (d + 5) yX2_scan cX2_scan (some .int) 0 [some (.ref 0), none] [] (pageW pg PF) (Is (some (.int (sc (PF 0) L pg).1)) (pageW (sc (PF 0) L pg).2 PF)) := by
  refine Ev.aload_0 dX2_scan_0 rfl ?_
  refine Ev.iconst (v := 0) dX2_scan_1 (by decide) ?_
  refine pw_pageW_0_2 dX2_scan_2 wf_X2_19 ?_
  refine Ev.aload_0 dX2_scan_5 rfl ?_
  refine Ev.iconst (v := 0) dX2_scan_6 (by decide) ?_
  refine pw_pageW_0_3 dX2_scan_7 wf_X2_22 ?_
  refine Ev.aload_0 dX2_scan_10 rfl ?_
  refine Ev.iconst (v := 0) dX2_scan_11 (by decide) ?_
  refine pw_pageW_0_4 dX2_scan_12 wf_X2_25 ?_
  refine Ev.iconst (v := 0) dX2_scan_15 (by decide) ?_
  refine Ev.ist1 dX2_scan_16 rfl ?_
  exact e_scan_loop h36 hc L 0 _ (sc (PF 0) L pg) hL (by omega) rfl

set_option maxHeartbeats 4000000 in
set_option maxRecDepth 100000 in
theorem e_X2_isTable {d : Nat} {pg : Nat → Int32} {PF : Nat → Nat → Int32} {L : Nat} (hL : pg 1 = nI L) (h36 : L ≤ 36) (hc : ∀ j, j < L → ∃ n, n < 128 ∧ PF 0 j = nI n)  : Ev (d + 6) yX2_isTable cX2_isTable (some .boolean) 0 [some (.ref 0)] [] (pageW pg PF) (Is (some (.int (if (sc (PF 0) L pg).1 = (sc (PF 0) L pg).2 1 ∧ (sc (PF 0) L pg).2 4 = 6 then 1 else 0))) (pageW (sc (PF 0) L pg).2 PF)) := by
  refine Ev.aload_0 dX2_isTable_0 rfl ?_
  refine k_X2_scan (e_X2_scan hL h36 hc) dX2_isTable_1 wl_X2_32 rfl (Nat.le_of_ble_eq_true rfl) ?_
  refine Ev.aload_0 dX2_isTable_4 rfl ?_
  refine Ev.getf cf2 1 (by decide) wf_X2_15 dX2_isTable_5 rfl rfl ?_
  refine Ev.icmp_ne 24 dX2_isTable_8 (by decide) (fun h8 => ?_) (fun h8 => ?_)
  · refine Ev.iconst (v := 0) dX2_isTable_24 (by decide) ?_
    refine Ev.zret dX2_isTable_25 (by decide) ?_
    exact ⟨by simp [*], rfl⟩
  refine Ev.aload_0 dX2_isTable_11 rfl ?_
  refine Ev.getf cf2 4 (by decide) wf_X2_25 dX2_isTable_12 rfl rfl ?_
  refine Ev.bipush (v := 6) dX2_isTable_15 (by decide) ?_
  refine Ev.icmp_ne 24 dX2_isTable_17 (by decide) (fun h17 => ?_) (fun h17 => ?_)
  · refine Ev.iconst (v := 0) dX2_isTable_24 (by decide) ?_
    refine Ev.zret dX2_isTable_25 (by decide) ?_
    exact ⟨by simp [*], rfl⟩
  refine Ev.iconst (v := 1) dX2_isTable_20 (by decide) ?_
  refine Ev.goto 25 dX2_isTable_21 (by decide) ?_
  refine Ev.zret dX2_isTable_25 (by decide) ?_
  exact ⟨by simp [*], rfl⟩

set_option maxHeartbeats 4000000 in
set_option maxRecDepth 100000 in
theorem e_X2_digitAt {d : Nat} {pg : Nat → Int32} {PF : Nat → Nat → Int32} {L : Nat} (hL : pg 1 = nI L) (h36 : L ≤ 36) (hc : ∀ j, j < L → ∃ n, n < 128 ∧ PF 0 j = nI n) {a : Nat} (h1k : a ≤ 1000) : Ev (d + 4) yX2_digitAt cX2_digitAt (some .int) 0 [some (.ref 0), some (.int (nI a))] [] (pageW pg PF) (Is (some (.int (dgt (PF 0) L a))) (pageW pg PF)) := by
  refine Ev.iload_1 dX2_digitAt_0 rfl ?_
  refine Ev.if_lt 24 dX2_digitAt_1 (by decide) (fun h1 => ?_) (fun h1 => ?_)
  · exact absurd h1 (nI_pos (by omega))
  refine Ev.iload_1 dX2_digitAt_4 rfl ?_
  refine Ev.aload_0 dX2_digitAt_5 rfl ?_
  refine Ev.getf cf2 1 (by decide) wf_X2_15 dX2_digitAt_6 rfl rfl ?_
  refine Ev.icmp_ge 24 dX2_digitAt_9 (by decide) (fun h9 => ?_) (fun h9 => ?_)
  · have ha : ¬ a < L := fun q => absurd h9 (lp_ge hL q (by omega))
    refine Ev.iconst (v := 0) dX2_digitAt_24 (by decide) ?_
    refine Ev.iret dX2_digitAt_25 ?_
    exact ⟨by simp [dgt, *], rfl⟩
  have ha : a < L := by
    by_cases q : a < L
    · exact q
    · exact absurd (lp_le hL (by omega) (by omega)) h9
  refine Ev.aload_0 dX2_digitAt_12 rfl ?_
  refine Ev.getf cf2 0 (by decide) wf_X2_9 dX2_digitAt_13 rfl rfl ?_
  refine Ev.iload_1 dX2_digitAt_16 rfl ?_
  refine Ev.aldn dX2_digitAt_17 rfl (by omega) (by decide) ?_
  refine Ev.bipush (v := 48) dX2_digitAt_18 (by decide) ?_
  refine Ev.isub dX2_digitAt_20 ?_
  refine Ev.goto 25 dX2_digitAt_21 (by decide) ?_
  refine Ev.iret dX2_digitAt_25 ?_
  exact ⟨by simp [dgt, *], rfl⟩

set_option maxHeartbeats 4000000 in
set_option maxRecDepth 100000 in
theorem e_X2_kindAt {d : Nat} {pg : Nat → Int32} {PF : Nat → Nat → Int32} {L : Nat} (hL : pg 1 = nI L) (h36 : L ≤ 36) (hc : ∀ j, j < L → ∃ n, n < 128 ∧ PF 0 j = nI n) {a : Nat} (h1k : a ≤ 1000) : Ev (d + 4) yX2_kindAt cX2_kindAt (some .int) 0 [some (.ref 0), some (.int (nI a))] [] (pageW pg PF) (Is (some (.int (kat (PF 0) L a))) (pageW pg PF)) := by
  refine Ev.iload_1 dX2_kindAt_0 rfl ?_
  refine Ev.if_lt 27 dX2_kindAt_1 (by decide) (fun h1 => ?_) (fun h1 => ?_)
  · exact absurd h1 (nI_pos (by omega))
  refine Ev.iload_1 dX2_kindAt_4 rfl ?_
  refine Ev.aload_0 dX2_kindAt_5 rfl ?_
  refine Ev.getf cf2 1 (by decide) wf_X2_15 dX2_kindAt_6 rfl rfl ?_
  refine Ev.icmp_ge 27 dX2_kindAt_9 (by decide) (fun h9 => ?_) (fun h9 => ?_)
  · have ha : ¬ a < L := fun q => absurd h9 (lp_ge hL q (by omega))
    refine Ev.iconst (v := 0) dX2_kindAt_27 (by decide) ?_
    refine Ev.iret dX2_kindAt_28 ?_
    exact ⟨by simp [kat, *], rfl⟩
  have ha : a < L := by
    by_cases q : a < L
    · exact q
    · exact absurd (lp_le hL (by omega) (by omega)) h9
  refine Ev.ldcS rfl dX2_kindAt_12 ?_
  refine Ev.aload_0 dX2_kindAt_14 rfl ?_
  refine Ev.getf cf2 0 (by decide) wf_X2_9 dX2_kindAt_15 rfl rfl ?_
  refine Ev.iload_1 dX2_kindAt_18 rfl ?_
  refine Ev.aldn dX2_kindAt_19 rfl (by omega) (by decide) ?_
  obtain ⟨c, hc1, hc2⟩ := hc a ha
  rw [hc2]
  refine Ev.i2c dX2_kindAt_20 (i2c_small hc1) ?_
  refine k_kix (hc1) dX2_kindAt_21 wl_X2_44 (Nat.le_of_ble_eq_true rfl) ?_
  refine Ev.goto 28 dX2_kindAt_24 (by decide) ?_
  refine Ev.iret dX2_kindAt_28 ?_
  exact ⟨by simp [kat, *], rfl⟩

set_option maxHeartbeats 4000000 in
set_option maxRecDepth 100000 in
theorem e_readInto_1 {d : Nat} {pg l : Nat → Int32} {PF : Nat → Nat → Int32} {Q : Option Value → List Ce → Prop} {L : Nat} (hL : pg 1 = nI L) (h36 : L ≤ 36) (hc : ∀ j, j < L → ∃ n, n < 128 ∧ PF 0 j = nI n) {V : Nat} (hV : l 0 = nI V) (h4 : V ≤ 4) : ∀ (n : Nat) (k : Nat) (LF R : Nat → Nat → Int32), k + n = V → rdB (PF 0) L n k LF = R → Ev (d + 5) yX2_readInto cX2_readInto none 41 [some (.ref 0), some (.ref 2), some (.int (nI V)), none] [] (pageLandW pg PF l R) Q → Ev (d + 5) yX2_readInto cX2_readInto none 14 [some (.ref 0), some (.ref 2), some (.int (nI k)), none] [] (pageLandW pg PF l LF) Q := by
  intro n
  induction n with
  | zero =>
    intro k LF R hk hR K
    have hk : k = V := by omega
    subst hk
    have hR : LF = R := hR
    subst hR
    refine Ev.iload_2 dX2_readInto_14 rfl ?_
    refine Ev.aload_1 dX2_readInto_15 rfl ?_
    refine Ev.getf cf0 0 (by decide) wf_X2_62 dX2_readInto_16 rfl rfl ?_
    refine Ev.icmp_ge 41 dX2_readInto_19 (by decide) (fun h19 => ?_) (fun h19 => ?_)
    · exact K
    · exact absurd (lp_le hV (by omega) (by omega)) h19
  | succ n ih =>
    intro k LF R hk hR K
    refine Ev.iload_2 dX2_readInto_14 rfl ?_
    refine Ev.aload_1 dX2_readInto_15 rfl ?_
    refine Ev.getf cf0 0 (by decide) wf_X2_62 dX2_readInto_16 rfl rfl ?_
    refine Ev.icmp_ge 41 dX2_readInto_19 (by decide) (fun h19 => ?_) (fun h19 => ?_)
    · exact absurd h19 (lp_ge hV (by omega) (by omega))
    refine Ev.aload_1 dX2_readInto_22 rfl ?_
    refine Ev.getf cf0 2 (by decide) wf_X2_63 dX2_readInto_23 rfl rfl ?_
    refine Ev.iload_2 dX2_readInto_26 rfl ?_
    refine Ev.aload_0 dX2_readInto_27 rfl ?_
    refine Ev.iconst (v := 2) dX2_readInto_28 (by decide) ?_
    refine Ev.iload_2 dX2_readInto_29 rfl ?_
    refine Ev.imul dX2_readInto_30 ?_
    rw [show (2 : Int32) * nI k = nI (2 * k) from pk_mul 2 k]
    refine kp_X2_digitAt [0, 1] (e_X2_digitAt hL h36 hc (by omega)) dX2_readInto_31 wl_X2_66 rfl (Nat.le_of_ble_eq_true rfl) rfl (by decide) ⟨rfl, rfl⟩ rfl ?_
    refine aw_pageLandW_3 dX2_readInto_34 (by omega) ?_
    first | refine Ev.incn2 dX2_readInto_35 rfl ?_ | refine Ev.inc2 dX2_readInto_35 rfl ?_
    refine Ev.goto 14 dX2_readInto_38 (by decide) ?_
    exact ih (k + 1) _ R (by omega) (by rw [← hR]; rfl) K

set_option maxHeartbeats 4000000 in
set_option maxRecDepth 100000 in
theorem e_readInto_2 {d : Nat} {pg l : Nat → Int32} {PF : Nat → Nat → Int32} {Q : Option Value → List Ce → Prop} {L : Nat} (hL : pg 1 = nI L) (h36 : L ≤ 36) (hc : ∀ j, j < L → ∃ n, n < 128 ∧ PF 0 j = nI n) {V N : Nat} (hV : pg 2 = nI V) (h4 : V ≤ 4) (hN : l 1 = nI N) (h5 : N ≤ 5) : ∀ (n : Nat) (k : Nat) (LF R : Nat → Nat → Int32) (x : Option Value), lok [some (.ref 0), some (.ref 2), some (.int (nI k)), x] 3 = true → k + n = N → rdW (PF 0) L V n k LF = R → (∀ x : Option Value, Ev (d + 5) yX2_readInto cX2_readInto none 118 [some (.ref 0), some (.ref 2), some (.int (nI N)), x] [] (pageLandW pg PF l R) Q) → Ev (d + 5) yX2_readInto cX2_readInto none 43 [some (.ref 0), some (.ref 2), some (.int (nI k)), x] [] (pageLandW pg PF l LF) Q := by
  intro n
  induction n with
  | zero =>
    intro k LF R x hx hk hR K
    have hk : k = N := by omega
    subst hk
    have hR : LF = R := hR
    subst hR
    refine Ev.iload_2 dX2_readInto_43 rfl ?_
    refine Ev.aload_1 dX2_readInto_44 rfl ?_
    refine Ev.getf cf0 1 (by decide) wf_X2_69 dX2_readInto_45 rfl rfl ?_
    refine Ev.icmp_ge 118 dX2_readInto_48 (by decide) (fun h48 => ?_) (fun h48 => ?_)
    · exact K _
    · exact absurd (lp_le hN (by omega) (by omega)) h48
  | succ n ih =>
    intro k LF R x hx hk hR K
    refine Ev.iload_2 dX2_readInto_43 rfl ?_
    refine Ev.aload_1 dX2_readInto_44 rfl ?_
    refine Ev.getf cf0 1 (by decide) wf_X2_69 dX2_readInto_45 rfl rfl ?_
    refine Ev.icmp_ge 118 dX2_readInto_48 (by decide) (fun h48 => ?_) (fun h48 => ?_)
    · exact absurd h48 (lp_ge hN (by omega) (by omega))
    refine Ev.iconst (v := 2) dX2_readInto_51 (by decide) ?_
    refine Ev.aload_0 dX2_readInto_52 rfl ?_
    refine Ev.getf cf2 2 (by decide) wf_X2_19 dX2_readInto_53 rfl rfl ?_
    refine Ev.imul dX2_readInto_56 ?_
    refine Ev.iconst (v := 5) dX2_readInto_57 (by decide) ?_
    refine Ev.iload_2 dX2_readInto_58 rfl ?_
    refine Ev.imul dX2_readInto_59 ?_
    refine Ev.iadd dX2_readInto_60 ?_
    rw [hV, show (2 : Int32) * nI V = nI (2 * V) from pk_mul 2 V, show (5 : Int32) * nI k = nI (5 * k) from pk_mul 5 k, nI_add]
    refine Ev.ist3 dX2_readInto_61 rfl ?_
    refine Ev.aload_1 dX2_readInto_62 rfl ?_
    refine Ev.getf cf0 3 (by decide) wf_X2_70 dX2_readInto_63 rfl rfl ?_
    refine Ev.iload_2 dX2_readInto_66 rfl ?_
    refine Ev.aload_0 dX2_readInto_67 rfl ?_
    refine Ev.iload_3 dX2_readInto_68 rfl ?_
    refine kp_X2_kindAt [0, 1] (e_X2_kindAt hL h36 hc (by omega)) dX2_readInto_69 wl_X2_73 rfl (Nat.le_of_ble_eq_true rfl) rfl (by decide) ⟨rfl, rfl⟩ rfl ?_
    refine aw_pageLandW_4 dX2_readInto_72 (by omega) ?_
    refine Ev.aload_1 dX2_readInto_73 rfl ?_
    refine Ev.getf cf0 4 (by decide) wf_X2_76 dX2_readInto_74 rfl rfl ?_
    refine Ev.iload_2 dX2_readInto_77 rfl ?_
    refine Ev.aload_0 dX2_readInto_78 rfl ?_
    refine Ev.iload_3 dX2_readInto_79 rfl ?_
    refine Ev.iconst (v := 1) dX2_readInto_80 (by decide) ?_
    refine Ev.iadd dX2_readInto_81 ?_
    rw [show nI (2 * V + 5 * k) + 1 = nI (2 * V + 5 * k + 1) from nI_add _ 1]
    refine kp_X2_digitAt [0, 1] (e_X2_digitAt hL h36 hc (by omega)) dX2_readInto_82 wl_X2_66 rfl (Nat.le_of_ble_eq_true rfl) rfl (by decide) ⟨rfl, rfl⟩ rfl ?_
    refine aw_pageLandW_5 dX2_readInto_85 (by omega) ?_
    refine Ev.aload_1 dX2_readInto_86 rfl ?_
    refine Ev.getf cf0 5 (by decide) wf_X2_79 dX2_readInto_87 rfl rfl ?_
    refine Ev.iload_2 dX2_readInto_90 rfl ?_
    refine Ev.aload_0 dX2_readInto_91 rfl ?_
    refine Ev.iload_3 dX2_readInto_92 rfl ?_
    refine Ev.iconst (v := 2) dX2_readInto_93 (by decide) ?_
    refine Ev.iadd dX2_readInto_94 ?_
    rw [show nI (2 * V + 5 * k) + 2 = nI (2 * V + 5 * k + 2) from nI_add _ 2]
    refine kp_X2_digitAt [0, 1] (e_X2_digitAt hL h36 hc (by omega)) dX2_readInto_95 wl_X2_66 rfl (Nat.le_of_ble_eq_true rfl) rfl (by decide) ⟨rfl, rfl⟩ rfl ?_
    refine aw_pageLandW_6 dX2_readInto_98 (by omega) ?_
    refine Ev.aload_1 dX2_readInto_99 rfl ?_
    refine Ev.getf cf0 6 (by decide) wf_X2_82 dX2_readInto_100 rfl rfl ?_
    refine Ev.iload_2 dX2_readInto_103 rfl ?_
    refine Ev.aload_0 dX2_readInto_104 rfl ?_
    refine Ev.iload_3 dX2_readInto_105 rfl ?_
    refine Ev.iconst (v := 3) dX2_readInto_106 (by decide) ?_
    refine Ev.iadd dX2_readInto_107 ?_
    rw [show nI (2 * V + 5 * k) + 3 = nI (2 * V + 5 * k + 3) from nI_add _ 3]
    refine kp_X2_digitAt [0, 1] (e_X2_digitAt hL h36 hc (by omega)) dX2_readInto_108 wl_X2_66 rfl (Nat.le_of_ble_eq_true rfl) rfl (by decide) ⟨rfl, rfl⟩ rfl ?_
    refine aw_pageLandW_7 dX2_readInto_111 (by omega) ?_
    first | refine Ev.incn2 dX2_readInto_112 rfl ?_ | refine Ev.inc2 dX2_readInto_112 rfl ?_
    refine Ev.goto 43 dX2_readInto_115 (by decide) ?_
    exact ih (k + 1) _ R _ rfl (by omega) (by rw [← hR]; rfl) K

theorem cl4 {V : Nat} (h : V ≤ 4) : jmax 0 (jmin 4 (nI V)) = nI V := by
  have q : ∀ V : Fin 5, jmax 0 (jmin 4 (nI V.val)) = nI V.val := by decide +kernel
  exact q ⟨V, by omega⟩
theorem cl5 {N : Nat} (h : N ≤ 5) : jmax 0 (jmin 5 (nI N)) = nI N := by
  have q : ∀ V : Fin 6, jmax 0 (jmin 5 (nI V.val)) = nI V.val := by decide +kernel
  exact q ⟨N, by omega⟩

set_option maxHeartbeats 4000000 in
set_option maxRecDepth 100000 in
theorem e_X2_readInto {d : Nat} {pg l : Nat → Int32} {PF LF : Nat → Nat → Int32} {L : Nat} (hL : pg 1 = nI L) (h36 : L ≤ 36) (hc : ∀ j, j < L → ∃ n, n < 128 ∧ PF 0 j = nI n) {V N : Nat} (hV : pg 2 = nI V) (h4 : V ≤ 4) (hN : pg 3 = nI N) (h5 : N ≤ 5) : Ev (d + 5) yX2_readInto cX2_readInto none 0 [some (.ref 0), some (.ref 2), none, none] [] (pageLandW pg PF l LF) (Is none (pageLandW pg PF (clL l (pg 2) (pg 3)) (rdW (PF 0) L V N 0 (rdB (PF 0) L V 0 (clrF 5 0 LF))))) := by
  refine Ev.aload_1 dX2_readInto_0 rfl ?_
  refine Ev.aload_0 dX2_readInto_1 rfl ?_
  refine Ev.getf cf2 2 (by decide) wf_X2_19 dX2_readInto_2 rfl rfl ?_
  refine Ev.aload_0 dX2_readInto_5 rfl ?_
  refine Ev.getf cf2 3 (by decide) wf_X2_22 dX2_readInto_6 rfl rfl ?_
  refine ke_X0_clear (w2 := (pageLandW pg PF (clL l (pg 2) (pg 3)) (clrF 5 0 LF))) [2, 3, 4, 5, 6, 7, 8] (e_X0_clear _ _) dX2_readInto_9 wl_X2_56 rfl (Nat.le_of_ble_eq_true rfl) rfl (by decide) ⟨rfl, rfl⟩ rfl rfl rfl ?_
  refine Ev.iconst (v := 0) dX2_readInto_12 (by decide) ?_
  refine Ev.ist2 dX2_readInto_13 rfl ?_
  refine e_readInto_1 hL h36 hc (V := V) (by show jmax 0 (jmin 4 (pg 2)) = nI V; rw [hV]; exact cl4 h4) h4 V 0 _ _ (by omega) rfl ?_
  refine Ev.iconst (v := 0) dX2_readInto_41 (by decide) ?_
  refine Ev.ist2 dX2_readInto_42 rfl ?_
  exact e_readInto_2 hL h36 hc hV h4 (N := N) (by show jmax 0 (jmin 5 (pg 3)) = nI N; rw [hN]; exact cl5 h5) h5 N 0 _ _ _ rfl (by omega) rfl (fun x => Ev.vret dX2_readInto_118 ⟨rfl, rfl⟩)
