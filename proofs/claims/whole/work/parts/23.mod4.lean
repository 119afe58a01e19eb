abbrev MSt : Type := (Nat → Int32) × (Nat → Nat → Int32)
def gaw (F : Nat → Nat → Int32) (w : Nat) : Nat → Nat → Int32 := up2 (up2 (up2 F 6 w (-1)) 7 w (-1)) 8 w 0
def msl (g : Nat → Int32) (F : Nat → Nat → Int32) (w : Nat) (side : Int32) : MSt := if wtn (F 7 w + stp side) 0 4 = 0 then (upd g 11 (g 11 + 1), gaw (up2 F 7 w (F 7 w + stp side)) w) else (g, up2 F 7 w (F 7 w + stp side))
def mw1 (F : Nat → Nat → Int32) (w : Nat) : Nat → Nat → Int32 := up2 F 5 w (F 5 w - (if F 4 w = 2 ∧ ¬ F 5 w ≤ 1 then 1 else 0))
def mw2 (F : Nat → Nat → Int32) (w : Nat) : Nat → Nat → Int32 := up2 F 8 w (F 8 w + (if F 4 w = 3 ∧ ¬ 3 ≤ F 8 w then 1 else 0))
def mwr (F : Nat → Nat → Int32) (w : Nat) : Nat → Nat → Int32 := if F 6 w = -1 then F else mw2 (mw1 F w) w
def msF (bits side : Int32) : Nat → Nat → (Nat → Int32) → (Nat → Nat → Int32) → MSt
  | 0, _, g, F => (g, F)
  | n + 1, k, g, F => if F 6 k = -1 ∨ isin bits (F 6 k) = 0 then msF bits side n (k + 1) g F else msF bits side n (k + 1) (msl g F k side).1 (msl g F k side).2
def mrF : Nat → Nat → (Nat → Nat → Int32) → Nat → Nat → Int32
  | 0, _, F => F
  | n + 1, k, F => mrF n (k + 1) (mwr F k)
theorem msl_2 (g : Nat → Int32) (F : Nat → Nat → Int32) (w : Nat) (side : Int32) : (msl g F w side).1 2 = g 2 := by
  unfold msl; split <;> simp [upd]
theorem msF_2 (bits side : Int32) : ∀ (n k : Nat) (g : Nat → Int32) (F : Nat → Nat → Int32), (msF bits side n k g F).1 2 = g 2
  | 0, _, _, _ => rfl
  | n + 1, k, g, F => by
    rw [msF]
    split
    · exact msF_2 bits side n (k + 1) g F
    · rw [msF_2 bits side n]; exact msl_2 g F k side
def mwB (F : Nat → Nat → Int32) (V N : Nat) (side force : Int32) : Int32 := lbF (vM F) N side force V 0 0
def mwS (g : Nat → Int32) (F : Nat → Nat → Int32) (V N : Nat) (side force : Int32) : MSt := msF (mwB F V N side force) side N 0 g F
/-- wind: the fields, the rows behind it -/
def mwG (g : Nat → Int32) (F : Nat → Nat → Int32) (V N : Nat) (side force : Int32) : Nat → Int32 := upd (mwS g F V N side force).1 10 ((mwS g F V N side force).1 10 + siz (mwB F V N side force))
def mwF (g : Nat → Int32) (F : Nat → Nat → Int32) (V N : Nat) (side force : Int32) : Nat → Nat → Int32 := mrF N 0 (mwS g F V N side force).2
def mns (x : Int64) : Int64 := (1103515245 * x + 12345) &&& 2147483647
def mdr (x : Int64) (m : Int32) : Int32 := (x / 65536 - x / 65536 / m.toInt64 * m.toInt64).toInt32
def svF : Nat → Nat → (Nat → Nat → Int32) → Nat → Nat → Int32
  | 0, _, F => F
  | n + 1, k, F => svF n (k + 1) (up2 (up2 (up2 (up2 F 30 k (F 5 k)) 31 k (F 6 k)) 32 k (F 7 k)) 33 k (F 8 k))
def rsF : Nat → Nat → (Nat → Nat → Int32) → Nat → Nat → Int32
  | 0, _, F => F
  | n + 1, k, F => rsF n (k + 1) (up2 (up2 (up2 (up2 F 5 k (F 30 k)) 6 k (F 31 k)) 7 k (F 32 k)) 8 k (F 33 k))
def mdF (V N : Nat) : Nat → Int32 → Int64 → (Nat → Int32) → (Nat → Nat → Int32) → Int32 × Int64 × MSt
  | 0, a, x, g, F => (a, x, g, F)
  | n + 1, a, x, g, F => mdF V N n (a + siz (mwB F V N (mdr (mns x) 2) (mdr (mns (mns x)) 10))) (mns (mns x)) (mwG g F V N (mdr (mns x) 2) (mdr (mns (mns x)) 10)) (mwF g F V N (mdr (mns x) 2) (mdr (mns (mns x)) 10))
def im4 : Nat → Nat → (Nat → Nat → Int32) → Nat → Nat → Int32
  | 0, _, F => F
  | n + 1, k, F => im4 n (k + 1) (up2 F 40 k (F 3 k))
def im5 : Nat → Nat → (Nat → Nat → Int32) → Nat → Nat → Int32
  | 0, _, F => F
  | n + 1, k, F => im5 n (k + 1) (up2 (up2 (up2 (up2 F 41 k (F 5 k)) 42 k (F 6 k)) 43 k (F 7 k)) 44 k (F 8 k))
def im8 : Nat → Nat → (Nat → Nat → Int32) → Nat → Nat → Int32
  | 0, _, F => F
  | n + 1, k, F => im8 n (k + 1) (up2 (up2 (up2 (up2 F 45 k (F 14 k)) 46 k (F 15 k)) 47 k (F 16 k)) 48 k (F 17 k))
def re4 : Nat → Nat → (Nat → Nat → Int32) → Nat → Nat → Int32
  | 0, _, F => F
  | n + 1, k, F => re4 n (k + 1) (up2 F 3 k (F 40 k))
def re5 : Nat → Nat → (Nat → Nat → Int32) → Nat → Nat → Int32
  | 0, _, F => F
  | n + 1, k, F => re5 n (k + 1) (up2 (up2 (up2 (up2 F 5 k (F 41 k)) 6 k (F 42 k)) 7 k (F 43 k)) 8 k (F 44 k))
def re8 : Nat → Nat → (Nat → Nat → Int32) → Nat → Nat → Int32
  | 0, _, F => F
  | n + 1, k, F => re8 n (k + 1) (up2 (up2 (up2 (up2 F 14 k (F 45 k)) 15 k (F 46 k)) 16 k (F 47 k)) 17 k (F 48 k))
def imG (g : Nat → Int32) : Nat → Int32 := upd (upd (upd (upd (upd (upd g 34 1) 35 (g 0)) 36 (g 9)) 37 (g 10)) 38 (g 11)) 39 (g 13)
def reG (g : Nat → Int32) : Nat → Int32 := upd (upd (upd (upd g 9 (g 36)) 10 (g 37)) 11 (g 38)) 13 (g 39)

theorem up2_at (F : Nat → Nat → Int32) (a j : Nat) (x : Int32) : up2 F a j x a j = x := by simp [up2, upd]
set_option maxHeartbeats 4000000 in
set_option maxRecDepth 100000 in
theorem m_slide {d : Nat} {g : Nat → Int32} {G : Nat → Int64} {F : Nat → Nat → Int32} {w : Nat} (hw : w < 5) (side : Int32) : Ev (d + 1) yX5_slide cX5_slide none 0 [some (.ref 0), some (.int (nI w)), some (.int side)] [] (modW g G F) (Is none (modW (msl g F w side).1 G (msl g F w side).2)) := by
  rw [msl]
  refine Ev.aload_0 dX5_slide_0 rfl ?_
  refine Ev.getf cf5 7 (by decide) wf_X5_22 dX5_slide_1 rfl rfl ?_
  refine Ev.iload_1 dX5_slide_4 rfl ?_
  refine Ev.dup2 dX5_slide_5 rfl rfl ?_
  refine Ev.aldn dX5_slide_6 rfl (by omega) (by decide) ?_
  refine Ev.iload_2 dX5_slide_7 rfl ?_
  refine Ev.if_ne 15 dX5_slide_8 (by decide) (fun h8 => ?_) (fun h8 => ?_)
  · rw [show stp side = -1 from if_neg h8]
    refine Ev.iconst (v := -1) dX5_slide_15 (by decide) ?_
    refine Ev.iadd dX5_slide_16 ?_
    refine aw_modW_5 dX5_slide_17 (by omega) ?_
    refine Ev.aload_0 dX5_slide_18 rfl ?_
    refine Ev.getf cf5 7 (by decide) wf_X5_22 dX5_slide_19 rfl rfl ?_
    refine Ev.iload_1 dX5_slide_22 rfl ?_
    refine Ev.aldn dX5_slide_23 rfl (by omega) (by decide) ?_
    refine Ev.iconst (v := 0) dX5_slide_24 (by decide) ?_
    refine Ev.iconst (v := 4) dX5_slide_25 (by decide) ?_
    refine k_X5_within (m_within _ _ _) dX5_slide_26 wl_X5_96 (Nat.le_of_ble_eq_true rfl) ?_
    refine Ev.if_ne 47 dX5_slide_29 (by decide) (fun h29 => ?_) (fun h29 => ?_)
    · rw [up2_at] at h29
      rw [if_neg h29]
      refine Ev.vret dX5_slide_47 ?_
      exact ⟨rfl, rfl⟩
    rw [up2_at] at h29
    rw [if_pos h29]
    refine Ev.aload_0 dX5_slide_32 rfl ?_
    refine Ev.iload_1 dX5_slide_33 rfl ?_
    refine k_X5_goAway (m_goAway hw) dX5_slide_34 wl_X5_207 rfl (Nat.le_of_ble_eq_true rfl) ?_
    refine Ev.aload_0 dX5_slide_37 rfl ?_
    refine Ev.dup dX5_slide_38 rfl ?_
    refine Ev.getf cf5 11 (by decide) wf_X5_143 dX5_slide_39 rfl rfl ?_
    refine Ev.iconst (v := 1) dX5_slide_42 (by decide) ?_
    refine Ev.iadd dX5_slide_43 ?_
    refine pw_modW_0_11 dX5_slide_44 wf_X5_143 ?_
    refine Ev.vret dX5_slide_47 ?_
    exact ⟨rfl, rfl⟩
  rw [show stp side = 1 from if_pos h8]
  refine Ev.iconst (v := 1) dX5_slide_11 (by decide) ?_
  refine Ev.goto 16 dX5_slide_12 (by decide) ?_
  refine Ev.iadd dX5_slide_16 ?_
  refine aw_modW_5 dX5_slide_17 (by omega) ?_
  refine Ev.aload_0 dX5_slide_18 rfl ?_
  refine Ev.getf cf5 7 (by decide) wf_X5_22 dX5_slide_19 rfl rfl ?_
  refine Ev.iload_1 dX5_slide_22 rfl ?_
  refine Ev.aldn dX5_slide_23 rfl (by omega) (by decide) ?_
  refine Ev.iconst (v := 0) dX5_slide_24 (by decide) ?_
  refine Ev.iconst (v := 4) dX5_slide_25 (by decide) ?_
  refine k_X5_within (m_within _ _ _) dX5_slide_26 wl_X5_96 (Nat.le_of_ble_eq_true rfl) ?_
  refine Ev.if_ne 47 dX5_slide_29 (by decide) (fun h29 => ?_) (fun h29 => ?_)
  · rw [up2_at] at h29
    rw [if_neg h29]
    refine Ev.vret dX5_slide_47 ?_
    exact ⟨rfl, rfl⟩
  rw [up2_at] at h29
  rw [if_pos h29]
  refine Ev.aload_0 dX5_slide_32 rfl ?_
  refine Ev.iload_1 dX5_slide_33 rfl ?_
  refine k_X5_goAway (m_goAway hw) dX5_slide_34 wl_X5_207 rfl (Nat.le_of_ble_eq_true rfl) ?_
  refine Ev.aload_0 dX5_slide_37 rfl ?_
  refine Ev.dup dX5_slide_38 rfl ?_
  refine Ev.getf cf5 11 (by decide) wf_X5_143 dX5_slide_39 rfl rfl ?_
  refine Ev.iconst (v := 1) dX5_slide_42 (by decide) ?_
  refine Ev.iadd dX5_slide_43 ?_
  refine pw_modW_0_11 dX5_slide_44 wf_X5_143 ?_
  refine Ev.vret dX5_slide_47 ?_
  exact ⟨rfl, rfl⟩

set_option maxHeartbeats 4000000 in
set_option maxRecDepth 100000 in
theorem m_wear {d : Nat} {g : Nat → Int32} {G : Nat → Int64} {F : Nat → Nat → Int32} {w : Nat} (hw : w < 5) : Ev d yX5_wear cX5_wear none 0 [some (.ref 0), some (.int (nI w))] [] (modW g G F) (Is none (modW g G (mwr F w))) := by
  refine Ev.aload_0 dX5_wear_0 rfl ?_
  refine Ev.getf cf5 6 (by decide) wf_X5_19 dX5_wear_1 rfl rfl ?_
  refine Ev.iload_1 dX5_wear_4 rfl ?_
  refine Ev.aldn dX5_wear_5 rfl (by omega) (by decide) ?_
  refine Ev.iconst (v := -1) dX5_wear_6 (by decide) ?_
  refine Ev.icmp_eq 78 dX5_wear_7 (by decide) (fun h7 => ?_) (fun h7 => ?_)
  · rw [show mwr F w = F from if_pos h7]
    refine Ev.vret dX5_wear_78 ?_
    exact ⟨rfl, rfl⟩
  rw [show mwr F w = mw2 (mw1 F w) w from if_neg h7]
  refine Ev.aload_0 dX5_wear_10 rfl ?_
  refine Ev.getf cf5 5 (by decide) wf_X5_16 dX5_wear_11 rfl rfl ?_
  refine Ev.iload_1 dX5_wear_14 rfl ?_
  refine Ev.dup2 dX5_wear_15 rfl rfl ?_
  refine Ev.aldn dX5_wear_16 rfl (by omega) (by decide) ?_
  refine Ev.aload_0 dX5_wear_17 rfl ?_
  refine Ev.getf cf5 4 (by decide) wf_X5_13 dX5_wear_18 rfl rfl ?_
  refine Ev.iload_1 dX5_wear_21 rfl ?_
  refine Ev.aldn dX5_wear_22 rfl (by omega) (by decide) ?_
  refine Ev.iconst (v := 2) dX5_wear_23 (by decide) ?_
  refine Ev.icmp_ne 41 dX5_wear_24 (by decide) (fun h24 => ?_) (fun h24 => ?_)
  · have e1 : mw1 F w = up2 F 5 w (F 5 w - 0) := by rw [mw1, if_neg (fun q => h24 q.1)]
    rw [e1]
    refine Ev.iconst (v := 0) dX5_wear_41 (by decide) ?_
    refine Ev.isub dX5_wear_42 ?_
    refine aw_modW_3 dX5_wear_43 (by omega) ?_
    refine Ev.aload_0 dX5_wear_44 rfl ?_
    refine Ev.getf cf5 8 (by decide) wf_X5_25 dX5_wear_45 rfl rfl ?_
    refine Ev.iload_1 dX5_wear_48 rfl ?_
    refine Ev.dup2 dX5_wear_49 rfl rfl ?_
    refine Ev.aldn dX5_wear_50 rfl (by omega) (by decide) ?_
    refine Ev.aload_0 dX5_wear_51 rfl ?_
    refine Ev.getf cf5 4 (by decide) wf_X5_13 dX5_wear_52 rfl rfl ?_
    refine Ev.iload_1 dX5_wear_55 rfl ?_
    refine Ev.aldn dX5_wear_56 rfl (by omega) (by decide) ?_
    refine Ev.iconst (v := 3) dX5_wear_57 (by decide) ?_
    refine Ev.icmp_ne 75 dX5_wear_58 (by decide) (fun h58 => ?_) (fun h58 => ?_)
    · rw [mw2, if_neg (fun q => h58 q.1)]
      refine Ev.iconst (v := 0) dX5_wear_75 (by decide) ?_
      refine Ev.iadd dX5_wear_76 ?_
      refine aw_modW_6 dX5_wear_77 (by omega) ?_
      refine Ev.vret dX5_wear_78 ?_
      exact ⟨rfl, rfl⟩
    refine Ev.aload_0 dX5_wear_61 rfl ?_
    refine Ev.getf cf5 8 (by decide) wf_X5_25 dX5_wear_62 rfl rfl ?_
    refine Ev.iload_1 dX5_wear_65 rfl ?_
    refine Ev.aldn dX5_wear_66 rfl (by omega) (by decide) ?_
    refine Ev.iconst (v := 3) dX5_wear_67 (by decide) ?_
    refine Ev.icmp_ge 75 dX5_wear_68 (by decide) (fun h68 => ?_) (fun h68 => ?_)
    · rw [mw2, if_neg (fun q => q.2 h68)]
      refine Ev.iconst (v := 0) dX5_wear_75 (by decide) ?_
      refine Ev.iadd dX5_wear_76 ?_
      refine aw_modW_6 dX5_wear_77 (by omega) ?_
      refine Ev.vret dX5_wear_78 ?_
      exact ⟨rfl, rfl⟩
    rw [mw2, if_pos ⟨h58, h68⟩]
    refine Ev.iconst (v := 1) dX5_wear_71 (by decide) ?_
    refine Ev.goto 76 dX5_wear_72 (by decide) ?_
    refine Ev.iadd dX5_wear_76 ?_
    refine aw_modW_6 dX5_wear_77 (by omega) ?_
    refine Ev.vret dX5_wear_78 ?_
    exact ⟨rfl, rfl⟩
  refine Ev.aload_0 dX5_wear_27 rfl ?_
  refine Ev.getf cf5 5 (by decide) wf_X5_16 dX5_wear_28 rfl rfl ?_
  refine Ev.iload_1 dX5_wear_31 rfl ?_
  refine Ev.aldn dX5_wear_32 rfl (by omega) (by decide) ?_
  refine Ev.iconst (v := 1) dX5_wear_33 (by decide) ?_
  refine Ev.icmp_le 41 dX5_wear_34 (by decide) (fun h34 => ?_) (fun h34 => ?_)
  · have e1 : mw1 F w = up2 F 5 w (F 5 w - 0) := by rw [mw1, if_neg (fun q => q.2 h34)]
    rw [e1]
    refine Ev.iconst (v := 0) dX5_wear_41 (by decide) ?_
    refine Ev.isub dX5_wear_42 ?_
    refine aw_modW_3 dX5_wear_43 (by omega) ?_
    refine Ev.aload_0 dX5_wear_44 rfl ?_
    refine Ev.getf cf5 8 (by decide) wf_X5_25 dX5_wear_45 rfl rfl ?_
    refine Ev.iload_1 dX5_wear_48 rfl ?_
    refine Ev.dup2 dX5_wear_49 rfl rfl ?_
    refine Ev.aldn dX5_wear_50 rfl (by omega) (by decide) ?_
    refine Ev.aload_0 dX5_wear_51 rfl ?_
    refine Ev.getf cf5 4 (by decide) wf_X5_13 dX5_wear_52 rfl rfl ?_
    refine Ev.iload_1 dX5_wear_55 rfl ?_
    refine Ev.aldn dX5_wear_56 rfl (by omega) (by decide) ?_
    refine Ev.iconst (v := 3) dX5_wear_57 (by decide) ?_
    refine Ev.icmp_ne 75 dX5_wear_58 (by decide) (fun h58 => ?_) (fun h58 => ?_)
    · rw [mw2, if_neg (fun q => h58 q.1)]
      refine Ev.iconst (v := 0) dX5_wear_75 (by decide) ?_
      refine Ev.iadd dX5_wear_76 ?_
      refine aw_modW_6 dX5_wear_77 (by omega) ?_
      refine Ev.vret dX5_wear_78 ?_
      exact ⟨rfl, rfl⟩
    refine Ev.aload_0 dX5_wear_61 rfl ?_
    refine Ev.getf cf5 8 (by decide) wf_X5_25 dX5_wear_62 rfl rfl ?_
    refine Ev.iload_1 dX5_wear_65 rfl ?_
    refine Ev.aldn dX5_wear_66 rfl (by omega) (by decide) ?_
    refine Ev.iconst (v := 3) dX5_wear_67 (by decide) ?_
    refine Ev.icmp_ge 75 dX5_wear_68 (by decide) (fun h68 => ?_) (fun h68 => ?_)
    · rw [mw2, if_neg (fun q => q.2 h68)]
      refine Ev.iconst (v := 0) dX5_wear_75 (by decide) ?_
      refine Ev.iadd dX5_wear_76 ?_
      refine aw_modW_6 dX5_wear_77 (by omega) ?_
      refine Ev.vret dX5_wear_78 ?_
      exact ⟨rfl, rfl⟩
    rw [mw2, if_pos ⟨h58, h68⟩]
    refine Ev.iconst (v := 1) dX5_wear_71 (by decide) ?_
    refine Ev.goto 76 dX5_wear_72 (by decide) ?_
    refine Ev.iadd dX5_wear_76 ?_
    refine aw_modW_6 dX5_wear_77 (by omega) ?_
    refine Ev.vret dX5_wear_78 ?_
    exact ⟨rfl, rfl⟩
  have e1 : mw1 F w = up2 F 5 w (F 5 w - 1) := by rw [mw1, if_pos ⟨h24, h34⟩]
  rw [e1]
  refine Ev.iconst (v := 1) dX5_wear_37 (by decide) ?_
  refine Ev.goto 42 dX5_wear_38 (by decide) ?_
  refine Ev.isub dX5_wear_42 ?_
  refine aw_modW_3 dX5_wear_43 (by omega) ?_
  refine Ev.aload_0 dX5_wear_44 rfl ?_
  refine Ev.getf cf5 8 (by decide) wf_X5_25 dX5_wear_45 rfl rfl ?_
  refine Ev.iload_1 dX5_wear_48 rfl ?_
  refine Ev.dup2 dX5_wear_49 rfl rfl ?_
  refine Ev.aldn dX5_wear_50 rfl (by omega) (by decide) ?_
  refine Ev.aload_0 dX5_wear_51 rfl ?_
  refine Ev.getf cf5 4 (by decide) wf_X5_13 dX5_wear_52 rfl rfl ?_
  refine Ev.iload_1 dX5_wear_55 rfl ?_
  refine Ev.aldn dX5_wear_56 rfl (by omega) (by decide) ?_
  refine Ev.iconst (v := 3) dX5_wear_57 (by decide) ?_
  refine Ev.icmp_ne 75 dX5_wear_58 (by decide) (fun h58 => ?_) (fun h58 => ?_)
  · rw [mw2, if_neg (fun q => h58 q.1)]
    refine Ev.iconst (v := 0) dX5_wear_75 (by decide) ?_
    refine Ev.iadd dX5_wear_76 ?_
    refine aw_modW_6 dX5_wear_77 (by omega) ?_
    refine Ev.vret dX5_wear_78 ?_
    exact ⟨rfl, rfl⟩
  refine Ev.aload_0 dX5_wear_61 rfl ?_
  refine Ev.getf cf5 8 (by decide) wf_X5_25 dX5_wear_62 rfl rfl ?_
  refine Ev.iload_1 dX5_wear_65 rfl ?_
  refine Ev.aldn dX5_wear_66 rfl (by omega) (by decide) ?_
  refine Ev.iconst (v := 3) dX5_wear_67 (by decide) ?_
  refine Ev.icmp_ge 75 dX5_wear_68 (by decide) (fun h68 => ?_) (fun h68 => ?_)
  · rw [mw2, if_neg (fun q => q.2 h68)]
    refine Ev.iconst (v := 0) dX5_wear_75 (by decide) ?_
    refine Ev.iadd dX5_wear_76 ?_
    refine aw_modW_6 dX5_wear_77 (by omega) ?_
    refine Ev.vret dX5_wear_78 ?_
    exact ⟨rfl, rfl⟩
  rw [mw2, if_pos ⟨h58, h68⟩]
  refine Ev.iconst (v := 1) dX5_wear_71 (by decide) ?_
  refine Ev.goto 76 dX5_wear_72 (by decide) ?_
  refine Ev.iadd dX5_wear_76 ?_
  refine aw_modW_6 dX5_wear_77 (by omega) ?_
  refine Ev.vret dX5_wear_78 ?_
  exact ⟨rfl, rfl⟩

set_option maxHeartbeats 4000000 in
set_option maxRecDepth 100000 in
theorem m_wind_1 {d : Nat} {g : Nat → Int32} {G : Nat → Int64} {F : Nat → Nat → Int32} {Q : Option Value → List Ce → Prop} {V N : Nat} (ok : MOK g F V N) {side force : Int32}  : ∀ (n : Nat) (k : Nat) (b R : Int32), k + n = V → lbF (vM F) N side force n k b = R → Ev (d + 3) yX5_wind cX5_wind (some .int) 42 [some (.ref 0), some (.int side), some (.int force), some (.int R), some (.int (nI V))] [] (modW g G F) Q → Ev (d + 3) yX5_wind cX5_wind (some .int) 5 [some (.ref 0), some (.int side), some (.int force), some (.int b), some (.int (nI k))] [] (modW g G F) Q := by
  intro n
  induction n with
  | zero =>
    intro k b R hk hR K
    have hk : k = V := by omega
    subst hk
    have hR : b = R := hR
    subst hR
    refine Ev.iload dX5_wind_5 rfl ?_
    refine Ev.aload_0 dX5_wind_7 rfl ?_
    refine Ev.getf cf5 1 (by decide) wf_X5_131 dX5_wind_8 rfl rfl ?_
    refine Ev.icmp_ge 42 dX5_wind_11 (by decide) (fun h11 => ?_) (fun h11 => ?_)
    · exact K
    · exact absurd (lp_le ok.1 (by omega) (by have := ok.2.2.1; omega)) h11
  | succ n ih =>
    intro k b R hk hR K
    refine Ev.iload dX5_wind_5 rfl ?_
    refine Ev.aload_0 dX5_wind_7 rfl ?_
    refine Ev.getf cf5 1 (by decide) wf_X5_131 dX5_wind_8 rfl rfl ?_
    refine Ev.icmp_ge 42 dX5_wind_11 (by decide) (fun h11 => ?_) (fun h11 => ?_)
    · exact absurd h11 (lp_ge ok.1 (by omega) (by have := ok.2.2.1; omega))
    refine Ev.iload_3 dX5_wind_14 rfl ?_
    refine Ev.aload_0 dX5_wind_15 rfl ?_
    refine Ev.iload dX5_wind_16 rfl ?_
    refine Ev.iload_1 dX5_wind_18 rfl ?_
    refine Ev.iload_2 dX5_wind_19 rfl ?_
    refine k_X5_wouldLift (m_wouldLift ok (by have := ok.2.2.1; omega) _ _) dX5_wind_20 wl_X5_204 rfl (Nat.le_of_ble_eq_true rfl) ?_
    refine Ev.if_eq 33 dX5_wind_23 (by decide) (fun h23 => ?_) (fun h23 => ?_)
    · refine Ev.iconst (v := 0) dX5_wind_33 (by decide) ?_
      refine Ev.ior dX5_wind_34 ?_
      refine Ev.ist3 dX5_wind_35 rfl ?_
      first | refine Ev.incn4 dX5_wind_36 rfl ?_ | refine Ev.inc4 dX5_wind_36 rfl ?_
      refine Ev.goto 5 dX5_wind_39 (by decide) ?_
      exact ih (k + 1) _ R (by omega) (by rw [← hR, lbF]; simp [*]) K
    refine Ev.iconst (v := 1) dX5_wind_26 (by decide) ?_
    refine Ev.iload dX5_wind_27 rfl ?_
    refine Ev.ishl dX5_wind_29 ?_
    refine Ev.goto 34 dX5_wind_30 (by decide) ?_
    refine Ev.ior dX5_wind_34 ?_
    refine Ev.ist3 dX5_wind_35 rfl ?_
    first | refine Ev.incn4 dX5_wind_36 rfl ?_ | refine Ev.inc4 dX5_wind_36 rfl ?_
    refine Ev.goto 5 dX5_wind_39 (by decide) ?_
    exact ih (k + 1) _ R (by omega) (by rw [← hR, lbF]; simp [*]) K

set_option maxHeartbeats 4000000 in
set_option maxRecDepth 100000 in
theorem m_wind_2 {d : Nat} {G : Nat → Int64} {Q : Option Value → List Ce → Prop} {N : Nat} (h5 : N ≤ 5) {side force bits : Int32}  : ∀ (n : Nat) (k : Nat) (g : Nat → Int32) (F : Nat → Nat → Int32) (R : MSt), g 2 = nI N → k + n = N → msF bits side n k g F = R → Ev (d + 3) yX5_wind cX5_wind (some .int) 92 [some (.ref 0), some (.int side), some (.int force), some (.int bits), some (.int (nI N))] [] (modW R.1 G R.2) Q → Ev (d + 3) yX5_wind cX5_wind (some .int) 45 [some (.ref 0), some (.int side), some (.int force), some (.int bits), some (.int (nI k))] [] (modW g G F) Q := by
  intro n
  induction n with
  | zero =>
    intro k g F R hN hk hR K
    have hk : k = N := by omega
    subst hk
    have hR : (g, F) = R := hR
    subst hR
    refine Ev.iload dX5_wind_45 rfl ?_
    refine Ev.aload_0 dX5_wind_47 rfl ?_
    refine Ev.getf cf5 2 (by decide) wf_X5_134 dX5_wind_48 rfl rfl ?_
    refine Ev.icmp_ge 92 dX5_wind_51 (by decide) (fun h51 => ?_) (fun h51 => ?_)
    · exact K
    · exact absurd (lp_le hN (by omega) (by omega)) h51
  | succ n ih =>
    intro k g F R hN hk hR K
    refine Ev.iload dX5_wind_45 rfl ?_
    refine Ev.aload_0 dX5_wind_47 rfl ?_
    refine Ev.getf cf5 2 (by decide) wf_X5_134 dX5_wind_48 rfl rfl ?_
    refine Ev.icmp_ge 92 dX5_wind_51 (by decide) (fun h51 => ?_) (fun h51 => ?_)
    · exact absurd h51 (lp_ge hN (by omega) (by omega))
    refine Ev.aload_0 dX5_wind_54 rfl ?_
    refine Ev.getf cf5 6 (by decide) wf_X5_19 dX5_wind_55 rfl rfl ?_
    refine Ev.iload dX5_wind_58 rfl ?_
    refine Ev.aldn dX5_wind_60 rfl (by omega) (by decide) ?_
    refine Ev.iconst (v := -1) dX5_wind_61 (by decide) ?_
    refine Ev.icmp_eq 86 dX5_wind_62 (by decide) (fun h62 => ?_) (fun h62 => ?_)
    · have e2 : msF bits side (n + 1) k g F = msF bits side n (k + 1) g F := if_pos (Or.inl h62)
      first | refine Ev.incn4 dX5_wind_86 rfl ?_ | refine Ev.inc4 dX5_wind_86 rfl ?_
      refine Ev.goto 45 dX5_wind_89 (by decide) ?_
      exact ih (k + 1) _ _ R (by first | exact hN | (rw [msl_2]; exact hN)) (by omega) (by rw [← hR, e2]) K
    refine Ev.iload_3 dX5_wind_65 rfl ?_
    refine Ev.aload_0 dX5_wind_66 rfl ?_
    refine Ev.getf cf5 6 (by decide) wf_X5_19 dX5_wind_67 rfl rfl ?_
    refine Ev.iload dX5_wind_70 rfl ?_
    refine Ev.aldn dX5_wind_72 rfl (by omega) (by decide) ?_
    refine k_X5_isIn (m_isIn _ _) dX5_wind_73 wl_X5_172 (Nat.le_of_ble_eq_true rfl) ?_
    refine Ev.if_eq 86 dX5_wind_76 (by decide) (fun h76 => ?_) (fun h76 => ?_)
    · have e2 : msF bits side (n + 1) k g F = msF bits side n (k + 1) g F := if_pos (Or.inr h76)
      first | refine Ev.incn4 dX5_wind_86 rfl ?_ | refine Ev.inc4 dX5_wind_86 rfl ?_
      refine Ev.goto 45 dX5_wind_89 (by decide) ?_
      exact ih (k + 1) _ _ R (by first | exact hN | (rw [msl_2]; exact hN)) (by omega) (by rw [← hR, e2]) K
    have e2 : msF bits side (n + 1) k g F = msF bits side n (k + 1) (msl g F k side).1 (msl g F k side).2 := if_neg (fun q => q.elim h62 h76)
    refine Ev.aload_0 dX5_wind_79 rfl ?_
    refine Ev.iload dX5_wind_80 rfl ?_
    refine Ev.iload_1 dX5_wind_82 rfl ?_
    refine k_X5_slide (m_slide (by omega) side) dX5_wind_83 wl_X5_211 rfl (Nat.le_of_ble_eq_true rfl) ?_
    first | refine Ev.incn4 dX5_wind_86 rfl ?_ | refine Ev.inc4 dX5_wind_86 rfl ?_
    refine Ev.goto 45 dX5_wind_89 (by decide) ?_
    exact ih (k + 1) _ _ R (by first | exact hN | (rw [msl_2]; exact hN)) (by omega) (by rw [← hR, e2]) K

set_option maxHeartbeats 4000000 in
set_option maxRecDepth 100000 in
theorem m_wind_3 {d : Nat} {G : Nat → Int64} {Q : Option Value → List Ce → Prop} {N : Nat} {g : Nat → Int32} (hN : g 2 = nI N) (h5 : N ≤ 5) {side force bits : Int32}  : ∀ (n : Nat) (k : Nat) (F R : Nat → Nat → Int32), k + n = N → mrF n k F = R → Ev (d + 3) yX5_wind cX5_wind (some .int) 116 [some (.ref 0), some (.int side), some (.int force), some (.int bits), some (.int (nI N))] [] (modW g G R) Q → Ev (d + 3) yX5_wind cX5_wind (some .int) 95 [some (.ref 0), some (.int side), some (.int force), some (.int bits), some (.int (nI k))] [] (modW g G F) Q := by
  intro n
  induction n with
  | zero =>
    intro k F R hk hR K
    have hk : k = N := by omega
    subst hk
    have hR : F = R := hR
    subst hR
    refine Ev.iload dX5_wind_95 rfl ?_
    refine Ev.aload_0 dX5_wind_97 rfl ?_
    refine Ev.getf cf5 2 (by decide) wf_X5_134 dX5_wind_98 rfl rfl ?_
    refine Ev.icmp_ge 116 dX5_wind_101 (by decide) (fun h101 => ?_) (fun h101 => ?_)
    · exact K
    · exact absurd (lp_le hN (by omega) (by omega)) h101
  | succ n ih =>
    intro k F R hk hR K
    refine Ev.iload dX5_wind_95 rfl ?_
    refine Ev.aload_0 dX5_wind_97 rfl ?_
    refine Ev.getf cf5 2 (by decide) wf_X5_134 dX5_wind_98 rfl rfl ?_
    refine Ev.icmp_ge 116 dX5_wind_101 (by decide) (fun h101 => ?_) (fun h101 => ?_)
    · exact absurd h101 (lp_ge hN (by omega) (by omega))
    refine Ev.aload_0 dX5_wind_104 rfl ?_
    refine Ev.iload dX5_wind_105 rfl ?_
    refine k_X5_wear (m_wear (by omega)) dX5_wind_107 wl_X5_215 rfl (Nat.le_of_ble_eq_true rfl) ?_
    first | refine Ev.incn4 dX5_wind_110 rfl ?_ | refine Ev.inc4 dX5_wind_110 rfl ?_
    refine Ev.goto 95 dX5_wind_113 (by decide) ?_
    exact ih (k + 1) _ R (by omega) (by rw [← hR]; rfl) K

set_option maxHeartbeats 4000000 in
set_option maxRecDepth 100000 in
theorem m_wind {d : Nat} {g : Nat → Int32} {G : Nat → Int64} {F : Nat → Nat → Int32} {V N : Nat} (ok : MOK g F V N) (side force : Int32) : Ev (d + 3) yX5_wind cX5_wind (some .int) 0 [some (.ref 0), some (.int side), some (.int force), none, none] [] (modW g G F) (Is (some (.int (siz (mwB F V N side force)))) (modW (mwG g F V N side force) G (mwF g F V N side force))) := by
  refine Ev.iconst (v := 0) dX5_wind_0 (by decide) ?_
  refine Ev.ist3 dX5_wind_1 rfl ?_
  refine Ev.iconst (v := 0) dX5_wind_2 (by decide) ?_
  refine Ev.ist4 dX5_wind_3 rfl ?_
  refine m_wind_1 ok V 0 _ (mwB F V N side force) (by omega) rfl ?_
  refine Ev.iconst (v := 0) dX5_wind_42 (by decide) ?_
  refine Ev.ist4 dX5_wind_43 rfl ?_
  refine m_wind_2 ok.2.2.2.1 N 0 g F (mwS g F V N side force) ok.2.1 (by omega) rfl ?_
  refine Ev.iconst (v := 0) dX5_wind_92 (by decide) ?_
  refine Ev.ist4 dX5_wind_93 rfl ?_
  refine m_wind_3 (N := N) (by rw [show (mwS g F V N side force).1 2 = g 2 from msF_2 _ _ _ _ _ _]; exact ok.2.1) ok.2.2.2.1 N 0 _ (mwF g F V N side force) (by omega) rfl ?_
  refine Ev.aload_0 dX5_wind_116 rfl ?_
  refine Ev.dup dX5_wind_117 rfl ?_
  refine Ev.getf cf5 10 (by decide) wf_X5_140 dX5_wind_118 rfl rfl ?_
  refine Ev.iload_3 dX5_wind_121 rfl ?_
  refine k_X5_size (m_size _) dX5_wind_122 wl_X5_218 (Nat.le_of_ble_eq_true rfl) ?_
  refine Ev.iadd dX5_wind_125 ?_
  refine pw_modW_0_10 dX5_wind_126 wf_X5_140 ?_
  refine Ev.iload_3 dX5_wind_129 rfl ?_
  refine k_X5_size (m_size _) dX5_wind_130 wl_X5_218 (Nat.le_of_ble_eq_true rfl) ?_
  refine Ev.iret dX5_wind_133 ?_
  exact ⟨rfl, rfl⟩

set_option maxHeartbeats 4000000 in
set_option maxRecDepth 100000 in
theorem m_blow_o {d : Nat} {g : Nat → Int32} {G : Nat → Int64} {F : Nat → Nat → Int32} {p q : Int32} (hpq : ∀ a b, a < 2 → b < 100 → ¬ (p = nI a ∧ q = nI b))  : Ev (d + 2) yX5_blow cX5_blow (some .int) 0 [some (.ref 0), some (.int p), some (.int q)] [] (modW g G F) (Is (some (.int (-102))) (modW g G F)) := by
  refine Ev.iload_1 dX5_blow_0 rfl ?_
  refine Ev.iload_2 dX5_blow_1 rfl ?_
  refine k_X5_isWind (m_isWind_f hpq) dX5_blow_2 wl_X5_201 (Nat.le_of_ble_eq_true rfl) ?_
  refine Ev.if_ne 11 dX5_blow_5 (by decide) (fun hcst => ?_) (fun hcst => ?_)
  · exact absurd hcst (by decide)
  refine Ev.bipush (v := -102) dX5_blow_8 (by decide) ?_
  refine Ev.iret dX5_blow_10 ?_
  exact ⟨rfl, rfl⟩

set_option maxHeartbeats 4000000 in
set_option maxRecDepth 100000 in
theorem m_blow_s {d : Nat} {g : Nat → Int32} {G : Nat → Int64} {F : Nat → Nat → Int32} {N : Nat} (ok : MOK g F 0 N) {a b : Nat} (ha : a < 2) (hb : b < 100)  : Ev (d + 2) yX5_blow cX5_blow (some .int) 0 [some (.ref 0), some (.int (nI a)), some (.int (nI b))] [] (modW g G F) (Is (some (.int (-103))) (modW g G F)) := by
  refine Ev.iload_1 dX5_blow_0 rfl ?_
  refine Ev.iload_2 dX5_blow_1 rfl ?_
  refine k_X5_isWind (m_isWind_t ha hb) dX5_blow_2 wl_X5_201 (Nat.le_of_ble_eq_true rfl) ?_
  refine Ev.if_ne 11 dX5_blow_5 (by decide) (fun hcst => ?_) (fun hcst => ?_)
  rotate_left
  · exact absurd hcst (by decide)
  refine Ev.aload_0 dX5_blow_11 rfl ?_
  refine Ev.getf cf5 1 (by decide) wf_X5_131 dX5_blow_12 rfl rfl ?_
  refine Ev.if_ne 21 dX5_blow_15 (by decide) (fun h15 => ?_) (fun h15 => ?_)
  · exact absurd (show g 1 = 0 from ok.1) h15
  refine Ev.bipush (v := -103) dX5_blow_18 (by decide) ?_
  refine Ev.iret dX5_blow_20 ?_
  exact ⟨rfl, rfl⟩

set_option maxHeartbeats 4000000 in
set_option maxRecDepth 100000 in
theorem m_blow_f {d : Nat} {g : Nat → Int32} {G : Nat → Int64} {F : Nat → Nat → Int32} {V N : Nat} (ok : MOK g F V N) (hV : 0 < V) (h9 : g 9 = 999) {a b : Nat} (ha : a < 2) (hb : b < 100)  : Ev (d + 2) yX5_blow cX5_blow (some .int) 0 [some (.ref 0), some (.int (nI a)), some (.int (nI b))] [] (modW g G F) (Is (some (.int (-104))) (modW g G F)) := by
  refine Ev.iload_1 dX5_blow_0 rfl ?_
  refine Ev.iload_2 dX5_blow_1 rfl ?_
  refine k_X5_isWind (m_isWind_t ha hb) dX5_blow_2 wl_X5_201 (Nat.le_of_ble_eq_true rfl) ?_
  refine Ev.if_ne 11 dX5_blow_5 (by decide) (fun hcst => ?_) (fun hcst => ?_)
  rotate_left
  · exact absurd hcst (by decide)
  refine Ev.aload_0 dX5_blow_11 rfl ?_
  refine Ev.getf cf5 1 (by decide) wf_X5_131 dX5_blow_12 rfl rfl ?_
  refine Ev.if_ne 21 dX5_blow_15 (by decide) (fun h15 => ?_) (fun h15 => ?_)
  · refine Ev.aload_0 dX5_blow_21 rfl ?_
    refine Ev.getf cf5 9 (by decide) wf_X5_137 dX5_blow_22 rfl rfl ?_
    refine Ev.sipush (v := 999) dX5_blow_25 (by decide) ?_
    refine Ev.icmp_ne 34 dX5_blow_28 (by decide) (fun h28 => ?_) (fun h28 => ?_)
    · exact absurd h9 h28
    refine Ev.bipush (v := -104) dX5_blow_31 (by decide) ?_
    refine Ev.iret dX5_blow_33 ?_
    exact ⟨rfl, rfl⟩
  · exact absurd h15 (by rw [ok.1]; exact nI_ne0 hV (by have := ok.2.2.1; omega))

theorem MOK.g {g g' : Nat → Int32} {F : Nat → Nat → Int32} {V N : Nat} (ok : MOK g F V N) (h1 : g' 1 = g 1) (h2 : g' 2 = g 2) : MOK g' F V N := ⟨h1.trans ok.1, h2.trans ok.2.1, ok.2.2⟩

set_option maxHeartbeats 4000000 in
set_option maxRecDepth 100000 in
theorem m_blow_k {d : Nat} {g : Nat → Int32} {G : Nat → Int64} {F : Nat → Nat → Int32} {V N : Nat} (ok : MOK g F V N) (hV : 0 < V) (h9 : ¬ g 9 = 999) {a b : Nat} (ha : a < 2) (hb : b < 100)  : Ev (d + 4) yX5_blow cX5_blow (some .int) 0 [some (.ref 0), some (.int (nI a)), some (.int (nI b))] [] (modW g G F) (Is (some (.int (siz (mwB F V N (nI a) (nI b))))) (modW (mwG (upd g 9 (g 9 + 1)) F V N (nI a) (nI b)) G (mwF (upd g 9 (g 9 + 1)) F V N (nI a) (nI b)))) := by
  refine Ev.iload_1 dX5_blow_0 rfl ?_
  refine Ev.iload_2 dX5_blow_1 rfl ?_
  refine k_X5_isWind (m_isWind_t ha hb) dX5_blow_2 wl_X5_201 (Nat.le_of_ble_eq_true rfl) ?_
  refine Ev.if_ne 11 dX5_blow_5 (by decide) (fun hcst => ?_) (fun hcst => ?_)
  rotate_left
  · exact absurd hcst (by decide)
  refine Ev.aload_0 dX5_blow_11 rfl ?_
  refine Ev.getf cf5 1 (by decide) wf_X5_131 dX5_blow_12 rfl rfl ?_
  refine Ev.if_ne 21 dX5_blow_15 (by decide) (fun h15 => ?_) (fun h15 => ?_)
  · refine Ev.aload_0 dX5_blow_21 rfl ?_
    refine Ev.getf cf5 9 (by decide) wf_X5_137 dX5_blow_22 rfl rfl ?_
    refine Ev.sipush (v := 999) dX5_blow_25 (by decide) ?_
    refine Ev.icmp_ne 34 dX5_blow_28 (by decide) (fun h28 => ?_) (fun h28 => ?_)
    · refine Ev.aload_0 dX5_blow_34 rfl ?_
      refine Ev.dup dX5_blow_35 rfl ?_
      refine Ev.getf cf5 9 (by decide) wf_X5_137 dX5_blow_36 rfl rfl ?_
      refine Ev.iconst (v := 1) dX5_blow_39 (by decide) ?_
      refine Ev.iadd dX5_blow_40 ?_
      refine pw_modW_0_9 dX5_blow_41 wf_X5_137 ?_
      refine Ev.aload_0 dX5_blow_44 rfl ?_
      refine Ev.iload_1 dX5_blow_45 rfl ?_
      refine Ev.iload_2 dX5_blow_46 rfl ?_
      refine k_X5_wind (m_wind (MOK.g ok (g' := (upd g 9 (g 9 + 1))) rfl rfl) _ _) dX5_blow_47 wl_X5_221 rfl (Nat.le_of_ble_eq_true rfl) ?_
      refine Ev.iret dX5_blow_50 ?_
      exact ⟨rfl, rfl⟩
    · exact absurd h28 h9
  · exact absurd h15 (by rw [ok.1]; exact nI_ne0 hV (by have := ok.2.2.1; omega))

theorem updJ_29 (G : Nat → Int64) (x : Int64) : updJ G 29 x 29 = x := by simp [updJ]
theorem updJ_29b (G : Nat → Int64) (x y : Int64) : updJ (updJ G 29 x) 29 y = updJ G 29 y := by
  funext b; by_cases h : b = 29 <;> simp [updJ, h]

set_option maxHeartbeats 4000000 in
set_option maxRecDepth 100000 in
theorem m_draw2 {d : Nat} {g : Nat → Int32} {F : Nat → Nat → Int32} (G0 : Nat → Int64) (x : Int64) : Ev d yX5_draw cX5_draw (some .int) 0 [some (.ref 0), some (.int 2)] [] (modW g (updJ G0 29 x) F) (Is (some (.int (mdr (mns x) 2))) (modW g (updJ G0 29 (mns x)) F)) := by
  refine Ev.aload_0 dX5_draw_0 rfl ?_
  refine Ev.ldc2 wk_X5_282 dX5_draw_1 ?_
  refine Ev.aload_0 dX5_draw_4 rfl ?_
  refine Ev.getf cf5 29 (by decide) wf_X5_284 dX5_draw_5 rfl rfl ?_
  refine Ev.lmul dX5_draw_8 ?_
  refine Ev.ldc2 wk_X5_288 dX5_draw_9 ?_
  refine Ev.ladd dX5_draw_12 ?_
  refine Ev.ldc2 wk_X5_290 dX5_draw_13 ?_
  refine Ev.land dX5_draw_16 ?_
  refine pw_modW_0_29 dX5_draw_17 wf_X5_284 ?_
  rw [updJ_29b, updJ_29]
  refine Ev.aload_0 dX5_draw_20 rfl ?_
  refine Ev.getf cf5 29 (by decide) wf_X5_284 dX5_draw_21 rfl rfl ?_
  refine Ev.ldc2 wk_X5_292 dX5_draw_24 ?_
  rw [updJ_29]
  refine Ev.ldiv dX5_draw_27 (by decide) ?_
  refine Ev.iload_1 dX5_draw_28 rfl ?_
  refine Ev.i2l dX5_draw_29 ?_
  refine Ev.lrem dX5_draw_30 (by decide) ?_
  refine Ev.l2i dX5_draw_31 ?_
  refine Ev.iret dX5_draw_32 ?_
  exact ⟨rfl, rfl⟩

set_option maxHeartbeats 4000000 in
set_option maxRecDepth 100000 in
theorem m_draw10 {d : Nat} {g : Nat → Int32} {F : Nat → Nat → Int32} (G0 : Nat → Int64) (x : Int64) : Ev d yX5_draw cX5_draw (some .int) 0 [some (.ref 0), some (.int 10)] [] (modW g (updJ G0 29 x) F) (Is (some (.int (mdr (mns x) 10))) (modW g (updJ G0 29 (mns x)) F)) := by
  refine Ev.aload_0 dX5_draw_0 rfl ?_
  refine Ev.ldc2 wk_X5_282 dX5_draw_1 ?_
  refine Ev.aload_0 dX5_draw_4 rfl ?_
  refine Ev.getf cf5 29 (by decide) wf_X5_284 dX5_draw_5 rfl rfl ?_
  refine Ev.lmul dX5_draw_8 ?_
  refine Ev.ldc2 wk_X5_288 dX5_draw_9 ?_
  refine Ev.ladd dX5_draw_12 ?_
  refine Ev.ldc2 wk_X5_290 dX5_draw_13 ?_
  refine Ev.land dX5_draw_16 ?_
  refine pw_modW_0_29 dX5_draw_17 wf_X5_284 ?_
  rw [updJ_29b, updJ_29]
  refine Ev.aload_0 dX5_draw_20 rfl ?_
  refine Ev.getf cf5 29 (by decide) wf_X5_284 dX5_draw_21 rfl rfl ?_
  refine Ev.ldc2 wk_X5_292 dX5_draw_24 ?_
  rw [updJ_29]
  refine Ev.ldiv dX5_draw_27 (by decide) ?_
  refine Ev.iload_1 dX5_draw_28 rfl ?_
  refine Ev.i2l dX5_draw_29 ?_
  refine Ev.lrem dX5_draw_30 (by decide) ?_
  refine Ev.l2i dX5_draw_31 ?_
  refine Ev.iret dX5_draw_32 ?_
  exact ⟨rfl, rfl⟩

set_option maxHeartbeats 4000000 in
set_option maxRecDepth 100000 in
theorem m_dec_1 {d : Nat} {g : Nat → Int32} {G : Nat → Int64} {m0 y z a4 a5 : Int32} {x1 x2 : Option Value} {Q : Option Value → List Ce → Prop}  : ∀ (n : Nat) (k : Nat) (F R : Nat → Nat → Int32), k + n = 5 → svF n k F = R → Ev (d + 4) yX5_decadesNow cX5_decadesNow (some .int) 83 [some (.ref 0), some (.int m0), some (.int y), some (.int z), some (.int a4), some (.int a5), some (.int (nI 5)), x1, x2] [] (modW g G R) Q → Ev (d + 4) yX5_decadesNow cX5_decadesNow (some .int) 15 [some (.ref 0), some (.int m0), some (.int y), some (.int z), some (.int a4), some (.int a5), some (.int (nI k)), x1, x2] [] (modW g G F) Q := by
  intro n
  induction n with
  | zero =>
    intro k F R hk hR K
    have hk : k = 5 := by omega
    subst hk
    have hR : F = R := hR
    subst hR
    refine Ev.iload dX5_decadesNow_15 rfl ?_
    refine Ev.iconst (v := 5) dX5_decadesNow_17 (by decide) ?_
    refine Ev.icmp_ge 83 dX5_decadesNow_18 (by decide) (fun h18 => ?_) (fun h18 => ?_)
    · exact K
    · exact absurd (lp_le (x := 5) (N := 5) rfl (by omega) (by omega)) h18
  | succ n ih =>
    intro k F R hk hR K
    refine Ev.iload dX5_decadesNow_15 rfl ?_
    refine Ev.iconst (v := 5) dX5_decadesNow_17 (by decide) ?_
    refine Ev.icmp_ge 83 dX5_decadesNow_18 (by decide) (fun h18 => ?_) (fun h18 => ?_)
    · exact absurd h18 (lp_ge (x := 5) (N := 5) rfl (by omega) (by omega))
    refine Ev.aload_0 dX5_decadesNow_21 rfl ?_
    refine Ev.getf cf5 30 (by decide) wf_X5_57 dX5_decadesNow_22 rfl rfl ?_
    refine Ev.iload dX5_decadesNow_25 rfl ?_
    refine Ev.aload_0 dX5_decadesNow_27 rfl ?_
    refine Ev.getf cf5 5 (by decide) wf_X5_16 dX5_decadesNow_28 rfl rfl ?_
    refine Ev.iload dX5_decadesNow_31 rfl ?_
    refine Ev.aldn dX5_decadesNow_33 rfl (by omega) (by decide) ?_
    refine aw_modW_16 dX5_decadesNow_34 (by omega) ?_
    refine Ev.aload_0 dX5_decadesNow_35 rfl ?_
    refine Ev.getf cf5 31 (by decide) wf_X5_60 dX5_decadesNow_36 rfl rfl ?_
    refine Ev.iload dX5_decadesNow_39 rfl ?_
    refine Ev.aload_0 dX5_decadesNow_41 rfl ?_
    refine Ev.getf cf5 6 (by decide) wf_X5_19 dX5_decadesNow_42 rfl rfl ?_
    refine Ev.iload dX5_decadesNow_45 rfl ?_
    refine Ev.aldn dX5_decadesNow_47 rfl (by omega) (by decide) ?_
    refine aw_modW_17 dX5_decadesNow_48 (by omega) ?_
    refine Ev.aload_0 dX5_decadesNow_49 rfl ?_
    refine Ev.getf cf5 32 (by decide) wf_X5_63 dX5_decadesNow_50 rfl rfl ?_
    refine Ev.iload dX5_decadesNow_53 rfl ?_
    refine Ev.aload_0 dX5_decadesNow_55 rfl ?_
    refine Ev.getf cf5 7 (by decide) wf_X5_22 dX5_decadesNow_56 rfl rfl ?_
    refine Ev.iload dX5_decadesNow_59 rfl ?_
    refine Ev.aldn dX5_decadesNow_61 rfl (by omega) (by decide) ?_
    refine aw_modW_18 dX5_decadesNow_62 (by omega) ?_
    refine Ev.aload_0 dX5_decadesNow_63 rfl ?_
    refine Ev.getf cf5 33 (by decide) wf_X5_66 dX5_decadesNow_64 rfl rfl ?_
    refine Ev.iload dX5_decadesNow_67 rfl ?_
    refine Ev.aload_0 dX5_decadesNow_69 rfl ?_
    refine Ev.getf cf5 8 (by decide) wf_X5_25 dX5_decadesNow_70 rfl rfl ?_
    refine Ev.iload dX5_decadesNow_73 rfl ?_
    refine Ev.aldn dX5_decadesNow_75 rfl (by omega) (by decide) ?_
    refine aw_modW_19 dX5_decadesNow_76 (by omega) ?_
    first | refine Ev.incn6 dX5_decadesNow_77 rfl ?_ | refine Ev.inc6 dX5_decadesNow_77 rfl ?_
    refine Ev.goto 15 dX5_decadesNow_80 (by decide) ?_
    exact ih (k + 1) _ R (by omega) (by rw [← hR]; rfl) K

set_option maxHeartbeats 4000000 in
set_option maxRecDepth 100000 in
theorem m_dec_3 {d : Nat} {g : Nat → Int32} {G : Nat → Int64} {m0 y z a4 a5 a6 a7 : Int32} {Q : Option Value → List Ce → Prop}  : ∀ (n : Nat) (k : Nat) (F R : Nat → Nat → Int32), k + n = 5 → rsF n k F = R → Ev (d + 4) yX5_decadesNow cX5_decadesNow (some .int) 208 [some (.ref 0), some (.int m0), some (.int y), some (.int z), some (.int a4), some (.int a5), some (.int a6), some (.int a7), some (.int (nI 5))] [] (modW g G R) Q → Ev (d + 4) yX5_decadesNow cX5_decadesNow (some .int) 140 [some (.ref 0), some (.int m0), some (.int y), some (.int z), some (.int a4), some (.int a5), some (.int a6), some (.int a7), some (.int (nI k))] [] (modW g G F) Q := by
  intro n
  induction n with
  | zero =>
    intro k F R hk hR K
    have hk : k = 5 := by omega
    subst hk
    have hR : F = R := hR
    subst hR
    refine Ev.iload dX5_decadesNow_140 rfl ?_
    refine Ev.iconst (v := 5) dX5_decadesNow_142 (by decide) ?_
    refine Ev.icmp_ge 208 dX5_decadesNow_143 (by decide) (fun h143 => ?_) (fun h143 => ?_)
    · exact K
    · exact absurd (lp_le (x := 5) (N := 5) rfl (by omega) (by omega)) h143
  | succ n ih =>
    intro k F R hk hR K
    refine Ev.iload dX5_decadesNow_140 rfl ?_
    refine Ev.iconst (v := 5) dX5_decadesNow_142 (by decide) ?_
    refine Ev.icmp_ge 208 dX5_decadesNow_143 (by decide) (fun h143 => ?_) (fun h143 => ?_)
    · exact absurd h143 (lp_ge (x := 5) (N := 5) rfl (by omega) (by omega))
    refine Ev.aload_0 dX5_decadesNow_146 rfl ?_
    refine Ev.getf cf5 5 (by decide) wf_X5_16 dX5_decadesNow_147 rfl rfl ?_
    refine Ev.iload dX5_decadesNow_150 rfl ?_
    refine Ev.aload_0 dX5_decadesNow_152 rfl ?_
    refine Ev.getf cf5 30 (by decide) wf_X5_57 dX5_decadesNow_153 rfl rfl ?_
    refine Ev.iload dX5_decadesNow_156 rfl ?_
    refine Ev.aldn dX5_decadesNow_158 rfl (by omega) (by decide) ?_
    refine aw_modW_3 dX5_decadesNow_159 (by omega) ?_
    refine Ev.aload_0 dX5_decadesNow_160 rfl ?_
    refine Ev.getf cf5 6 (by decide) wf_X5_19 dX5_decadesNow_161 rfl rfl ?_
    refine Ev.iload dX5_decadesNow_164 rfl ?_
    refine Ev.aload_0 dX5_decadesNow_166 rfl ?_
    refine Ev.getf cf5 31 (by decide) wf_X5_60 dX5_decadesNow_167 rfl rfl ?_
    refine Ev.iload dX5_decadesNow_170 rfl ?_
    refine Ev.aldn dX5_decadesNow_172 rfl (by omega) (by decide) ?_
    refine aw_modW_4 dX5_decadesNow_173 (by omega) ?_
    refine Ev.aload_0 dX5_decadesNow_174 rfl ?_
    refine Ev.getf cf5 7 (by decide) wf_X5_22 dX5_decadesNow_175 rfl rfl ?_
    refine Ev.iload dX5_decadesNow_178 rfl ?_
    refine Ev.aload_0 dX5_decadesNow_180 rfl ?_
    refine Ev.getf cf5 32 (by decide) wf_X5_63 dX5_decadesNow_181 rfl rfl ?_
    refine Ev.iload dX5_decadesNow_184 rfl ?_
    refine Ev.aldn dX5_decadesNow_186 rfl (by omega) (by decide) ?_
    refine aw_modW_5 dX5_decadesNow_187 (by omega) ?_
    refine Ev.aload_0 dX5_decadesNow_188 rfl ?_
    refine Ev.getf cf5 8 (by decide) wf_X5_25 dX5_decadesNow_189 rfl rfl ?_
    refine Ev.iload dX5_decadesNow_192 rfl ?_
    refine Ev.aload_0 dX5_decadesNow_194 rfl ?_
    refine Ev.getf cf5 33 (by decide) wf_X5_66 dX5_decadesNow_195 rfl rfl ?_
    refine Ev.iload dX5_decadesNow_198 rfl ?_
    refine Ev.aldn dX5_decadesNow_200 rfl (by omega) (by decide) ?_
    refine aw_modW_6 dX5_decadesNow_201 (by omega) ?_
    first | refine Ev.incn8 dX5_decadesNow_202 rfl ?_ | refine Ev.inc8 dX5_decadesNow_202 rfl ?_
    refine Ev.goto 140 dX5_decadesNow_205 (by decide) ?_
    exact ih (k + 1) _ R (by omega) (by rw [← hR]; rfl) K

theorem mwr_6 (F : Nat → Nat → Int32) (w : Nat) : mwr F w 6 = F 6 := by
  unfold mwr mw2 mw1
  split <;> simp [up2]
theorem msl_6 (g : Nat → Int32) (F : Nat → Nat → Int32) (w : Nat) (side : Int32) (j : Nat) : (msl g F w side).2 6 j = F 6 j ∨ (msl g F w side).2 6 j = -1 := by
  unfold msl
  split
  · by_cases hj : j = w
    · right; simp [gaw, up2, upd, hj]
    · left; simp [gaw, up2, upd, hj]
  · left; simp [up2]
theorem msl_1 (g : Nat → Int32) (F : Nat → Nat → Int32) (w : Nat) (side : Int32) : (msl g F w side).1 1 = g 1 := by
  unfold msl; split <;> simp [upd]
theorem msF_ok (bits side : Int32) : ∀ (n k : Nat) (g : Nat → Int32) (F : Nat → Nat → Int32), (msF bits side n k g F).1 1 = g 1 ∧ ∀ j, (msF bits side n k g F).2 6 j = F 6 j ∨ (msF bits side n k g F).2 6 j = -1 := by
  intro n
  induction n with
  | zero => intro k g F; exact ⟨rfl, fun j => Or.inl rfl⟩
  | succ n ih =>
    intro k g F
    rw [msF]
    split
    · exact ih (k + 1) g F
    · obtain ⟨h1, h2⟩ := ih (k + 1) (msl g F k side).1 (msl g F k side).2
      refine ⟨h1.trans (msl_1 g F k side), fun j => ?_⟩
      rcases h2 j with h | h
      · rcases msl_6 g F k side j with q | q
        · exact Or.inl (h.trans q)
        · exact Or.inr (h.trans q)
      · exact Or.inr h
theorem mrF_6 : ∀ (n k : Nat) (F : Nat → Nat → Int32), mrF n k F 6 = F 6
  | 0, _, _ => rfl
  | n + 1, k, F => by rw [mrF, mrF_6 n, mwr_6]
theorem MOK.wind {g : Nat → Int32} {F : Nat → Nat → Int32} {V N : Nat} (ok : MOK g F V N) (side force : Int32) : MOK (mwG g F V N side force) (mwF g F V N side force) V N := by
  obtain ⟨h1, h2⟩ := msF_ok (mwB F V N side force) side N 0 g F
  refine ⟨?_, ?_, ok.2.2.1, ok.2.2.2.1, fun k hk => ?_⟩
  · show (mwS g F V N side force).1 1 = _
    exact h1.trans ok.1
  · show (mwS g F V N side force).1 2 = _
    exact (msF_2 _ _ _ _ _ _).trans ok.2.1
  · rw [mwF, mrF_6]
    rcases h2 k with h | h
    · rw [show (mwS g F V N side force).2 6 k = F 6 k from h]; exact ok.2.2.2.2 k hk
    · exact Or.inl h
theorem MOK.md {V N : Nat} : ∀ (n : Nat) (a : Int32) (x : Int64) (g : Nat → Int32) (F : Nat → Nat → Int32), MOK g F V N → MOK (mdF V N n a x g F).2.2.1 (mdF V N n a x g F).2.2.2 V N
  | 0, _, _, _, _, ok => ok
  | n + 1, _, _, _, _, ok => MOK.md n _ _ _ _ (ok.wind _ _)
theorem svF_6 : ∀ (n k : Nat) (F : Nat → Nat → Int32) {a : Nat}, a < 30 → svF n k F a = F a
  | 0, _, _, _, _ => rfl
  | n + 1, k, F, a, h => by
    rw [svF, svF_6 n _ _ h]
    simp [up2, show a ≠ 30 by omega, show a ≠ 31 by omega, show a ≠ 32 by omega, show a ≠ 33 by omega]
theorem MOK.sv {g : Nat → Int32} {F : Nat → Nat → Int32} {V N : Nat} (ok : MOK g F V N) (n k : Nat) : MOK g (svF n k F) V N := ⟨ok.1, ok.2.1, ok.2.2.1, ok.2.2.2.1, fun j hj => by rw [svF_6 n k F (by omega)]; exact ok.2.2.2.2 j hj⟩

set_option maxHeartbeats 4000000 in
set_option maxRecDepth 100000 in
theorem m_dec_2 {d : Nat} {G0 : Nat → Int64} {Q : Option Value → List Ce → Prop} {V N a : Nat} (ha : a ≤ 60) {y z a4 a5 : Int32} : ∀ (n j : Nat) (b : Int32) (c : Int64) (g : Nat → Int32) (F : Nat → Nat → Int32) (R : Int32 × Int64 × MSt) (x : Option Value), lok [some (.ref 0), some (.int (nI a)), some (.int y), some (.int z), some (.int a4), some (.int a5), some (.int b), some (.int (nI j)), x] 8 = true → MOK g F V N → j + n = a → mdF V N n b c g F = R → (∀ x : Option Value, Ev (d + 4) yX5_decadesNow cX5_decadesNow (some .int) 131 [some (.ref 0), some (.int (nI a)), some (.int y), some (.int z), some (.int a4), some (.int a5), some (.int R.1), some (.int (nI a)), x] [] (modW R.2.2.1 (updJ G0 29 R.2.1) R.2.2.2) Q) → Ev (d + 4) yX5_decadesNow cX5_decadesNow (some .int) 95 [some (.ref 0), some (.int (nI a)), some (.int y), some (.int z), some (.int a4), some (.int a5), some (.int b), some (.int (nI j)), x] [] (modW g (updJ G0 29 c) F) Q := by
  intro n
  induction n with
  | zero =>
    intro j b c g F R x hx ok hk hR K1
    have hk : j = a := by omega
    subst hk
    have hR : (b, c, g, F) = R := hR
    subst hR
    refine Ev.iload dX5_decadesNow_95 rfl ?_
    refine Ev.iload_1 dX5_decadesNow_97 rfl ?_
    refine Ev.icmp_ge 131 dX5_decadesNow_98 (by decide) (fun h98 => ?_) (fun h98 => ?_)
    · exact K1 _
    · exact absurd (Int32.le_refl _) h98
  | succ n ih =>
    intro j b c g F R x hx ok hk hR K1
    refine Ev.iload dX5_decadesNow_95 rfl ?_
    refine Ev.iload_1 dX5_decadesNow_97 rfl ?_
    refine Ev.icmp_ge 131 dX5_decadesNow_98 (by decide) (fun h98 => ?_) (fun h98 => ?_)
    · exact absurd h98 (lp_ge (N := a) rfl (by omega) (by omega))
    refine Ev.aload_0 dX5_decadesNow_101 rfl ?_
    refine Ev.iconst (v := 2) dX5_decadesNow_102 (by decide) ?_
    refine k_X5_draw (m_draw2 G0 _) dX5_decadesNow_103 wl_X5_294 rfl (Nat.le_of_ble_eq_true rfl) ?_
    refine Ev.ist8 dX5_decadesNow_106 rfl ?_
    refine Ev.iload dX5_decadesNow_108 rfl ?_
    refine Ev.aload_0 dX5_decadesNow_110 rfl ?_
    refine Ev.iload dX5_decadesNow_111 rfl ?_
    refine Ev.aload_0 dX5_decadesNow_113 rfl ?_
    refine Ev.bipush (v := 10) dX5_decadesNow_114 (by decide) ?_
    refine k_X5_draw (m_draw10 G0 _) dX5_decadesNow_116 wl_X5_294 rfl (Nat.le_of_ble_eq_true rfl) ?_
    refine k_X5_wind (m_wind ok _ _) dX5_decadesNow_119 wl_X5_221 rfl (Nat.le_of_ble_eq_true rfl) ?_
    refine Ev.iadd dX5_decadesNow_122 ?_
    refine Ev.ist6 dX5_decadesNow_123 rfl ?_
    first | refine Ev.incn7 dX5_decadesNow_125 rfl ?_ | refine Ev.inc7 dX5_decadesNow_125 rfl ?_
    refine Ev.goto 95 dX5_decadesNow_128 (by decide) ?_
    exact ih (j + 1) _ _ _ _ R _ rfl (ok.wind _ _) (by omega) (by rw [← hR]; rfl) K1

set_option maxHeartbeats 4000000 in
set_option maxRecDepth 100000 in
theorem m_decadesNow_0 {d : Nat} {g : Nat → Int32} {G : Nat → Int64} {F : Nat → Nat → Int32} {V N : Nat} (ok : MOK g F V N) {a : Nat} (ha : a ≤ 60) (y : Int32) : Ev (d + 4) yX5_decadesNow cX5_decadesNow (some .int) 0 [some (.ref 0), some (.int (nI a)), some (.int y), some (.int 0), none, none, none, none, none] [] (modW g G F) (Is (some (.int ((mdF V N a 0 y.toInt64 g (svF 5 0 F)).1))) (modW (upd (upd (mdF V N a 0 y.toInt64 g (svF 5 0 F)).2.2.1 10 (g 10)) 11 (g 11)) (updJ G 29 (mdF V N a 0 y.toInt64 g (svF 5 0 F)).2.1) (rsF 5 0 (mdF V N a 0 y.toInt64 g (svF 5 0 F)).2.2.2))) := by
  refine Ev.aload_0 dX5_decadesNow_0 rfl ?_
  refine Ev.getf cf5 10 (by decide) wf_X5_140 dX5_decadesNow_1 rfl rfl ?_
  refine Ev.ist4 dX5_decadesNow_4 rfl ?_
  refine Ev.aload_0 dX5_decadesNow_6 rfl ?_
  refine Ev.getf cf5 11 (by decide) wf_X5_143 dX5_decadesNow_7 rfl rfl ?_
  refine Ev.ist5 dX5_decadesNow_10 rfl ?_
  refine Ev.iconst (v := 0) dX5_decadesNow_12 (by decide) ?_
  refine Ev.ist6 dX5_decadesNow_13 rfl ?_
  refine m_dec_1 5 0 F _ (by omega) rfl ?_
  refine Ev.aload_0 dX5_decadesNow_83 rfl ?_
  refine Ev.iload_2 dX5_decadesNow_84 rfl ?_
  refine Ev.i2l dX5_decadesNow_85 ?_
  refine pw_modW_0_29 dX5_decadesNow_86 wf_X5_284 ?_
  refine Ev.iconst (v := 0) dX5_decadesNow_89 (by decide) ?_
  refine Ev.ist6 dX5_decadesNow_90 rfl ?_
  refine Ev.iconst (v := 0) dX5_decadesNow_92 (by decide) ?_
  refine Ev.ist7 dX5_decadesNow_93 rfl ?_
  refine m_dec_2 ha a 0 _ _ _ _ (mdF V N a 0 y.toInt64 g (svF 5 0 F)) _ rfl (ok.sv 5 0) (by omega) rfl (fun x => ?_)
  refine Ev.aload_0 dX5_decadesNow_131 rfl ?_
  refine k_X5_onPlain (m_onPlain (MOK.md _ _ _ _ _ (ok.sv 5 0))) dX5_decadesNow_132 wl_X5_297 rfl (Nat.le_of_ble_eq_true rfl) ?_
  refine Ev.ist7 dX5_decadesNow_135 rfl ?_
  refine Ev.iconst (v := 0) dX5_decadesNow_137 (by decide) ?_
  refine Ev.ist8 dX5_decadesNow_138 rfl ?_
  refine m_dec_3 5 0 _ _ (by omega) rfl ?_
  refine Ev.aload_0 dX5_decadesNow_208 rfl ?_
  refine Ev.iload dX5_decadesNow_209 rfl ?_
  refine pw_modW_0_10 dX5_decadesNow_211 wf_X5_140 ?_
  refine Ev.aload_0 dX5_decadesNow_214 rfl ?_
  refine Ev.iload dX5_decadesNow_215 rfl ?_
  refine pw_modW_0_11 dX5_decadesNow_217 wf_X5_143 ?_
  refine Ev.iload_3 dX5_decadesNow_220 rfl ?_
  refine Ev.if_ne 229 dX5_decadesNow_221 (by decide) (fun h221 => ?_) (fun h221 => ?_)
  · exact absurd rfl h221
  refine Ev.iload dX5_decadesNow_224 rfl ?_
  refine Ev.goto 244 dX5_decadesNow_226 (by decide) ?_
  refine Ev.iret dX5_decadesNow_244 ?_
  exact ⟨rfl, rfl⟩

set_option maxHeartbeats 4000000 in
set_option maxRecDepth 100000 in
theorem m_decadesNow_1 {d : Nat} {g : Nat → Int32} {G : Nat → Int64} {F : Nat → Nat → Int32} {V N : Nat} (ok : MOK g F V N) {a : Nat} (ha : a ≤ 60) (y : Int32) : Ev (d + 4) yX5_decadesNow cX5_decadesNow (some .int) 0 [some (.ref 0), some (.int (nI a)), some (.int y), some (.int 1), none, none, none, none, none] [] (modW g G F) (Is (some (.int (pnF (vM (mdF V N a 0 y.toInt64 g (svF 5 0 F)).2.2.2) N 0 0))) (modW (upd (upd (mdF V N a 0 y.toInt64 g (svF 5 0 F)).2.2.1 10 (g 10)) 11 (g 11)) (updJ G 29 (mdF V N a 0 y.toInt64 g (svF 5 0 F)).2.1) (rsF 5 0 (mdF V N a 0 y.toInt64 g (svF 5 0 F)).2.2.2))) := by
  refine Ev.aload_0 dX5_decadesNow_0 rfl ?_
  refine Ev.getf cf5 10 (by decide) wf_X5_140 dX5_decadesNow_1 rfl rfl ?_
  refine Ev.ist4 dX5_decadesNow_4 rfl ?_
  refine Ev.aload_0 dX5_decadesNow_6 rfl ?_
  refine Ev.getf cf5 11 (by decide) wf_X5_143 dX5_decadesNow_7 rfl rfl ?_
  refine Ev.ist5 dX5_decadesNow_10 rfl ?_
  refine Ev.iconst (v := 0) dX5_decadesNow_12 (by decide) ?_
  refine Ev.ist6 dX5_decadesNow_13 rfl ?_
  refine m_dec_1 5 0 F _ (by omega) rfl ?_
  refine Ev.aload_0 dX5_decadesNow_83 rfl ?_
  refine Ev.iload_2 dX5_decadesNow_84 rfl ?_
  refine Ev.i2l dX5_decadesNow_85 ?_
  refine pw_modW_0_29 dX5_decadesNow_86 wf_X5_284 ?_
  refine Ev.iconst (v := 0) dX5_decadesNow_89 (by decide) ?_
  refine Ev.ist6 dX5_decadesNow_90 rfl ?_
  refine Ev.iconst (v := 0) dX5_decadesNow_92 (by decide) ?_
  refine Ev.ist7 dX5_decadesNow_93 rfl ?_
  refine m_dec_2 ha a 0 _ _ _ _ (mdF V N a 0 y.toInt64 g (svF 5 0 F)) _ rfl (ok.sv 5 0) (by omega) rfl (fun x => ?_)
  refine Ev.aload_0 dX5_decadesNow_131 rfl ?_
  refine k_X5_onPlain (m_onPlain (MOK.md _ _ _ _ _ (ok.sv 5 0))) dX5_decadesNow_132 wl_X5_297 rfl (Nat.le_of_ble_eq_true rfl) ?_
  refine Ev.ist7 dX5_decadesNow_135 rfl ?_
  refine Ev.iconst (v := 0) dX5_decadesNow_137 (by decide) ?_
  refine Ev.ist8 dX5_decadesNow_138 rfl ?_
  refine m_dec_3 5 0 _ _ (by omega) rfl ?_
  refine Ev.aload_0 dX5_decadesNow_208 rfl ?_
  refine Ev.iload dX5_decadesNow_209 rfl ?_
  refine pw_modW_0_10 dX5_decadesNow_211 wf_X5_140 ?_
  refine Ev.aload_0 dX5_decadesNow_214 rfl ?_
  refine Ev.iload dX5_decadesNow_215 rfl ?_
  refine pw_modW_0_11 dX5_decadesNow_217 wf_X5_143 ?_
  refine Ev.iload_3 dX5_decadesNow_220 rfl ?_
  refine Ev.if_ne 229 dX5_decadesNow_221 (by decide) (fun h221 => ?_) (fun h221 => ?_)
  · refine Ev.iload_3 dX5_decadesNow_229 rfl ?_
    refine Ev.iconst (v := 1) dX5_decadesNow_230 (by decide) ?_
    refine Ev.icmp_ne 239 dX5_decadesNow_231 (by decide) (fun h231 => ?_) (fun h231 => ?_)
    · exact absurd rfl h231
    refine Ev.iload dX5_decadesNow_234 rfl ?_
    refine Ev.goto 244 dX5_decadesNow_236 (by decide) ?_
    refine Ev.iret dX5_decadesNow_244 ?_
    exact ⟨rfl, rfl⟩
  · exact absurd h221 (by decide)

set_option maxHeartbeats 4000000 in
set_option maxRecDepth 100000 in
theorem m_decadesNow_2 {d : Nat} {g : Nat → Int32} {G : Nat → Int64} {F : Nat → Nat → Int32} {V N : Nat} (ok : MOK g F V N) {a : Nat} (ha : a ≤ 60) (y : Int32) : Ev (d + 4) yX5_decadesNow cX5_decadesNow (some .int) 0 [some (.ref 0), some (.int (nI a)), some (.int y), some (.int 2), none, none, none, none, none] [] (modW g G F) (Is (some (.int ((mdF V N a 0 y.toInt64 g (svF 5 0 F)).2.1.toInt32))) (modW (upd (upd (mdF V N a 0 y.toInt64 g (svF 5 0 F)).2.2.1 10 (g 10)) 11 (g 11)) (updJ G 29 (mdF V N a 0 y.toInt64 g (svF 5 0 F)).2.1) (rsF 5 0 (mdF V N a 0 y.toInt64 g (svF 5 0 F)).2.2.2))) := by
  refine Ev.aload_0 dX5_decadesNow_0 rfl ?_
  refine Ev.getf cf5 10 (by decide) wf_X5_140 dX5_decadesNow_1 rfl rfl ?_
  refine Ev.ist4 dX5_decadesNow_4 rfl ?_
  refine Ev.aload_0 dX5_decadesNow_6 rfl ?_
  refine Ev.getf cf5 11 (by decide) wf_X5_143 dX5_decadesNow_7 rfl rfl ?_
  refine Ev.ist5 dX5_decadesNow_10 rfl ?_
  refine Ev.iconst (v := 0) dX5_decadesNow_12 (by decide) ?_
  refine Ev.ist6 dX5_decadesNow_13 rfl ?_
  refine m_dec_1 5 0 F _ (by omega) rfl ?_
  refine Ev.aload_0 dX5_decadesNow_83 rfl ?_
  refine Ev.iload_2 dX5_decadesNow_84 rfl ?_
  refine Ev.i2l dX5_decadesNow_85 ?_
  refine pw_modW_0_29 dX5_decadesNow_86 wf_X5_284 ?_
  refine Ev.iconst (v := 0) dX5_decadesNow_89 (by decide) ?_
  refine Ev.ist6 dX5_decadesNow_90 rfl ?_
  refine Ev.iconst (v := 0) dX5_decadesNow_92 (by decide) ?_
  refine Ev.ist7 dX5_decadesNow_93 rfl ?_
  refine m_dec_2 ha a 0 _ _ _ _ (mdF V N a 0 y.toInt64 g (svF 5 0 F)) _ rfl (ok.sv 5 0) (by omega) rfl (fun x => ?_)
  refine Ev.aload_0 dX5_decadesNow_131 rfl ?_
  refine k_X5_onPlain (m_onPlain (MOK.md _ _ _ _ _ (ok.sv 5 0))) dX5_decadesNow_132 wl_X5_297 rfl (Nat.le_of_ble_eq_true rfl) ?_
  refine Ev.ist7 dX5_decadesNow_135 rfl ?_
  refine Ev.iconst (v := 0) dX5_decadesNow_137 (by decide) ?_
  refine Ev.ist8 dX5_decadesNow_138 rfl ?_
  refine m_dec_3 5 0 _ _ (by omega) rfl ?_
  refine Ev.aload_0 dX5_decadesNow_208 rfl ?_
  refine Ev.iload dX5_decadesNow_209 rfl ?_
  refine pw_modW_0_10 dX5_decadesNow_211 wf_X5_140 ?_
  refine Ev.aload_0 dX5_decadesNow_214 rfl ?_
  refine Ev.iload dX5_decadesNow_215 rfl ?_
  refine pw_modW_0_11 dX5_decadesNow_217 wf_X5_143 ?_
  refine Ev.iload_3 dX5_decadesNow_220 rfl ?_
  refine Ev.if_ne 229 dX5_decadesNow_221 (by decide) (fun h221 => ?_) (fun h221 => ?_)
  · refine Ev.iload_3 dX5_decadesNow_229 rfl ?_
    refine Ev.iconst (v := 1) dX5_decadesNow_230 (by decide) ?_
    refine Ev.icmp_ne 239 dX5_decadesNow_231 (by decide) (fun h231 => ?_) (fun h231 => ?_)
    · refine Ev.aload_0 dX5_decadesNow_239 rfl ?_
      refine Ev.getf cf5 29 (by decide) wf_X5_284 dX5_decadesNow_240 rfl rfl ?_
      rw [updJ_29]
      refine Ev.l2i dX5_decadesNow_243 ?_
      refine Ev.iret dX5_decadesNow_244 ?_
      exact ⟨rfl, rfl⟩
    · exact absurd h231 (by decide)
  · exact absurd h221 (by decide)

set_option maxHeartbeats 4000000 in
set_option maxRecDepth 100000 in
theorem m_decades_o1 {d : Nat} {g : Nat → Int32} {G : Nat → Int64} {F : Nat → Nat → Int32} {x y z : Int32} (hx : x < 1 ∨ 60 < x) : Ev (d + 1) yX5_decades cX5_decades (some .int) 0 [some (.ref 0), some (.int x), some (.int y), some (.int z)] [] (modW g G F) (Is (some (.int (-102))) (modW g G F)) := by
  refine Ev.iload_1 dX5_decades_0 rfl ?_
  refine Ev.iconst (v := 1) dX5_decades_1 (by decide) ?_
  refine Ev.bipush (v := 60) dX5_decades_2 (by decide) ?_
  refine k_X5_within (m_within _ _ _) dX5_decades_4 wl_X5_96 (Nat.le_of_ble_eq_true rfl) ?_
  rw [wtn_is0 hx]
  refine Ev.if_eq 23 dX5_decades_7 (by decide) (fun hcst => ?_) (fun hcst => ?_)
  rotate_left
  · exact absurd hcst (by decide)
  refine Ev.bipush (v := -102) dX5_decades_23 (by decide) ?_
  refine Ev.iret dX5_decades_25 ?_
  exact ⟨rfl, rfl⟩

set_option maxHeartbeats 4000000 in
set_option maxRecDepth 100000 in
theorem m_decades_o2 {d : Nat} {g : Nat → Int32} {G : Nat → Int64} {F : Nat → Nat → Int32} {a : Nat} (ha : 1 ≤ a) (ha60 : a ≤ 60) {y z : Int32} (hy : y < 0) : Ev (d + 1) yX5_decades cX5_decades (some .int) 0 [some (.ref 0), some (.int (nI a)), some (.int y), some (.int z)] [] (modW g G F) (Is (some (.int (-102))) (modW g G F)) := by
  refine Ev.iload_1 dX5_decades_0 rfl ?_
  refine Ev.iconst (v := 1) dX5_decades_1 (by decide) ?_
  refine Ev.bipush (v := 60) dX5_decades_2 (by decide) ?_
  refine k_X5_within (m_within _ _ _) dX5_decades_4 wl_X5_96 (Nat.le_of_ble_eq_true rfl) ?_
  rw [show wtn (nI a) 1 60 = 1 from wtn_is1 (lp_gt (x := nI a) (N := a) rfl (k := 1) ha (by omega)) (lp_gt (x := 60) (N := 60) rfl ha60 (by omega))]
  refine Ev.if_eq 23 dX5_decades_7 (by decide) (fun hcst => ?_) (fun hcst => ?_)
  · exact absurd hcst (by decide)
  refine Ev.iload_2 dX5_decades_10 rfl ?_
  refine Ev.if_lt 23 dX5_decades_11 (by decide) (fun h11 => ?_) (fun h11 => ?_)
  · refine Ev.bipush (v := -102) dX5_decades_23 (by decide) ?_
    refine Ev.iret dX5_decades_25 ?_
    exact ⟨rfl, rfl⟩
  · exact absurd hy h11

set_option maxHeartbeats 4000000 in
set_option maxRecDepth 100000 in
theorem m_decades_o3 {d : Nat} {g : Nat → Int32} {G : Nat → Int64} {F : Nat → Nat → Int32} {a : Nat} (ha : 1 ≤ a) (ha60 : a ≤ 60) {y z : Int32} (hy : ¬ y < 0) (hz : z < 0 ∨ 2 < z) : Ev (d + 1) yX5_decades cX5_decades (some .int) 0 [some (.ref 0), some (.int (nI a)), some (.int y), some (.int z)] [] (modW g G F) (Is (some (.int (-102))) (modW g G F)) := by
  refine Ev.iload_1 dX5_decades_0 rfl ?_
  refine Ev.iconst (v := 1) dX5_decades_1 (by decide) ?_
  refine Ev.bipush (v := 60) dX5_decades_2 (by decide) ?_
  refine k_X5_within (m_within _ _ _) dX5_decades_4 wl_X5_96 (Nat.le_of_ble_eq_true rfl) ?_
  rw [show wtn (nI a) 1 60 = 1 from wtn_is1 (lp_gt (x := nI a) (N := a) rfl (k := 1) ha (by omega)) (lp_gt (x := 60) (N := 60) rfl ha60 (by omega))]
  refine Ev.if_eq 23 dX5_decades_7 (by decide) (fun hcst => ?_) (fun hcst => ?_)
  · exact absurd hcst (by decide)
  refine Ev.iload_2 dX5_decades_10 rfl ?_
  refine Ev.if_lt 23 dX5_decades_11 (by decide) (fun h11 => ?_) (fun h11 => ?_)
  · exact absurd h11 hy
  refine Ev.iload_3 dX5_decades_14 rfl ?_
  refine Ev.iconst (v := 0) dX5_decades_15 (by decide) ?_
  refine Ev.iconst (v := 2) dX5_decades_16 (by decide) ?_
  refine k_X5_within (m_within _ _ _) dX5_decades_17 wl_X5_96 (Nat.le_of_ble_eq_true rfl) ?_
  rw [wtn_is0 hz]
  refine Ev.if_ne 26 dX5_decades_20 (by decide) (fun hcst => ?_) (fun hcst => ?_)
  · exact absurd hcst (by decide)
  refine Ev.bipush (v := -102) dX5_decades_23 (by decide) ?_
  refine Ev.iret dX5_decades_25 ?_
  exact ⟨rfl, rfl⟩

set_option maxHeartbeats 4000000 in
set_option maxRecDepth 100000 in
theorem m_decades_s {d : Nat} {g : Nat → Int32} {G : Nat → Int64} {F : Nat → Nat → Int32} {N : Nat} (ok : MOK g F 0 N) {a : Nat} (ha : 1 ≤ a) (ha60 : a ≤ 60) {y z : Int32} (hy : ¬ y < 0) (h0 : ¬ z < 0) (h2 : ¬ 2 < z) : Ev (d + 1) yX5_decades cX5_decades (some .int) 0 [some (.ref 0), some (.int (nI a)), some (.int y), some (.int z)] [] (modW g G F) (Is (some (.int (-103))) (modW g G F)) := by
  refine Ev.iload_1 dX5_decades_0 rfl ?_
  refine Ev.iconst (v := 1) dX5_decades_1 (by decide) ?_
  refine Ev.bipush (v := 60) dX5_decades_2 (by decide) ?_
  refine k_X5_within (m_within _ _ _) dX5_decades_4 wl_X5_96 (Nat.le_of_ble_eq_true rfl) ?_
  rw [show wtn (nI a) 1 60 = 1 from wtn_is1 (lp_gt (x := nI a) (N := a) rfl (k := 1) ha (by omega)) (lp_gt (x := 60) (N := 60) rfl ha60 (by omega))]
  refine Ev.if_eq 23 dX5_decades_7 (by decide) (fun hcst => ?_) (fun hcst => ?_)
  · exact absurd hcst (by decide)
  refine Ev.iload_2 dX5_decades_10 rfl ?_
  refine Ev.if_lt 23 dX5_decades_11 (by decide) (fun h11 => ?_) (fun h11 => ?_)
  · exact absurd h11 hy
  refine Ev.iload_3 dX5_decades_14 rfl ?_
  refine Ev.iconst (v := 0) dX5_decades_15 (by decide) ?_
  refine Ev.iconst (v := 2) dX5_decades_16 (by decide) ?_
  refine k_X5_within (m_within _ _ _) dX5_decades_17 wl_X5_96 (Nat.le_of_ble_eq_true rfl) ?_
  rw [wtn_is1 h0 h2]
  refine Ev.if_ne 26 dX5_decades_20 (by decide) (fun hcst => ?_) (fun hcst => ?_)
  rotate_left
  · exact absurd hcst (by decide)
  refine Ev.aload_0 dX5_decades_26 rfl ?_
  refine Ev.getf cf5 1 (by decide) wf_X5_131 dX5_decades_27 rfl rfl ?_
  refine Ev.if_ne 38 dX5_decades_30 (by decide) (fun h30 => ?_) (fun h30 => ?_)
  · exact absurd (show g 1 = 0 from ok.1) h30
  refine Ev.bipush (v := -103) dX5_decades_33 (by decide) ?_
  refine Ev.goto 45 dX5_decades_35 (by decide) ?_
  refine Ev.iret dX5_decades_45 ?_
  exact ⟨rfl, rfl⟩

set_option maxHeartbeats 4000000 in
set_option maxRecDepth 100000 in
theorem m_decades_0 {d : Nat} {g : Nat → Int32} {G : Nat → Int64} {F : Nat → Nat → Int32} {V N : Nat} (ok : MOK g F V N) (hV : 0 < V) {a : Nat} (ha : 1 ≤ a) (ha60 : a ≤ 60) {y : Int32} (hy : ¬ y < 0) : Ev (d + 5) yX5_decades cX5_decades (some .int) 0 [some (.ref 0), some (.int (nI a)), some (.int y), some (.int 0)] [] (modW g G F) (Is (some (.int ((mdF V N a 0 y.toInt64 g (svF 5 0 F)).1))) (modW (upd (upd (mdF V N a 0 y.toInt64 g (svF 5 0 F)).2.2.1 10 (g 10)) 11 (g 11)) (updJ G 29 (mdF V N a 0 y.toInt64 g (svF 5 0 F)).2.1) (rsF 5 0 (mdF V N a 0 y.toInt64 g (svF 5 0 F)).2.2.2))) := by
  refine Ev.iload_1 dX5_decades_0 rfl ?_
  refine Ev.iconst (v := 1) dX5_decades_1 (by decide) ?_
  refine Ev.bipush (v := 60) dX5_decades_2 (by decide) ?_
  refine k_X5_within (m_within _ _ _) dX5_decades_4 wl_X5_96 (Nat.le_of_ble_eq_true rfl) ?_
  rw [show wtn (nI a) 1 60 = 1 from wtn_is1 (lp_gt (x := nI a) (N := a) rfl (k := 1) ha (by omega)) (lp_gt (x := 60) (N := 60) rfl ha60 (by omega))]
  refine Ev.if_eq 23 dX5_decades_7 (by decide) (fun hcst => ?_) (fun hcst => ?_)
  · exact absurd hcst (by decide)
  refine Ev.iload_2 dX5_decades_10 rfl ?_
  refine Ev.if_lt 23 dX5_decades_11 (by decide) (fun h11 => ?_) (fun h11 => ?_)
  · exact absurd h11 hy
  refine Ev.iload_3 dX5_decades_14 rfl ?_
  refine Ev.iconst (v := 0) dX5_decades_15 (by decide) ?_
  refine Ev.iconst (v := 2) dX5_decades_16 (by decide) ?_
  refine k_X5_within (m_within _ _ _) dX5_decades_17 wl_X5_96 (Nat.le_of_ble_eq_true rfl) ?_
  rw [show wtn 0 0 2 = 1 from by decide]
  refine Ev.if_ne 26 dX5_decades_20 (by decide) (fun hcst => ?_) (fun hcst => ?_)
  rotate_left
  · exact absurd hcst (by decide)
  refine Ev.aload_0 dX5_decades_26 rfl ?_
  refine Ev.getf cf5 1 (by decide) wf_X5_131 dX5_decades_27 rfl rfl ?_
  refine Ev.if_ne 38 dX5_decades_30 (by decide) (fun h30 => ?_) (fun h30 => ?_)
  · refine Ev.aload_0 dX5_decades_38 rfl ?_
    refine Ev.iload_1 dX5_decades_39 rfl ?_
    refine Ev.iload_2 dX5_decades_40 rfl ?_
    refine Ev.iload_3 dX5_decades_41 rfl ?_
    refine k_X5_decadesNow (m_decadesNow_0 ok ha60 y) dX5_decades_42 wl_X5_300 rfl (Nat.le_of_ble_eq_true rfl) ?_
    refine Ev.iret dX5_decades_45 ?_
    exact ⟨rfl, rfl⟩
  · exact absurd h30 (by rw [ok.1]; exact nI_ne0 hV (by have := ok.2.2.1; omega))

set_option maxHeartbeats 4000000 in
set_option maxRecDepth 100000 in
theorem m_decades_1 {d : Nat} {g : Nat → Int32} {G : Nat → Int64} {F : Nat → Nat → Int32} {V N : Nat} (ok : MOK g F V N) (hV : 0 < V) {a : Nat} (ha : 1 ≤ a) (ha60 : a ≤ 60) {y : Int32} (hy : ¬ y < 0) : Ev (d + 5) yX5_decades cX5_decades (some .int) 0 [some (.ref 0), some (.int (nI a)), some (.int y), some (.int 1)] [] (modW g G F) (Is (some (.int (pnF (vM (mdF V N a 0 y.toInt64 g (svF 5 0 F)).2.2.2) N 0 0))) (modW (upd (upd (mdF V N a 0 y.toInt64 g (svF 5 0 F)).2.2.1 10 (g 10)) 11 (g 11)) (updJ G 29 (mdF V N a 0 y.toInt64 g (svF 5 0 F)).2.1) (rsF 5 0 (mdF V N a 0 y.toInt64 g (svF 5 0 F)).2.2.2))) := by
  refine Ev.iload_1 dX5_decades_0 rfl ?_
  refine Ev.iconst (v := 1) dX5_decades_1 (by decide) ?_
  refine Ev.bipush (v := 60) dX5_decades_2 (by decide) ?_
  refine k_X5_within (m_within _ _ _) dX5_decades_4 wl_X5_96 (Nat.le_of_ble_eq_true rfl) ?_
  rw [show wtn (nI a) 1 60 = 1 from wtn_is1 (lp_gt (x := nI a) (N := a) rfl (k := 1) ha (by omega)) (lp_gt (x := 60) (N := 60) rfl ha60 (by omega))]
  refine Ev.if_eq 23 dX5_decades_7 (by decide) (fun hcst => ?_) (fun hcst => ?_)
  · exact absurd hcst (by decide)
  refine Ev.iload_2 dX5_decades_10 rfl ?_
  refine Ev.if_lt 23 dX5_decades_11 (by decide) (fun h11 => ?_) (fun h11 => ?_)
  · exact absurd h11 hy
  refine Ev.iload_3 dX5_decades_14 rfl ?_
  refine Ev.iconst (v := 0) dX5_decades_15 (by decide) ?_
  refine Ev.iconst (v := 2) dX5_decades_16 (by decide) ?_
  refine k_X5_within (m_within _ _ _) dX5_decades_17 wl_X5_96 (Nat.le_of_ble_eq_true rfl) ?_
  rw [show wtn 1 0 2 = 1 from by decide]
  refine Ev.if_ne 26 dX5_decades_20 (by decide) (fun hcst => ?_) (fun hcst => ?_)
  rotate_left
  · exact absurd hcst (by decide)
  refine Ev.aload_0 dX5_decades_26 rfl ?_
  refine Ev.getf cf5 1 (by decide) wf_X5_131 dX5_decades_27 rfl rfl ?_
  refine Ev.if_ne 38 dX5_decades_30 (by decide) (fun h30 => ?_) (fun h30 => ?_)
  · refine Ev.aload_0 dX5_decades_38 rfl ?_
    refine Ev.iload_1 dX5_decades_39 rfl ?_
    refine Ev.iload_2 dX5_decades_40 rfl ?_
    refine Ev.iload_3 dX5_decades_41 rfl ?_
    refine k_X5_decadesNow (m_decadesNow_1 ok ha60 y) dX5_decades_42 wl_X5_300 rfl (Nat.le_of_ble_eq_true rfl) ?_
    refine Ev.iret dX5_decades_45 ?_
    exact ⟨rfl, rfl⟩
  · exact absurd h30 (by rw [ok.1]; exact nI_ne0 hV (by have := ok.2.2.1; omega))

set_option maxHeartbeats 4000000 in
set_option maxRecDepth 100000 in
theorem m_decades_2 {d : Nat} {g : Nat → Int32} {G : Nat → Int64} {F : Nat → Nat → Int32} {V N : Nat} (ok : MOK g F V N) (hV : 0 < V) {a : Nat} (ha : 1 ≤ a) (ha60 : a ≤ 60) {y : Int32} (hy : ¬ y < 0) : Ev (d + 5) yX5_decades cX5_decades (some .int) 0 [some (.ref 0), some (.int (nI a)), some (.int y), some (.int 2)] [] (modW g G F) (Is (some (.int ((mdF V N a 0 y.toInt64 g (svF 5 0 F)).2.1.toInt32))) (modW (upd (upd (mdF V N a 0 y.toInt64 g (svF 5 0 F)).2.2.1 10 (g 10)) 11 (g 11)) (updJ G 29 (mdF V N a 0 y.toInt64 g (svF 5 0 F)).2.1) (rsF 5 0 (mdF V N a 0 y.toInt64 g (svF 5 0 F)).2.2.2))) := by
  refine Ev.iload_1 dX5_decades_0 rfl ?_
  refine Ev.iconst (v := 1) dX5_decades_1 (by decide) ?_
  refine Ev.bipush (v := 60) dX5_decades_2 (by decide) ?_
  refine k_X5_within (m_within _ _ _) dX5_decades_4 wl_X5_96 (Nat.le_of_ble_eq_true rfl) ?_
  rw [show wtn (nI a) 1 60 = 1 from wtn_is1 (lp_gt (x := nI a) (N := a) rfl (k := 1) ha (by omega)) (lp_gt (x := 60) (N := 60) rfl ha60 (by omega))]
  refine Ev.if_eq 23 dX5_decades_7 (by decide) (fun hcst => ?_) (fun hcst => ?_)
  · exact absurd hcst (by decide)
  refine Ev.iload_2 dX5_decades_10 rfl ?_
  refine Ev.if_lt 23 dX5_decades_11 (by decide) (fun h11 => ?_) (fun h11 => ?_)
  · exact absurd h11 hy
  refine Ev.iload_3 dX5_decades_14 rfl ?_
  refine Ev.iconst (v := 0) dX5_decades_15 (by decide) ?_
  refine Ev.iconst (v := 2) dX5_decades_16 (by decide) ?_
  refine k_X5_within (m_within _ _ _) dX5_decades_17 wl_X5_96 (Nat.le_of_ble_eq_true rfl) ?_
  rw [show wtn 2 0 2 = 1 from by decide]
  refine Ev.if_ne 26 dX5_decades_20 (by decide) (fun hcst => ?_) (fun hcst => ?_)
  rotate_left
  · exact absurd hcst (by decide)
  refine Ev.aload_0 dX5_decades_26 rfl ?_
  refine Ev.getf cf5 1 (by decide) wf_X5_131 dX5_decades_27 rfl rfl ?_
  refine Ev.if_ne 38 dX5_decades_30 (by decide) (fun h30 => ?_) (fun h30 => ?_)
  · refine Ev.aload_0 dX5_decades_38 rfl ?_
    refine Ev.iload_1 dX5_decades_39 rfl ?_
    refine Ev.iload_2 dX5_decades_40 rfl ?_
    refine Ev.iload_3 dX5_decades_41 rfl ?_
    refine k_X5_decadesNow (m_decadesNow_2 ok ha60 y) dX5_decades_42 wl_X5_300 rfl (Nat.le_of_ble_eq_true rfl) ?_
    refine Ev.iret dX5_decades_45 ?_
    exact ⟨rfl, rfl⟩
  · exact absurd h30 (by rw [ok.1]; exact nI_ne0 hV (by have := ok.2.2.1; omega))

set_option maxHeartbeats 4000000 in
set_option maxRecDepth 100000 in
theorem m_im4 {d : Nat} {g : Nat → Int32} {G : Nat → Int64} {Q : Option Value → List Ce → Prop}  : ∀ (n : Nat) (k : Nat) (F R : Nat → Nat → Int32), k + n = 4 → im4 n k F = R → Ev d yX5_image cX5_image (some .int) 80 [some (.ref 0), some (.int (nI 4))] [] (modW g G R) Q → Ev d yX5_image cX5_image (some .int) 57 [some (.ref 0), some (.int (nI k))] [] (modW g G F) Q := by
  intro n
  induction n with
  | zero =>
    intro k F R hk hR K
    have hk : k = 4 := by omega
    subst hk
    have hR : F = R := hR
    subst hR
    refine Ev.iload_1 dX5_image_57 rfl ?_
    refine Ev.iconst (v := 4) dX5_image_58 (by decide) ?_
    refine Ev.icmp_ge 80 dX5_image_59 (by decide) (fun h59 => ?_) (fun h59 => ?_)
    · exact K
    · exact absurd (lp_le (x := 4) (N := 4) rfl (by omega) (by omega)) h59
  | succ n ih =>
    intro k F R hk hR K
    refine Ev.iload_1 dX5_image_57 rfl ?_
    refine Ev.iconst (v := 4) dX5_image_58 (by decide) ?_
    refine Ev.icmp_ge 80 dX5_image_59 (by decide) (fun h59 => ?_) (fun h59 => ?_)
    · exact absurd h59 (lp_ge (x := 4) (N := 4) rfl (by omega) (by omega))
    refine Ev.aload_0 dX5_image_62 rfl ?_
    refine Ev.getf cf5 40 (by decide) wf_X5_69 dX5_image_63 rfl rfl ?_
    refine Ev.iload_1 dX5_image_66 rfl ?_
    refine Ev.aload_0 dX5_image_67 rfl ?_
    refine Ev.getf cf5 3 (by decide) wf_X5_7 dX5_image_68 rfl rfl ?_
    refine Ev.iload_1 dX5_image_71 rfl ?_
    refine Ev.aldn dX5_image_72 rfl (by omega) (by decide) ?_
    refine aw_modW_20 dX5_image_73 (by omega) ?_
    first | refine Ev.incn1 dX5_image_74 rfl ?_ | refine Ev.inc1 dX5_image_74 rfl ?_
    refine Ev.goto 57 dX5_image_77 (by decide) ?_
    exact ih (k + 1) _ R (by omega) (by rw [← hR]; rfl) K

set_option maxHeartbeats 4000000 in
set_option maxRecDepth 100000 in
theorem m_im5 {d : Nat} {g : Nat → Int32} {G : Nat → Int64} {Q : Option Value → List Ce → Prop}  : ∀ (n : Nat) (k : Nat) (F R : Nat → Nat → Int32), k + n = 5 → im5 n k F = R → Ev d yX5_image cX5_image (some .int) 141 [some (.ref 0), some (.int (nI 5))] [] (modW g G R) Q → Ev d yX5_image cX5_image (some .int) 82 [some (.ref 0), some (.int (nI k))] [] (modW g G F) Q := by
  intro n
  induction n with
  | zero =>
    intro k F R hk hR K
    have hk : k = 5 := by omega
    subst hk
    have hR : F = R := hR
    subst hR
    refine Ev.iload_1 dX5_image_82 rfl ?_
    refine Ev.iconst (v := 5) dX5_image_83 (by decide) ?_
    refine Ev.icmp_ge 141 dX5_image_84 (by decide) (fun h84 => ?_) (fun h84 => ?_)
    · exact K
    · exact absurd (lp_le (x := 5) (N := 5) rfl (by omega) (by omega)) h84
  | succ n ih =>
    intro k F R hk hR K
    refine Ev.iload_1 dX5_image_82 rfl ?_
    refine Ev.iconst (v := 5) dX5_image_83 (by decide) ?_
    refine Ev.icmp_ge 141 dX5_image_84 (by decide) (fun h84 => ?_) (fun h84 => ?_)
    · exact absurd h84 (lp_ge (x := 5) (N := 5) rfl (by omega) (by omega))
    refine Ev.aload_0 dX5_image_87 rfl ?_
    refine Ev.getf cf5 41 (by decide) wf_X5_72 dX5_image_88 rfl rfl ?_
    refine Ev.iload_1 dX5_image_91 rfl ?_
    refine Ev.aload_0 dX5_image_92 rfl ?_
    refine Ev.getf cf5 5 (by decide) wf_X5_16 dX5_image_93 rfl rfl ?_
    refine Ev.iload_1 dX5_image_96 rfl ?_
    refine Ev.aldn dX5_image_97 rfl (by omega) (by decide) ?_
    refine aw_modW_21 dX5_image_98 (by omega) ?_
    refine Ev.aload_0 dX5_image_99 rfl ?_
    refine Ev.getf cf5 42 (by decide) wf_X5_75 dX5_image_100 rfl rfl ?_
    refine Ev.iload_1 dX5_image_103 rfl ?_
    refine Ev.aload_0 dX5_image_104 rfl ?_
    refine Ev.getf cf5 6 (by decide) wf_X5_19 dX5_image_105 rfl rfl ?_
    refine Ev.iload_1 dX5_image_108 rfl ?_
    refine Ev.aldn dX5_image_109 rfl (by omega) (by decide) ?_
    refine aw_modW_22 dX5_image_110 (by omega) ?_
    refine Ev.aload_0 dX5_image_111 rfl ?_
    refine Ev.getf cf5 43 (by decide) wf_X5_78 dX5_image_112 rfl rfl ?_
    refine Ev.iload_1 dX5_image_115 rfl ?_
    refine Ev.aload_0 dX5_image_116 rfl ?_
    refine Ev.getf cf5 7 (by decide) wf_X5_22 dX5_image_117 rfl rfl ?_
    refine Ev.iload_1 dX5_image_120 rfl ?_
    refine Ev.aldn dX5_image_121 rfl (by omega) (by decide) ?_
    refine aw_modW_23 dX5_image_122 (by omega) ?_
    refine Ev.aload_0 dX5_image_123 rfl ?_
    refine Ev.getf cf5 44 (by decide) wf_X5_81 dX5_image_124 rfl rfl ?_
    refine Ev.iload_1 dX5_image_127 rfl ?_
    refine Ev.aload_0 dX5_image_128 rfl ?_
    refine Ev.getf cf5 8 (by decide) wf_X5_25 dX5_image_129 rfl rfl ?_
    refine Ev.iload_1 dX5_image_132 rfl ?_
    refine Ev.aldn dX5_image_133 rfl (by omega) (by decide) ?_
    refine aw_modW_24 dX5_image_134 (by omega) ?_
    first | refine Ev.incn1 dX5_image_135 rfl ?_ | refine Ev.inc1 dX5_image_135 rfl ?_
    refine Ev.goto 82 dX5_image_138 (by decide) ?_
    exact ih (k + 1) _ R (by omega) (by rw [← hR]; rfl) K

set_option maxHeartbeats 4000000 in
set_option maxRecDepth 100000 in
theorem m_im8 {d : Nat} {g : Nat → Int32} {G : Nat → Int64} {Q : Option Value → List Ce → Prop}  : ∀ (n : Nat) (k : Nat) (F R : Nat → Nat → Int32), k + n = 8 → im8 n k F = R → Ev d yX5_image cX5_image (some .int) 203 [some (.ref 0), some (.int (nI 8))] [] (modW g G R) Q → Ev d yX5_image cX5_image (some .int) 143 [some (.ref 0), some (.int (nI k))] [] (modW g G F) Q := by
  intro n
  induction n with
  | zero =>
    intro k F R hk hR K
    have hk : k = 8 := by omega
    subst hk
    have hR : F = R := hR
    subst hR
    refine Ev.iload_1 dX5_image_143 rfl ?_
    refine Ev.bipush (v := 8) dX5_image_144 (by decide) ?_
    refine Ev.icmp_ge 203 dX5_image_146 (by decide) (fun h146 => ?_) (fun h146 => ?_)
    · exact K
    · exact absurd (lp_le (x := 8) (N := 8) rfl (by omega) (by omega)) h146
  | succ n ih =>
    intro k F R hk hR K
    refine Ev.iload_1 dX5_image_143 rfl ?_
    refine Ev.bipush (v := 8) dX5_image_144 (by decide) ?_
    refine Ev.icmp_ge 203 dX5_image_146 (by decide) (fun h146 => ?_) (fun h146 => ?_)
    · exact absurd h146 (lp_ge (x := 8) (N := 8) rfl (by omega) (by omega))
    refine Ev.aload_0 dX5_image_149 rfl ?_
    refine Ev.getf cf5 45 (by decide) wf_X5_84 dX5_image_150 rfl rfl ?_
    refine Ev.iload_1 dX5_image_153 rfl ?_
    refine Ev.aload_0 dX5_image_154 rfl ?_
    refine Ev.getf cf5 14 (by decide) wf_X5_28 dX5_image_155 rfl rfl ?_
    refine Ev.iload_1 dX5_image_158 rfl ?_
    refine Ev.aldn dX5_image_159 rfl (by omega) (by decide) ?_
    refine aw_modW_25 dX5_image_160 (by omega) ?_
    refine Ev.aload_0 dX5_image_161 rfl ?_
    refine Ev.getf cf5 46 (by decide) wf_X5_87 dX5_image_162 rfl rfl ?_
    refine Ev.iload_1 dX5_image_165 rfl ?_
    refine Ev.aload_0 dX5_image_166 rfl ?_
    refine Ev.getf cf5 15 (by decide) wf_X5_31 dX5_image_167 rfl rfl ?_
    refine Ev.iload_1 dX5_image_170 rfl ?_
    refine Ev.aldn dX5_image_171 rfl (by omega) (by decide) ?_
    refine aw_modW_26 dX5_image_172 (by omega) ?_
    refine Ev.aload_0 dX5_image_173 rfl ?_
    refine Ev.getf cf5 47 (by decide) wf_X5_90 dX5_image_174 rfl rfl ?_
    refine Ev.iload_1 dX5_image_177 rfl ?_
    refine Ev.aload_0 dX5_image_178 rfl ?_
    refine Ev.getf cf5 16 (by decide) wf_X5_34 dX5_image_179 rfl rfl ?_
    refine Ev.iload_1 dX5_image_182 rfl ?_
    refine Ev.aldn dX5_image_183 rfl (by omega) (by decide) ?_
    refine aw_modW_27 dX5_image_184 (by omega) ?_
    refine Ev.aload_0 dX5_image_185 rfl ?_
    refine Ev.getf cf5 48 (by decide) wf_X5_93 dX5_image_186 rfl rfl ?_
    refine Ev.iload_1 dX5_image_189 rfl ?_
    refine Ev.aload_0 dX5_image_190 rfl ?_
    refine Ev.getf cf5 17 (by decide) wf_X5_37 dX5_image_191 rfl rfl ?_
    refine Ev.iload_1 dX5_image_194 rfl ?_
    refine Ev.aldn dX5_image_195 rfl (by omega) (by decide) ?_
    refine aw_modW_28 dX5_image_196 (by omega) ?_
    first | refine Ev.incn1 dX5_image_197 rfl ?_ | refine Ev.inc1 dX5_image_197 rfl ?_
    refine Ev.goto 143 dX5_image_200 (by decide) ?_
    exact ih (k + 1) _ R (by omega) (by rw [← hR]; rfl) K

set_option maxHeartbeats 4000000 in
set_option maxRecDepth 100000 in
theorem m_re4 {d : Nat} {g : Nat → Int32} {G : Nat → Int64} {Q : Option Value → List Ce → Prop}  : ∀ (n : Nat) (k : Nat) (F R : Nat → Nat → Int32), k + n = 4 → re4 n k F = R → Ev d yX5_restore cX5_restore (some .int) 78 [some (.ref 0), some (.int (nI 4))] [] (modW g G R) Q → Ev d yX5_restore cX5_restore (some .int) 55 [some (.ref 0), some (.int (nI k))] [] (modW g G F) Q := by
  intro n
  induction n with
  | zero =>
    intro k F R hk hR K
    have hk : k = 4 := by omega
    subst hk
    have hR : F = R := hR
    subst hR
    refine Ev.iload_1 dX5_restore_55 rfl ?_
    refine Ev.iconst (v := 4) dX5_restore_56 (by decide) ?_
    refine Ev.icmp_ge 78 dX5_restore_57 (by decide) (fun h57 => ?_) (fun h57 => ?_)
    · exact K
    · exact absurd (lp_le (x := 4) (N := 4) rfl (by omega) (by omega)) h57
  | succ n ih =>
    intro k F R hk hR K
    refine Ev.iload_1 dX5_restore_55 rfl ?_
    refine Ev.iconst (v := 4) dX5_restore_56 (by decide) ?_
    refine Ev.icmp_ge 78 dX5_restore_57 (by decide) (fun h57 => ?_) (fun h57 => ?_)
    · exact absurd h57 (lp_ge (x := 4) (N := 4) rfl (by omega) (by omega))
    refine Ev.aload_0 dX5_restore_60 rfl ?_
    refine Ev.getf cf5 3 (by decide) wf_X5_7 dX5_restore_61 rfl rfl ?_
    refine Ev.iload_1 dX5_restore_64 rfl ?_
    refine Ev.aload_0 dX5_restore_65 rfl ?_
    refine Ev.getf cf5 40 (by decide) wf_X5_69 dX5_restore_66 rfl rfl ?_
    refine Ev.iload_1 dX5_restore_69 rfl ?_
    refine Ev.aldn dX5_restore_70 rfl (by omega) (by decide) ?_
    refine aw_modW_1 dX5_restore_71 (by omega) ?_
    first | refine Ev.incn1 dX5_restore_72 rfl ?_ | refine Ev.inc1 dX5_restore_72 rfl ?_
    refine Ev.goto 55 dX5_restore_75 (by decide) ?_
    exact ih (k + 1) _ R (by omega) (by rw [← hR]; rfl) K

set_option maxHeartbeats 4000000 in
set_option maxRecDepth 100000 in
theorem m_re5 {d : Nat} {g : Nat → Int32} {G : Nat → Int64} {Q : Option Value → List Ce → Prop}  : ∀ (n : Nat) (k : Nat) (F R : Nat → Nat → Int32), k + n = 5 → re5 n k F = R → Ev d yX5_restore cX5_restore (some .int) 139 [some (.ref 0), some (.int (nI 5))] [] (modW g G R) Q → Ev d yX5_restore cX5_restore (some .int) 80 [some (.ref 0), some (.int (nI k))] [] (modW g G F) Q := by
  intro n
  induction n with
  | zero =>
    intro k F R hk hR K
    have hk : k = 5 := by omega
    subst hk
    have hR : F = R := hR
    subst hR
    refine Ev.iload_1 dX5_restore_80 rfl ?_
    refine Ev.iconst (v := 5) dX5_restore_81 (by decide) ?_
    refine Ev.icmp_ge 139 dX5_restore_82 (by decide) (fun h82 => ?_) (fun h82 => ?_)
    · exact K
    · exact absurd (lp_le (x := 5) (N := 5) rfl (by omega) (by omega)) h82
  | succ n ih =>
    intro k F R hk hR K
    refine Ev.iload_1 dX5_restore_80 rfl ?_
    refine Ev.iconst (v := 5) dX5_restore_81 (by decide) ?_
    refine Ev.icmp_ge 139 dX5_restore_82 (by decide) (fun h82 => ?_) (fun h82 => ?_)
    · exact absurd h82 (lp_ge (x := 5) (N := 5) rfl (by omega) (by omega))
    refine Ev.aload_0 dX5_restore_85 rfl ?_
    refine Ev.getf cf5 5 (by decide) wf_X5_16 dX5_restore_86 rfl rfl ?_
    refine Ev.iload_1 dX5_restore_89 rfl ?_
    refine Ev.aload_0 dX5_restore_90 rfl ?_
    refine Ev.getf cf5 41 (by decide) wf_X5_72 dX5_restore_91 rfl rfl ?_
    refine Ev.iload_1 dX5_restore_94 rfl ?_
    refine Ev.aldn dX5_restore_95 rfl (by omega) (by decide) ?_
    refine aw_modW_3 dX5_restore_96 (by omega) ?_
    refine Ev.aload_0 dX5_restore_97 rfl ?_
    refine Ev.getf cf5 6 (by decide) wf_X5_19 dX5_restore_98 rfl rfl ?_
    refine Ev.iload_1 dX5_restore_101 rfl ?_
    refine Ev.aload_0 dX5_restore_102 rfl ?_
    refine Ev.getf cf5 42 (by decide) wf_X5_75 dX5_restore_103 rfl rfl ?_
    refine Ev.iload_1 dX5_restore_106 rfl ?_
    refine Ev.aldn dX5_restore_107 rfl (by omega) (by decide) ?_
    refine aw_modW_4 dX5_restore_108 (by omega) ?_
    refine Ev.aload_0 dX5_restore_109 rfl ?_
    refine Ev.getf cf5 7 (by decide) wf_X5_22 dX5_restore_110 rfl rfl ?_
    refine Ev.iload_1 dX5_restore_113 rfl ?_
    refine Ev.aload_0 dX5_restore_114 rfl ?_
    refine Ev.getf cf5 43 (by decide) wf_X5_78 dX5_restore_115 rfl rfl ?_
    refine Ev.iload_1 dX5_restore_118 rfl ?_
    refine Ev.aldn dX5_restore_119 rfl (by omega) (by decide) ?_
    refine aw_modW_5 dX5_restore_120 (by omega) ?_
    refine Ev.aload_0 dX5_restore_121 rfl ?_
    refine Ev.getf cf5 8 (by decide) wf_X5_25 dX5_restore_122 rfl rfl ?_
    refine Ev.iload_1 dX5_restore_125 rfl ?_
    refine Ev.aload_0 dX5_restore_126 rfl ?_
    refine Ev.getf cf5 44 (by decide) wf_X5_81 dX5_restore_127 rfl rfl ?_
    refine Ev.iload_1 dX5_restore_130 rfl ?_
    refine Ev.aldn dX5_restore_131 rfl (by omega) (by decide) ?_
    refine aw_modW_6 dX5_restore_132 (by omega) ?_
    first | refine Ev.incn1 dX5_restore_133 rfl ?_ | refine Ev.inc1 dX5_restore_133 rfl ?_
    refine Ev.goto 80 dX5_restore_136 (by decide) ?_
    exact ih (k + 1) _ R (by omega) (by rw [← hR]; rfl) K

set_option maxHeartbeats 4000000 in
set_option maxRecDepth 100000 in
theorem m_re8 {d : Nat} {g : Nat → Int32} {G : Nat → Int64} {Q : Option Value → List Ce → Prop}  : ∀ (n : Nat) (k : Nat) (F R : Nat → Nat → Int32), k + n = 8 → re8 n k F = R → Ev d yX5_restore cX5_restore (some .int) 201 [some (.ref 0), some (.int (nI 8))] [] (modW g G R) Q → Ev d yX5_restore cX5_restore (some .int) 141 [some (.ref 0), some (.int (nI k))] [] (modW g G F) Q := by
  intro n
  induction n with
  | zero =>
    intro k F R hk hR K
    have hk : k = 8 := by omega
    subst hk
    have hR : F = R := hR
    subst hR
    refine Ev.iload_1 dX5_restore_141 rfl ?_
    refine Ev.bipush (v := 8) dX5_restore_142 (by decide) ?_
    refine Ev.icmp_ge 201 dX5_restore_144 (by decide) (fun h144 => ?_) (fun h144 => ?_)
    · exact K
    · exact absurd (lp_le (x := 8) (N := 8) rfl (by omega) (by omega)) h144
  | succ n ih =>
    intro k F R hk hR K
    refine Ev.iload_1 dX5_restore_141 rfl ?_
    refine Ev.bipush (v := 8) dX5_restore_142 (by decide) ?_
    refine Ev.icmp_ge 201 dX5_restore_144 (by decide) (fun h144 => ?_) (fun h144 => ?_)
    · exact absurd h144 (lp_ge (x := 8) (N := 8) rfl (by omega) (by omega))
    refine Ev.aload_0 dX5_restore_147 rfl ?_
    refine Ev.getf cf5 14 (by decide) wf_X5_28 dX5_restore_148 rfl rfl ?_
    refine Ev.iload_1 dX5_restore_151 rfl ?_
    refine Ev.aload_0 dX5_restore_152 rfl ?_
    refine Ev.getf cf5 45 (by decide) wf_X5_84 dX5_restore_153 rfl rfl ?_
    refine Ev.iload_1 dX5_restore_156 rfl ?_
    refine Ev.aldn dX5_restore_157 rfl (by omega) (by decide) ?_
    refine aw_modW_7 dX5_restore_158 (by omega) ?_
    refine Ev.aload_0 dX5_restore_159 rfl ?_
    refine Ev.getf cf5 15 (by decide) wf_X5_31 dX5_restore_160 rfl rfl ?_
    refine Ev.iload_1 dX5_restore_163 rfl ?_
    refine Ev.aload_0 dX5_restore_164 rfl ?_
    refine Ev.getf cf5 46 (by decide) wf_X5_87 dX5_restore_165 rfl rfl ?_
    refine Ev.iload_1 dX5_restore_168 rfl ?_
    refine Ev.aldn dX5_restore_169 rfl (by omega) (by decide) ?_
    refine aw_modW_8 dX5_restore_170 (by omega) ?_
    refine Ev.aload_0 dX5_restore_171 rfl ?_
    refine Ev.getf cf5 16 (by decide) wf_X5_34 dX5_restore_172 rfl rfl ?_
    refine Ev.iload_1 dX5_restore_175 rfl ?_
    refine Ev.aload_0 dX5_restore_176 rfl ?_
    refine Ev.getf cf5 47 (by decide) wf_X5_90 dX5_restore_177 rfl rfl ?_
    refine Ev.iload_1 dX5_restore_180 rfl ?_
    refine Ev.aldn dX5_restore_181 rfl (by omega) (by decide) ?_
    refine aw_modW_9 dX5_restore_182 (by omega) ?_
    refine Ev.aload_0 dX5_restore_183 rfl ?_
    refine Ev.getf cf5 17 (by decide) wf_X5_37 dX5_restore_184 rfl rfl ?_
    refine Ev.iload_1 dX5_restore_187 rfl ?_
    refine Ev.aload_0 dX5_restore_188 rfl ?_
    refine Ev.getf cf5 48 (by decide) wf_X5_93 dX5_restore_189 rfl rfl ?_
    refine Ev.iload_1 dX5_restore_192 rfl ?_
    refine Ev.aldn dX5_restore_193 rfl (by omega) (by decide) ?_
    refine aw_modW_10 dX5_restore_194 (by omega) ?_
    first | refine Ev.incn1 dX5_restore_195 rfl ?_ | refine Ev.inc1 dX5_restore_195 rfl ?_
    refine Ev.goto 141 dX5_restore_198 (by decide) ?_
    exact ih (k + 1) _ R (by omega) (by rw [← hR]; rfl) K

set_option maxHeartbeats 4000000 in
set_option maxRecDepth 100000 in
theorem m_image_s {d : Nat} {g : Nat → Int32} {G : Nat → Int64} {F : Nat → Nat → Int32} {N : Nat} (ok : MOK g F 0 N)  : Ev d yX5_image cX5_image (some .int) 0 [some (.ref 0), none] [] (modW g G F) (Is (some (.int (-103))) (modW g G F)) := by
  refine Ev.aload_0 dX5_image_0 rfl ?_
  refine Ev.getf cf5 1 (by decide) wf_X5_131 dX5_image_1 rfl rfl ?_
  refine Ev.if_ne 10 dX5_image_4 (by decide) (fun h4 => ?_) (fun h4 => ?_)
  · exact absurd (show g 1 = 0 from ok.1) h4
  refine Ev.bipush (v := -103) dX5_image_7 (by decide) ?_
  refine Ev.iret dX5_image_9 ?_
  exact ⟨rfl, rfl⟩

set_option maxHeartbeats 4000000 in
set_option maxRecDepth 100000 in
theorem m_image_k {d : Nat} {g : Nat → Int32} {G : Nat → Int64} {F : Nat → Nat → Int32} {V N : Nat} (ok : MOK g F V N) (hV : 0 < V) : Ev d yX5_image cX5_image (some .int) 0 [some (.ref 0), none] [] (modW g G F) (Is (some (.int (g 9))) (modW (imG g) G (im8 8 0 (im5 5 0 (im4 4 0 F))))) := by
  refine Ev.aload_0 dX5_image_0 rfl ?_
  refine Ev.getf cf5 1 (by decide) wf_X5_131 dX5_image_1 rfl rfl ?_
  refine Ev.if_ne 10 dX5_image_4 (by decide) (fun h4 => ?_) (fun h4 => ?_)
  · refine Ev.aload_0 dX5_image_10 rfl ?_
    refine Ev.iconst (v := 1) dX5_image_11 (by decide) ?_
    refine pw_modW_0_34 dX5_image_12 wf_X5_303 (by decide) (by decide) ?_
    refine Ev.aload_0 dX5_image_15 rfl ?_
    refine Ev.aload_0 dX5_image_16 rfl ?_
    refine Ev.getf cf5 0 (by decide) wf_X5_146 dX5_image_17 rfl rfl ?_
    refine pw_modW_0_35 dX5_image_20 wf_X5_306 ?_
    refine Ev.aload_0 dX5_image_23 rfl ?_
    refine Ev.aload_0 dX5_image_24 rfl ?_
    refine Ev.getf cf5 9 (by decide) wf_X5_137 dX5_image_25 rfl rfl ?_
    refine pw_modW_0_36 dX5_image_28 wf_X5_309 ?_
    refine Ev.aload_0 dX5_image_31 rfl ?_
    refine Ev.aload_0 dX5_image_32 rfl ?_
    refine Ev.getf cf5 10 (by decide) wf_X5_140 dX5_image_33 rfl rfl ?_
    refine pw_modW_0_37 dX5_image_36 wf_X5_312 ?_
    refine Ev.aload_0 dX5_image_39 rfl ?_
    refine Ev.aload_0 dX5_image_40 rfl ?_
    refine Ev.getf cf5 11 (by decide) wf_X5_143 dX5_image_41 rfl rfl ?_
    refine pw_modW_0_38 dX5_image_44 wf_X5_315 ?_
    refine Ev.aload_0 dX5_image_47 rfl ?_
    refine Ev.aload_0 dX5_image_48 rfl ?_
    refine Ev.getf cf5 13 (by decide) wf_X5_149 dX5_image_49 rfl rfl ?_
    refine pw_modW_0_39 dX5_image_52 wf_X5_318 ?_
    refine Ev.iconst (v := 0) dX5_image_55 (by decide) ?_
    refine Ev.ist1 dX5_image_56 rfl ?_
    refine m_im4 4 0 _ _ (by omega) rfl ?_
    refine Ev.iconst (v := 0) dX5_image_80 (by decide) ?_
    refine Ev.ist1 dX5_image_81 rfl ?_
    refine m_im5 5 0 _ _ (by omega) rfl ?_
    refine Ev.iconst (v := 0) dX5_image_141 (by decide) ?_
    refine Ev.ist1 dX5_image_142 rfl ?_
    refine m_im8 8 0 _ _ (by omega) rfl ?_
    refine Ev.aload_0 dX5_image_203 rfl ?_
    refine Ev.getf cf5 9 (by decide) wf_X5_137 dX5_image_204 rfl rfl ?_
    refine Ev.iret dX5_image_207 ?_
    exact ⟨rfl, rfl⟩
  · exact absurd h4 (by rw [ok.1]; exact nI_ne0 hV (by have := ok.2.2.1; omega))

set_option maxHeartbeats 4000000 in
set_option maxRecDepth 100000 in
theorem m_restore_s1 {d : Nat} {g : Nat → Int32} {G : Nat → Int64} {F : Nat → Nat → Int32} (h : g 34 = 0) : Ev d yX5_restore cX5_restore (some .int) 0 [some (.ref 0), none] [] (modW g G F) (Is (some (.int (-103))) (modW g G F)) := by
  refine Ev.aload_0 dX5_restore_0 rfl ?_
  refine Ev.getf cf5 34 (by decide) wf_X5_303 dX5_restore_1 rfl rfl ?_
  refine Ev.if_eq 18 dX5_restore_4 (by decide) (fun h4 => ?_) (fun h4 => ?_)
  · refine Ev.bipush (v := -103) dX5_restore_18 (by decide) ?_
    refine Ev.iret dX5_restore_20 ?_
    exact ⟨rfl, rfl⟩
  · exact absurd h h4

set_option maxHeartbeats 4000000 in
set_option maxRecDepth 100000 in
theorem m_restore_s2 {d : Nat} {g : Nat → Int32} {G : Nat → Int64} {F : Nat → Nat → Int32} (h : ¬ g 34 = 0) (h2 : ¬ g 35 = g 0) : Ev d yX5_restore cX5_restore (some .int) 0 [some (.ref 0), none] [] (modW g G F) (Is (some (.int (-103))) (modW g G F)) := by
  refine Ev.aload_0 dX5_restore_0 rfl ?_
  refine Ev.getf cf5 34 (by decide) wf_X5_303 dX5_restore_1 rfl rfl ?_
  refine Ev.if_eq 18 dX5_restore_4 (by decide) (fun h4 => ?_) (fun h4 => ?_)
  · exact absurd h4 h
  refine Ev.aload_0 dX5_restore_7 rfl ?_
  refine Ev.getf cf5 35 (by decide) wf_X5_306 dX5_restore_8 rfl rfl ?_
  refine Ev.aload_0 dX5_restore_11 rfl ?_
  refine Ev.getf cf5 0 (by decide) wf_X5_146 dX5_restore_12 rfl rfl ?_
  refine Ev.icmp_eq 21 dX5_restore_15 (by decide) (fun h15 => ?_) (fun h15 => ?_)
  · exact absurd h15 h2
  refine Ev.bipush (v := -103) dX5_restore_18 (by decide) ?_
  refine Ev.iret dX5_restore_20 ?_
  exact ⟨rfl, rfl⟩

set_option maxHeartbeats 4000000 in
set_option maxRecDepth 100000 in
theorem m_restore_k {d : Nat} {g : Nat → Int32} {G : Nat → Int64} {F : Nat → Nat → Int32} (h : ¬ g 34 = 0) (h2 : g 35 = g 0) : Ev d yX5_restore cX5_restore (some .int) 0 [some (.ref 0), none] [] (modW g G F) (Is (some (.int (g 36))) (modW (reG g) G (re8 8 0 (re5 5 0 (re4 4 0 F))))) := by
  refine Ev.aload_0 dX5_restore_0 rfl ?_
  refine Ev.getf cf5 34 (by decide) wf_X5_303 dX5_restore_1 rfl rfl ?_
  refine Ev.if_eq 18 dX5_restore_4 (by decide) (fun h4 => ?_) (fun h4 => ?_)
  · exact absurd h4 h
  refine Ev.aload_0 dX5_restore_7 rfl ?_
  refine Ev.getf cf5 35 (by decide) wf_X5_306 dX5_restore_8 rfl rfl ?_
  refine Ev.aload_0 dX5_restore_11 rfl ?_
  refine Ev.getf cf5 0 (by decide) wf_X5_146 dX5_restore_12 rfl rfl ?_
  refine Ev.icmp_eq 21 dX5_restore_15 (by decide) (fun h15 => ?_) (fun h15 => ?_)
  · refine Ev.aload_0 dX5_restore_21 rfl ?_
    refine Ev.aload_0 dX5_restore_22 rfl ?_
    refine Ev.getf cf5 36 (by decide) wf_X5_309 dX5_restore_23 rfl rfl ?_
    refine pw_modW_0_9 dX5_restore_26 wf_X5_137 ?_
    refine Ev.aload_0 dX5_restore_29 rfl ?_
    refine Ev.aload_0 dX5_restore_30 rfl ?_
    refine Ev.getf cf5 37 (by decide) wf_X5_312 dX5_restore_31 rfl rfl ?_
    refine pw_modW_0_10 dX5_restore_34 wf_X5_140 ?_
    refine Ev.aload_0 dX5_restore_37 rfl ?_
    refine Ev.aload_0 dX5_restore_38 rfl ?_
    refine Ev.getf cf5 38 (by decide) wf_X5_315 dX5_restore_39 rfl rfl ?_
    refine pw_modW_0_11 dX5_restore_42 wf_X5_143 ?_
    refine Ev.aload_0 dX5_restore_45 rfl ?_
    refine Ev.aload_0 dX5_restore_46 rfl ?_
    refine Ev.getf cf5 39 (by decide) wf_X5_318 dX5_restore_47 rfl rfl ?_
    refine pw_modW_0_13 dX5_restore_50 wf_X5_149 ?_
    refine Ev.iconst (v := 0) dX5_restore_53 (by decide) ?_
    refine Ev.ist1 dX5_restore_54 rfl ?_
    refine m_re4 4 0 _ _ (by omega) rfl ?_
    refine Ev.iconst (v := 0) dX5_restore_78 (by decide) ?_
    refine Ev.ist1 dX5_restore_79 rfl ?_
    refine m_re5 5 0 _ _ (by omega) rfl ?_
    refine Ev.iconst (v := 0) dX5_restore_139 (by decide) ?_
    refine Ev.ist1 dX5_restore_140 rfl ?_
    refine m_re8 8 0 _ _ (by omega) rfl ?_
    refine Ev.aload_0 dX5_restore_201 rfl ?_
    refine Ev.getf cf5 9 (by decide) wf_X5_137 dX5_restore_202 rfl rfl ?_
    refine Ev.iret dX5_restore_205 ?_
    exact ⟨rfl, rfl⟩
  · exact absurd h2 h15
