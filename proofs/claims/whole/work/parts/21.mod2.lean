theorem vM_up (F : Nat → Nat → Int32) (a j : Nat) (x : Int32) : vM (up2 F (a + 3) j x) = up2 (vM F) a j x := by
  funext b k
  by_cases hb : b = a
  · subst hb; simp [vM, up2, upd]
  · have : ¬ b + 3 = a + 3 := by omega
    simp [vM, up2, hb]
theorem up2_up2 (F : Nat → Nat → Int32) (a j : Nat) (x y : Int32) : up2 (up2 F a j x) a j y = up2 F a j y := by
  funext b k
  by_cases hb : b = a
  · subst hb
    by_cases hk : k = j
    · subst hk; simp [up2, upd]
    · simp [up2, upd, hk]
  · simp [up2, hb]
theorem MOK.row {g : Nat → Int32} {F : Nat → Nat → Int32} {V N : Nat} (ok : MOK g F V N) {a : Nat} (ha : a ≠ 6) (j : Nat) (x : Int32) : MOK g (up2 F a j x) V N :=
  ⟨ok.1, ok.2.1, ok.2.2.1, ok.2.2.2.1, fun k hk => by rw [show up2 F a j x 6 k = F 6 k from by simp [up2, Ne.symm ha]]; exact ok.2.2.2.2 k hk⟩
theorem MOK.home {g : Nat → Int32} {F : Nat → Nat → Int32} {V N : Nat} (ok : MOK g F V N) (j : Nat) {x : Int32} (hx : x = -1 ∨ ∃ v, v < V ∧ x = nI v) : MOK g (up2 F 6 j x) V N :=
  ⟨ok.1, ok.2.1, ok.2.2.1, ok.2.2.2.1, fun k hk => by
    by_cases h : k = j
    · subst h; rw [show up2 F 6 k x 6 k = x from by simp [up2, upd]]; exact hx
    · rw [show up2 F 6 j x 6 k = F 6 k from by simp [up2, upd, h]]; exact ok.2.2.2.2 k hk⟩
/-- liftsWith -/
def lwt (X : Nat → Nat → Int32) (N w v : Nat) (oz side force : Int32) : Int32 := lifs (hld (up2 X 2 w oz) N (-1) v side) force
def ciF (X F : Nat → Nat → Int32) (N w v : Nat) (h : Int32) : Nat → Nat → Int32 → Int32
  | 0, _, b => b
  | n + 1, k, b => ciF X F N w v h n (k + 1) (if b = 0 then 0 else if ¬ F 14 k = nI w then 1 else if lwt X N w v h (F 15 k) (F 16 k) = (if F 17 k = 1 then 1 else 0) then 1 else 0)
def coF (q : Nat → Int32) : Nat → Nat → Int32 → Int32
  | 0, _, a => a
  | n + 1, h, a => coF q n (h + 1) (a ||| (if q h = 0 then 0 else (1 : Int32) <<< ((nI h - 1) &&& 31)))
/-- canHave -/
def mch (F : Nat → Nat → Int32) (N K w : Nat) : Int32 := coF (fun h => if F 6 w = -1 then 1 else ciF (vM F) F N w (F 6 w).toNatClampNeg (nI h) K 0 1) 9 1 0
def wyF (X : Nat → Nat → Int32) (N w v : Nat) (bits side force : Int32) : Nat → Nat → Int32 → Int32
  | 0, _, c => c
  | n + 1, h, c => wyF X N w v bits side force n (h + 1) (c + (if isin bits (nI h - 1) = 0 then 0 else if lwt X N w v (nI h) side force = 0 then 0 else 1))
def mwb (X : Nat → Nat → Int32) (N w v : Nat) (bits side force : Int32) : Int32 := if wyF X N w v bits side force 9 1 0 ≤ siz bits - wyF X N w v bits side force 9 1 0 then siz bits - wyF X N w v bits side force 9 1 0 else wyF X N w v bits side force 9 1 0
def wfF (q : Nat → Int32) : Nat → Nat → Int32 → Int32 → Int32
  | 0, _, b, _ => b
  | n + 1, k, b, l => if l ≤ q k then wfF q n (k + 1) b l else wfF q n (k + 1) (nI k) (q k)
/-- waitFor -/
def mwf (F : Nat → Nat → Int32) (N K w : Nat) : Int32 := if mch F N K w = 0 ∨ F 6 w = -1 then -1 else wfF (fun k => mwb (vM F) N w (F 6 w).toNatClampNeg (mch F N K w) (nI (k / 100)) (nI (k % 100))) 200 0 (-1) 268435456
def whF (q : Nat → Int32) : Nat → Nat → Int32 → Int32 → Int32 × Int32
  | 0, _, b, l => (b, l)
  | n + 1, k, b, l => if q k ≤ l then whF q n (k + 1) b l else whF q n (k + 1) (nI k) (q k)
def wh1 (F : Nat → Nat → Int32) (w v : Nat) : Nat → Nat → Int32 := up2 (up2 F 6 w (nI v)) 8 w 0
/-- whereNow -/
def mwh (F : Nat → Nat → Int32) (N w v : Nat) : Int32 × Int32 := whF (fun p => mls (vM (up2 (wh1 F w v) 7 w (nI p))) N v) 5 0 0 (-1)
def mmF (F : Nat → Nat → Int32) (V N : Nat) : Nat → Nat → Int32 → Int32 → Int32
  | 0, _, b, _ => b
  | n + 1, w, b, l => if F 6 w = -1 ∨ 9 ≤ F 5 w ∨ mla (vM (up2 F 5 w (F 5 w + 1))) V N ≤ l then mmF F V N n (w + 1) b l else mmF F V N n (w + 1) (nI w) (mla (vM (up2 F 5 w (F 5 w + 1))) V N)
def mmd (F : Nat → Nat → Int32) (V N : Nat) : Int32 := mmF F V N N 0 (-1) (mla (vM F) V N)
def alF (X : Nat → Nat → Int32) (N : Nat) (side force : Int32) : Nat → Nat → Int32 → Int32
  | 0, _, b => b
  | n + 1, v, b => alF X N side force n (v + 1) (if ¬ b = 0 then 1 else if lifs (hld X N (-1) v side) force = 0 then 0 else 1)
def gdF (X : Nat → Nat → Int32) (V N : Nat) : Nat → Nat → Int32 → Int32
  | 0, _, a => a
  | n + 1, f, a => gdF X V N n (f + 1) (a + (if alF X N 0 (nI f) V 0 0 = 0 then 1 else 0) + (if alF X N 1 (nI f) V 0 0 = 0 then 1 else 0))
theorem powF_nI {x : Nat} : ∀ (n a : Nat), powF (nI x) n (nI a) = nI (a * x ^ n)
  | 0, a => by rw [powF, Nat.pow_zero, Nat.mul_one]
  | n + 1, a => by rw [powF, pk_mul, powF_nI n, Nat.pow_succ', Nat.mul_assoc]

theorem zb_n (p : Prop) [Decidable p] : narrow .boolean (.int (zb p)) = .int (zb p) := by
  unfold zb; split <;> decide

set_option maxHeartbeats 4000000 in
set_option maxRecDepth 100000 in
theorem m_liftsWith {d : Nat} {g : Nat → Int32} {G : Nat → Int64} {F : Nat → Nat → Int32} {V N : Nat} (ok : MOK g F V N) {w : Nat} (hw : w < N) {v : Nat} (hv : v < V) (hh : F 6 w = nI v) (oz side force : Int32) : Ev (d + 3) yX5_liftsWith cX5_liftsWith (some .boolean) 0 [some (.ref 0), some (.int (nI w)), some (.int oz), some (.int side), some (.int force), none, none] [] (modW g G F) (Is (some (.int (lwt (vM F) N w v oz side force))) (modW g G F)) := by
  have hw5 : w < 5 := by have := ok.2.2.2.1; omega
  have h4 := ok.2.2.1
  refine Ev.aload_0 dX5_liftsWith_0 rfl ?_
  refine Ev.getf cf5 5 (by decide) wf_X5_16 dX5_liftsWith_1 rfl rfl ?_
  refine Ev.iload_1 dX5_liftsWith_4 rfl ?_
  refine Ev.aldn dX5_liftsWith_5 rfl (by omega) (by decide) ?_
  refine Ev.ist5 dX5_liftsWith_6 rfl ?_
  refine Ev.aload_0 dX5_liftsWith_8 rfl ?_
  refine Ev.getf cf5 5 (by decide) wf_X5_16 dX5_liftsWith_9 rfl rfl ?_
  refine Ev.iload_1 dX5_liftsWith_12 rfl ?_
  refine Ev.iload_2 dX5_liftsWith_13 rfl ?_
  refine aw_modW_3 dX5_liftsWith_14 (by omega) ?_
  refine Ev.aload_0 dX5_liftsWith_15 rfl ?_
  refine Ev.aload_0 dX5_liftsWith_16 rfl ?_
  refine Ev.getf cf5 6 (by decide) wf_X5_19 dX5_liftsWith_17 rfl rfl ?_
  refine Ev.iload_1 dX5_liftsWith_20 rfl ?_
  refine Ev.aldn dX5_liftsWith_21 rfl (by omega) (by decide) ?_
  refine Ev.iload_3 dX5_liftsWith_22 rfl ?_
  refine Ev.iload dX5_liftsWith_23 rfl ?_
  rw [show up2 F 5 w oz 6 w = nI v from hh]
  refine k_X5_wouldLift (m_wouldLift (MOK.row ok (a := 5) (by decide) w oz) (by omega) _ _) dX5_liftsWith_25 wl_X5_204 rfl (Nat.le_of_ble_eq_true rfl) ?_
  refine Ev.ist6 dX5_liftsWith_28 rfl ?_
  refine Ev.aload_0 dX5_liftsWith_30 rfl ?_
  refine Ev.getf cf5 5 (by decide) wf_X5_16 dX5_liftsWith_31 rfl rfl ?_
  refine Ev.iload_1 dX5_liftsWith_34 rfl ?_
  refine Ev.iload dX5_liftsWith_35 rfl ?_
  refine aw_modW_3 dX5_liftsWith_37 (by omega) ?_
  refine Ev.iload dX5_liftsWith_38 rfl ?_
  refine Ev.zret dX5_liftsWith_40 (zb_n _) ?_
  exact ⟨by rw [lwt, ← vM_up F 2 w oz], by rw [up2_self]⟩

set_option maxHeartbeats 4000000 in
set_option maxRecDepth 100000 in
theorem m_ch_in {d : Nat} {g : Nat → Int32} {G : Nat → Int64} {F : Nat → Nat → Int32} {Q : Option Value → List Ce → Prop} {V N : Nat} (ok : MOK g F V N) {w : Nat} (hw : w < N) {K : Nat} (hK : g 13 = nI K) (h8 : K ≤ 8) {v : Nat} (hv : v < V) (hh : F 6 w = nI v) {a h : Int32}  : ∀ (n : Nat) (k : Nat) (b R : Int32), k + n = K → ciF (vM F) F N w v h n k b = R → Ev (d + 4) yX5_canHave cX5_canHave (some .int) 103 [some (.ref 0), some (.int (nI w)), some (.int a), some (.int h), some (.int R), some (.int (nI K))] [] (modW g G F) Q → Ev (d + 4) yX5_canHave cX5_canHave (some .int) 16 [some (.ref 0), some (.int (nI w)), some (.int a), some (.int h), some (.int b), some (.int (nI k))] [] (modW g G F) Q := by
  intro n
  induction n with
  | zero =>
    intro k b R hk hR K1
    have hk : k = K := by omega
    subst hk
    have hR : b = R := hR
    subst hR
    refine Ev.iload dX5_canHave_16 rfl ?_
    refine Ev.aload_0 dX5_canHave_18 rfl ?_
    refine Ev.getf cf5 13 (by decide) wf_X5_149 dX5_canHave_19 rfl rfl ?_
    refine Ev.icmp_ge 103 dX5_canHave_22 (by decide) (fun h22 => ?_) (fun h22 => ?_)
    · exact K1
    · exact absurd (lp_le hK (by omega) (by omega)) h22
  | succ n ih =>
    intro k b R hk hR K1
    refine Ev.iload dX5_canHave_16 rfl ?_
    refine Ev.aload_0 dX5_canHave_18 rfl ?_
    refine Ev.getf cf5 13 (by decide) wf_X5_149 dX5_canHave_19 rfl rfl ?_
    refine Ev.icmp_ge 103 dX5_canHave_22 (by decide) (fun h22 => ?_) (fun h22 => ?_)
    · exact absurd h22 (lp_ge hK (by omega) (by omega))
    refine Ev.aload_0 dX5_canHave_25 rfl ?_
    refine Ev.getf cf5 6 (by decide) wf_X5_19 dX5_canHave_26 rfl rfl ?_
    refine Ev.iload_1 dX5_canHave_29 rfl ?_
    refine Ev.aldn dX5_canHave_30 rfl (by have := ok.2.2.2.1; omega) (by decide) ?_
    refine Ev.iconst (v := -1) dX5_canHave_31 (by decide) ?_
    refine Ev.icmp_eq 103 dX5_canHave_32 (by decide) (fun h32 => ?_) (fun h32 => ?_)
    · exact absurd (hh.symm.trans h32) (nI_nm1 (by have := ok.2.2.1; omega))
    refine Ev.iload dX5_canHave_35 rfl ?_
    refine Ev.if_eq 94 dX5_canHave_37 (by decide) (fun h37 => ?_) (fun h37 => ?_)
    · refine Ev.iconst (v := 0) dX5_canHave_94 (by decide) ?_
      refine Ev.ist4 dX5_canHave_95 rfl ?_
      first | refine Ev.incn5 dX5_canHave_97 rfl ?_ | refine Ev.inc5 dX5_canHave_97 rfl ?_
      refine Ev.goto 16 dX5_canHave_100 (by decide) ?_
      exact ih (k + 1) _ R (by omega) (by rw [← hR, ciF]; simp [*]) K1
    refine Ev.aload_0 dX5_canHave_40 rfl ?_
    refine Ev.getf cf5 14 (by decide) wf_X5_28 dX5_canHave_41 rfl rfl ?_
    refine Ev.iload dX5_canHave_44 rfl ?_
    refine Ev.aldn dX5_canHave_46 rfl (by omega) (by decide) ?_
    refine Ev.iload_1 dX5_canHave_47 rfl ?_
    refine Ev.icmp_ne 90 dX5_canHave_48 (by decide) (fun h48 => ?_) (fun h48 => ?_)
    · refine Ev.iconst (v := 1) dX5_canHave_90 (by decide) ?_
      refine Ev.goto 95 dX5_canHave_91 (by decide) ?_
      refine Ev.ist4 dX5_canHave_95 rfl ?_
      first | refine Ev.incn5 dX5_canHave_97 rfl ?_ | refine Ev.inc5 dX5_canHave_97 rfl ?_
      refine Ev.goto 16 dX5_canHave_100 (by decide) ?_
      exact ih (k + 1) _ R (by omega) (by rw [← hR, ciF]; simp [*]) K1
    refine Ev.aload_0 dX5_canHave_51 rfl ?_
    refine Ev.iload_1 dX5_canHave_52 rfl ?_
    refine Ev.iload_3 dX5_canHave_53 rfl ?_
    refine Ev.aload_0 dX5_canHave_54 rfl ?_
    refine Ev.getf cf5 15 (by decide) wf_X5_31 dX5_canHave_55 rfl rfl ?_
    refine Ev.iload dX5_canHave_58 rfl ?_
    refine Ev.aldn dX5_canHave_60 rfl (by omega) (by decide) ?_
    refine Ev.aload_0 dX5_canHave_61 rfl ?_
    refine Ev.getf cf5 16 (by decide) wf_X5_34 dX5_canHave_62 rfl rfl ?_
    refine Ev.iload dX5_canHave_65 rfl ?_
    refine Ev.aldn dX5_canHave_67 rfl (by omega) (by decide) ?_
    refine k_X5_liftsWith (m_liftsWith ok hw hv hh _ _ _) dX5_canHave_68 wl_X5_274 rfl (Nat.le_of_ble_eq_true rfl) ?_
    refine Ev.aload_0 dX5_canHave_71 rfl ?_
    refine Ev.getf cf5 17 (by decide) wf_X5_37 dX5_canHave_72 rfl rfl ?_
    refine Ev.iload dX5_canHave_75 rfl ?_
    refine Ev.aldn dX5_canHave_77 rfl (by omega) (by decide) ?_
    refine Ev.iconst (v := 1) dX5_canHave_78 (by decide) ?_
    refine Ev.icmp_ne 86 dX5_canHave_79 (by decide) (fun h79 => ?_) (fun h79 => ?_)
    · refine Ev.iconst (v := 0) dX5_canHave_86 (by decide) ?_
      refine Ev.icmp_ne 94 dX5_canHave_87 (by decide) (fun h87 => ?_) (fun h87 => ?_)
      · refine Ev.iconst (v := 0) dX5_canHave_94 (by decide) ?_
        refine Ev.ist4 dX5_canHave_95 rfl ?_
        first | refine Ev.incn5 dX5_canHave_97 rfl ?_ | refine Ev.inc5 dX5_canHave_97 rfl ?_
        refine Ev.goto 16 dX5_canHave_100 (by decide) ?_
        exact ih (k + 1) _ R (by omega) (by rw [← hR, ciF]; simp [*]) K1
      refine Ev.iconst (v := 1) dX5_canHave_90 (by decide) ?_
      refine Ev.goto 95 dX5_canHave_91 (by decide) ?_
      refine Ev.ist4 dX5_canHave_95 rfl ?_
      first | refine Ev.incn5 dX5_canHave_97 rfl ?_ | refine Ev.inc5 dX5_canHave_97 rfl ?_
      refine Ev.goto 16 dX5_canHave_100 (by decide) ?_
      exact ih (k + 1) _ R (by omega) (by rw [← hR, ciF]; simp [*]) K1
    refine Ev.iconst (v := 1) dX5_canHave_82 (by decide) ?_
    refine Ev.goto 87 dX5_canHave_83 (by decide) ?_
    refine Ev.icmp_ne 94 dX5_canHave_87 (by decide) (fun h87 => ?_) (fun h87 => ?_)
    · refine Ev.iconst (v := 0) dX5_canHave_94 (by decide) ?_
      refine Ev.ist4 dX5_canHave_95 rfl ?_
      first | refine Ev.incn5 dX5_canHave_97 rfl ?_ | refine Ev.inc5 dX5_canHave_97 rfl ?_
      refine Ev.goto 16 dX5_canHave_100 (by decide) ?_
      exact ih (k + 1) _ R (by omega) (by rw [← hR, ciF]; simp [*]) K1
    refine Ev.iconst (v := 1) dX5_canHave_90 (by decide) ?_
    refine Ev.goto 95 dX5_canHave_91 (by decide) ?_
    refine Ev.ist4 dX5_canHave_95 rfl ?_
    first | refine Ev.incn5 dX5_canHave_97 rfl ?_ | refine Ev.inc5 dX5_canHave_97 rfl ?_
    refine Ev.goto 16 dX5_canHave_100 (by decide) ?_
    exact ih (k + 1) _ R (by omega) (by rw [← hR, ciF]; simp [*]) K1

set_option maxHeartbeats 4000000 in
set_option maxRecDepth 100000 in
theorem m_ch_out_h {d : Nat} {g : Nat → Int32} {G : Nat → Int64} {F : Nat → Nat → Int32} {Q : Option Value → List Ce → Prop} {V N : Nat} (ok : MOK g F V N) {w : Nat} (hw : w < N) {K : Nat} (hK : g 13 = nI K) (h8 : K ≤ 8) {v : Nat} (hv : v < V) (hh : F 6 w = nI v)  : ∀ (n h : Nat) (a R : Int32) (x y : Option Value), lok [some (.ref 0), some (.int (nI w)), some (.int a), some (.int (nI h)), x, y] 4 = true → lok [some (.ref 0), some (.int (nI w)), some (.int a), some (.int (nI h)), some (.int 1), y] 5 = true → h + n = 10 → coF (fun h => ciF (vM F) F N w v (nI h) K 0 1) n h a = R → (∀ x y : Option Value, Ev (d + 4) yX5_canHave cX5_canHave (some .int) 126 [some (.ref 0), some (.int (nI w)), some (.int R), some (.int (nI 10)), x, y] [] (modW g G F) Q) → Ev (d + 4) yX5_canHave cX5_canHave (some .int) 4 [some (.ref 0), some (.int (nI w)), some (.int a), some (.int (nI h)), x, y] [] (modW g G F) Q := by
  intro n
  induction n with
  | zero =>
    intro h a R x y hx hy hk hR K1
    have hk : h = 10 := by omega
    subst hk
    have hR : a = R := hR
    subst hR
    refine Ev.iload_3 dX5_canHave_4 rfl ?_
    refine Ev.bipush (v := 9) dX5_canHave_5 (by decide) ?_
    refine Ev.icmp_gt 126 dX5_canHave_7 (by decide) (fun h7 => ?_) (fun h7 => ?_)
    · exact K1 _ _
    · exact absurd (lp_lt (x := 9) (N := 9) rfl (by omega) (by omega)) h7
  | succ n ih =>
    intro h a R x y hx hy hk hR K1
    refine Ev.iload_3 dX5_canHave_4 rfl ?_
    refine Ev.bipush (v := 9) dX5_canHave_5 (by decide) ?_
    refine Ev.icmp_gt 126 dX5_canHave_7 (by decide) (fun h7 => ?_) (fun h7 => ?_)
    · exact absurd h7 (lp_gt (x := 9) (N := 9) rfl (by omega) (by omega))
    refine Ev.iconst (v := 1) dX5_canHave_10 (by decide) ?_
    refine Ev.ist4 dX5_canHave_11 rfl ?_
    refine Ev.iconst (v := 0) dX5_canHave_13 (by decide) ?_
    refine Ev.ist5 dX5_canHave_14 rfl ?_
    refine m_ch_in ok hw hK h8 hv hh K 0 _ _ (by omega) rfl ?_
    refine Ev.iload_2 dX5_canHave_103 rfl ?_
    refine Ev.iload dX5_canHave_104 rfl ?_
    refine Ev.if_eq 117 dX5_canHave_106 (by decide) (fun h106 => ?_) (fun h106 => ?_)
    · refine Ev.iconst (v := 0) dX5_canHave_117 (by decide) ?_
      refine Ev.ior dX5_canHave_118 ?_
      refine Ev.ist2 dX5_canHave_119 rfl ?_
      first | refine Ev.incn3 dX5_canHave_120 rfl ?_ | refine Ev.inc3 dX5_canHave_120 rfl ?_
      refine Ev.goto 4 dX5_canHave_123 (by decide) ?_
      exact ih (h + 1) _ R _ _ rfl rfl (by omega) (by rw [← hR, coF]; simp [*]) K1
    refine Ev.iconst (v := 1) dX5_canHave_109 (by decide) ?_
    refine Ev.iload_3 dX5_canHave_110 rfl ?_
    refine Ev.iconst (v := 1) dX5_canHave_111 (by decide) ?_
    refine Ev.isub dX5_canHave_112 ?_
    refine Ev.ishl dX5_canHave_113 ?_
    refine Ev.goto 118 dX5_canHave_114 (by decide) ?_
    refine Ev.ior dX5_canHave_118 ?_
    refine Ev.ist2 dX5_canHave_119 rfl ?_
    first | refine Ev.incn3 dX5_canHave_120 rfl ?_ | refine Ev.inc3 dX5_canHave_120 rfl ?_
    refine Ev.goto 4 dX5_canHave_123 (by decide) ?_
    exact ih (h + 1) _ R _ _ rfl rfl (by omega) (by rw [← hR, coF]; simp [*]) K1

set_option maxHeartbeats 4000000 in
set_option maxRecDepth 100000 in
theorem m_ch_out_n {d : Nat} {g : Nat → Int32} {G : Nat → Int64} {F : Nat → Nat → Int32} {Q : Option Value → List Ce → Prop} {V N : Nat} (ok : MOK g F V N) {w : Nat} (hw : w < N) {K : Nat} (hK : g 13 = nI K) (h8 : K ≤ 8) (hh : F 6 w = -1)  : ∀ (n h : Nat) (a R : Int32) (x y : Option Value), lok [some (.ref 0), some (.int (nI w)), some (.int a), some (.int (nI h)), x, y] 4 = true → lok [some (.ref 0), some (.int (nI w)), some (.int a), some (.int (nI h)), some (.int 1), y] 5 = true → h + n = 10 → coF (fun _ => 1) n h a = R → (∀ x y : Option Value, Ev (d + 4) yX5_canHave cX5_canHave (some .int) 126 [some (.ref 0), some (.int (nI w)), some (.int R), some (.int (nI 10)), x, y] [] (modW g G F) Q) → Ev (d + 4) yX5_canHave cX5_canHave (some .int) 4 [some (.ref 0), some (.int (nI w)), some (.int a), some (.int (nI h)), x, y] [] (modW g G F) Q := by
  intro n
  induction n with
  | zero =>
    intro h a R x y hx hy hk hR K1
    have hk : h = 10 := by omega
    subst hk
    have hR : a = R := hR
    subst hR
    refine Ev.iload_3 dX5_canHave_4 rfl ?_
    refine Ev.bipush (v := 9) dX5_canHave_5 (by decide) ?_
    refine Ev.icmp_gt 126 dX5_canHave_7 (by decide) (fun h7 => ?_) (fun h7 => ?_)
    · exact K1 _ _
    · exact absurd (lp_lt (x := 9) (N := 9) rfl (by omega) (by omega)) h7
  | succ n ih =>
    intro h a R x y hx hy hk hR K1
    refine Ev.iload_3 dX5_canHave_4 rfl ?_
    refine Ev.bipush (v := 9) dX5_canHave_5 (by decide) ?_
    refine Ev.icmp_gt 126 dX5_canHave_7 (by decide) (fun h7 => ?_) (fun h7 => ?_)
    · exact absurd h7 (lp_gt (x := 9) (N := 9) rfl (by omega) (by omega))
    refine Ev.iconst (v := 1) dX5_canHave_10 (by decide) ?_
    refine Ev.ist4 dX5_canHave_11 rfl ?_
    refine Ev.iconst (v := 0) dX5_canHave_13 (by decide) ?_
    refine Ev.ist5 dX5_canHave_14 rfl ?_
    refine Ev.iload dX5_canHave_16 rfl ?_
    refine Ev.aload_0 dX5_canHave_18 rfl ?_
    refine Ev.getf cf5 13 (by decide) wf_X5_149 dX5_canHave_19 rfl rfl ?_
    refine Ev.icmp_ge 103 dX5_canHave_22 (by decide) (fun h22 => ?_) (fun h22 => ?_)
    · refine Ev.iload_2 dX5_canHave_103 rfl ?_
      refine Ev.iload dX5_canHave_104 rfl ?_
      refine Ev.if_eq 117 dX5_canHave_106 (by decide) (fun hcst => ?_) (fun hcst => ?_)
      · exact absurd hcst (by decide)
      refine Ev.iconst (v := 1) dX5_canHave_109 (by decide) ?_
      refine Ev.iload_3 dX5_canHave_110 rfl ?_
      refine Ev.iconst (v := 1) dX5_canHave_111 (by decide) ?_
      refine Ev.isub dX5_canHave_112 ?_
      refine Ev.ishl dX5_canHave_113 ?_
      refine Ev.goto 118 dX5_canHave_114 (by decide) ?_
      refine Ev.ior dX5_canHave_118 ?_
      refine Ev.ist2 dX5_canHave_119 rfl ?_
      first | refine Ev.incn3 dX5_canHave_120 rfl ?_ | refine Ev.inc3 dX5_canHave_120 rfl ?_
      refine Ev.goto 4 dX5_canHave_123 (by decide) ?_
      exact ih (h + 1) _ R _ _ rfl rfl (by omega) (by rw [← hR, coF]; simp) K1
    refine Ev.aload_0 dX5_canHave_25 rfl ?_
    refine Ev.getf cf5 6 (by decide) wf_X5_19 dX5_canHave_26 rfl rfl ?_
    refine Ev.iload_1 dX5_canHave_29 rfl ?_
    refine Ev.aldn dX5_canHave_30 rfl (by have := ok.2.2.2.1; omega) (by decide) ?_
    refine Ev.iconst (v := -1) dX5_canHave_31 (by decide) ?_
    refine Ev.icmp_eq 103 dX5_canHave_32 (by decide) (fun h32 => ?_) (fun h32 => ?_)
    · refine Ev.iload_2 dX5_canHave_103 rfl ?_
      refine Ev.iload dX5_canHave_104 rfl ?_
      refine Ev.if_eq 117 dX5_canHave_106 (by decide) (fun hcst => ?_) (fun hcst => ?_)
      · exact absurd hcst (by decide)
      refine Ev.iconst (v := 1) dX5_canHave_109 (by decide) ?_
      refine Ev.iload_3 dX5_canHave_110 rfl ?_
      refine Ev.iconst (v := 1) dX5_canHave_111 (by decide) ?_
      refine Ev.isub dX5_canHave_112 ?_
      refine Ev.ishl dX5_canHave_113 ?_
      refine Ev.goto 118 dX5_canHave_114 (by decide) ?_
      refine Ev.ior dX5_canHave_118 ?_
      refine Ev.ist2 dX5_canHave_119 rfl ?_
      first | refine Ev.incn3 dX5_canHave_120 rfl ?_ | refine Ev.inc3 dX5_canHave_120 rfl ?_
      refine Ev.goto 4 dX5_canHave_123 (by decide) ?_
      exact ih (h + 1) _ R _ _ rfl rfl (by omega) (by rw [← hR, coF]; simp) K1
    · exact absurd hh h32

theorem mch_h {F : Nat → Nat → Int32} {N K w v : Nat} (hh : F 6 w = nI v) (hv : v ≤ 1000) : mch F N K w = coF (fun h => ciF (vM F) F N w v (nI h) K 0 1) 9 1 0 := by
  unfold mch
  have e : (fun h => if F 6 w = -1 then 1 else ciF (vM F) F N w (F 6 w).toNatClampNeg (nI h) K 0 1) = fun h => ciF (vM F) F N w v (nI h) K 0 1 := by
    funext h
    rw [if_neg (by rw [hh]; exact nI_nm1 (by omega)), hh, nI_clamp (by omega)]
  rw [e]
theorem mch_n {F : Nat → Nat → Int32} {N K w : Nat} (hh : F 6 w = -1) : mch F N K w = coF (fun _ => 1) 9 1 0 := by
  unfold mch
  have e : (fun h => if F 6 w = -1 then 1 else ciF (vM F) F N w (F 6 w).toNatClampNeg (nI h) K 0 1) = fun _ => 1 := by
    funext h
    rw [if_pos hh]
  rw [e]

set_option maxHeartbeats 4000000 in
set_option maxRecDepth 100000 in
theorem m_canHave {d : Nat} {g : Nat → Int32} {G : Nat → Int64} {F : Nat → Nat → Int32} {V N : Nat} (ok : MOK g F V N) {w : Nat} (hw : w < N) {K : Nat} (hK : g 13 = nI K) (h8 : K ≤ 8)  : Ev (d + 4) yX5_canHave cX5_canHave (some .int) 0 [some (.ref 0), some (.int (nI w)), none, none, none, none] [] (modW g G F) (Is (some (.int (mch F N K w))) (modW g G F)) := by
  refine Ev.iconst (v := 0) dX5_canHave_0 (by decide) ?_
  refine Ev.ist2 dX5_canHave_1 rfl ?_
  refine Ev.iconst (v := 1) dX5_canHave_2 (by decide) ?_
  refine Ev.ist3 dX5_canHave_3 rfl ?_
  rcases ok.2.2.2.2 w hw with hh | ⟨v, hv, hh⟩
  · rw [mch_n hh]
    exact m_ch_out_n ok hw hK h8 hh 9 1 _ _ _ _ rfl rfl (by omega) rfl (fun x y => Ev.iload_2 dX5_canHave_126 rfl (Ev.iret dX5_canHave_127 ⟨rfl, rfl⟩))
  · rw [mch_h hh (by have := ok.2.2.1; omega)]
    exact m_ch_out_h ok hw hK h8 hv hh 9 1 _ _ _ _ rfl rfl (by omega) rfl (fun x y => Ev.iload_2 dX5_canHave_126 rfl (Ev.iret dX5_canHave_127 ⟨rfl, rfl⟩))

set_option maxHeartbeats 4000000 in
set_option maxRecDepth 100000 in
theorem m_wb_loop {d : Nat} {g : Nat → Int32} {G : Nat → Int64} {F : Nat → Nat → Int32} {Q : Option Value → List Ce → Prop} {V N : Nat} (ok : MOK g F V N) {w : Nat} (hw : w < N) {v : Nat} (hv : v < V) (hh : F 6 w = nI v) {bits side force : Int32}  : ∀ (n : Nat) (h : Nat) (c R : Int32), h + n = 10 → wyF (vM F) N w v bits side force n h c = R → Ev (d + 4) yX5_worstBy cX5_worstBy (some .int) 53 [some (.ref 0), some (.int (nI w)), some (.int bits), some (.int side), some (.int force), some (.int R), some (.int (nI 10))] [] (modW g G F) Q → Ev (d + 4) yX5_worstBy cX5_worstBy (some .int) 6 [some (.ref 0), some (.int (nI w)), some (.int bits), some (.int side), some (.int force), some (.int c), some (.int (nI h))] [] (modW g G F) Q := by
  intro n
  induction n with
  | zero =>
    intro h c R hk hR K
    have hk : h = 10 := by omega
    subst hk
    have hR : c = R := hR
    subst hR
    refine Ev.iload dX5_worstBy_6 rfl ?_
    refine Ev.bipush (v := 9) dX5_worstBy_8 (by decide) ?_
    refine Ev.icmp_gt 53 dX5_worstBy_10 (by decide) (fun h10 => ?_) (fun h10 => ?_)
    · exact K
    · exact absurd (lp_lt (x := 9) (N := 9) rfl (by omega) (by omega)) h10
  | succ n ih =>
    intro h c R hk hR K
    refine Ev.iload dX5_worstBy_6 rfl ?_
    refine Ev.bipush (v := 9) dX5_worstBy_8 (by decide) ?_
    refine Ev.icmp_gt 53 dX5_worstBy_10 (by decide) (fun h10 => ?_) (fun h10 => ?_)
    · exact absurd h10 (lp_gt (x := 9) (N := 9) rfl (by omega) (by omega))
    refine Ev.iload dX5_worstBy_13 rfl ?_
    refine Ev.iload_2 dX5_worstBy_15 rfl ?_
    refine Ev.iload dX5_worstBy_16 rfl ?_
    refine Ev.iconst (v := 1) dX5_worstBy_18 (by decide) ?_
    refine Ev.isub dX5_worstBy_19 ?_
    refine k_X5_isIn (m_isIn _ _) dX5_worstBy_20 wl_X5_172 (Nat.le_of_ble_eq_true rfl) ?_
    refine Ev.if_eq 43 dX5_worstBy_23 (by decide) (fun h23 => ?_) (fun h23 => ?_)
    · refine Ev.iconst (v := 0) dX5_worstBy_43 (by decide) ?_
      refine Ev.iadd dX5_worstBy_44 ?_
      refine Ev.ist5 dX5_worstBy_45 rfl ?_
      first | refine Ev.incn6 dX5_worstBy_47 rfl ?_ | refine Ev.inc6 dX5_worstBy_47 rfl ?_
      refine Ev.goto 6 dX5_worstBy_50 (by decide) ?_
      exact ih (h + 1) _ R (by omega) (by rw [← hR, wyF]; simp [*]) K
    refine Ev.aload_0 dX5_worstBy_26 rfl ?_
    refine Ev.iload_1 dX5_worstBy_27 rfl ?_
    refine Ev.iload dX5_worstBy_28 rfl ?_
    refine Ev.iload_3 dX5_worstBy_30 rfl ?_
    refine Ev.iload dX5_worstBy_31 rfl ?_
    refine k_X5_liftsWith (m_liftsWith ok hw hv hh _ _ _) dX5_worstBy_33 wl_X5_274 rfl (Nat.le_of_ble_eq_true rfl) ?_
    refine Ev.if_eq 43 dX5_worstBy_36 (by decide) (fun h36 => ?_) (fun h36 => ?_)
    · refine Ev.iconst (v := 0) dX5_worstBy_43 (by decide) ?_
      refine Ev.iadd dX5_worstBy_44 ?_
      refine Ev.ist5 dX5_worstBy_45 rfl ?_
      first | refine Ev.incn6 dX5_worstBy_47 rfl ?_ | refine Ev.inc6 dX5_worstBy_47 rfl ?_
      refine Ev.goto 6 dX5_worstBy_50 (by decide) ?_
      exact ih (h + 1) _ R (by omega) (by rw [← hR, wyF]; simp [*]) K
    refine Ev.iconst (v := 1) dX5_worstBy_39 (by decide) ?_
    refine Ev.goto 44 dX5_worstBy_40 (by decide) ?_
    refine Ev.iadd dX5_worstBy_44 ?_
    refine Ev.ist5 dX5_worstBy_45 rfl ?_
    first | refine Ev.incn6 dX5_worstBy_47 rfl ?_ | refine Ev.inc6 dX5_worstBy_47 rfl ?_
    refine Ev.goto 6 dX5_worstBy_50 (by decide) ?_
    exact ih (h + 1) _ R (by omega) (by rw [← hR, wyF]; simp [*]) K

set_option maxHeartbeats 4000000 in
set_option maxRecDepth 100000 in
theorem m_worstBy {d : Nat} {g : Nat → Int32} {G : Nat → Int64} {F : Nat → Nat → Int32} {V N : Nat} (ok : MOK g F V N) {w : Nat} (hw : w < N) {v : Nat} (hv : v < V) (hh : F 6 w = nI v) (bits side force : Int32) : Ev (d + 4) yX5_worstBy cX5_worstBy (some .int) 0 [some (.ref 0), some (.int (nI w)), some (.int bits), some (.int side), some (.int force), none, none] [] (modW g G F) (Is (some (.int (mwb (vM F) N w v bits side force))) (modW g G F)) := by
  refine Ev.iconst (v := 0) dX5_worstBy_0 (by decide) ?_
  refine Ev.ist5 dX5_worstBy_1 rfl ?_
  refine Ev.iconst (v := 1) dX5_worstBy_3 (by decide) ?_
  refine Ev.ist6 dX5_worstBy_4 rfl ?_
  refine m_wb_loop ok hw hv hh 9 1 _ _ (by omega) rfl ?_
  refine Ev.iload_2 dX5_worstBy_53 rfl ?_
  refine k_X5_size (m_size _) dX5_worstBy_54 wl_X5_218 (Nat.le_of_ble_eq_true rfl) ?_
  refine Ev.iload dX5_worstBy_57 rfl ?_
  refine Ev.isub dX5_worstBy_59 ?_
  refine Ev.ist6 dX5_worstBy_60 rfl ?_
  refine Ev.iload dX5_worstBy_62 rfl ?_
  refine Ev.iload dX5_worstBy_64 rfl ?_
  refine Ev.icmp_le 74 dX5_worstBy_66 (by decide) (fun h66 => ?_) (fun h66 => ?_)
  · rw [show mwb _ _ _ _ _ _ _ = _ from if_pos h66]
    refine Ev.iload dX5_worstBy_74 rfl ?_
    refine Ev.iret dX5_worstBy_76 ?_
    exact ⟨rfl, rfl⟩
  rw [show mwb _ _ _ _ _ _ _ = _ from if_neg h66]
  refine Ev.iload dX5_worstBy_69 rfl ?_
  refine Ev.goto 76 dX5_worstBy_71 (by decide) ?_
  refine Ev.iret dX5_worstBy_76 ?_
  exact ⟨rfl, rfl⟩

set_option maxHeartbeats 4000000 in
set_option maxRecDepth 100000 in
theorem m_wf_loop {d : Nat} {g : Nat → Int32} {G : Nat → Int64} {F : Nat → Nat → Int32} {V N : Nat} (ok : MOK g F V N) {w : Nat} (hw : w < N) {v : Nat} (hv : v < V) (hh : F 6 w = nI v) {bits : Int32} (hb : ¬ bits = 0) : ∀ (n k : Nat) (b l R : Int32) (x : Option Value), lok [some (.ref 0), some (.int (nI w)), some (.int bits), some (.int b), some (.int l), some (.int (nI k)), x] 6 = true → k + n = 200 → wfF (fun k => mwb (vM F) N w v bits (nI (k / 100)) (nI (k % 100))) n k b l = R → Ev (d + 5) yX5_waitFor cX5_waitFor (some .int) 15 [some (.ref 0), some (.int (nI w)), some (.int bits), some (.int b), some (.int l), some (.int (nI k)), x] [] (modW g G F) (Is (some (.int (R))) (modW g G F)) := by
  intro n
  induction n with
  | zero =>
    intro k b l R x hx hk hR
    refine Ev.iload dX5_waitFor_15 rfl ?_
    refine Ev.sipush (v := 200) dX5_waitFor_17 (by decide) ?_
    refine Ev.icmp_ge 91 dX5_waitFor_20 (by decide) (fun h20 => ?_) (fun h20 => ?_)
    · refine Ev.iload_3 dX5_waitFor_91 rfl ?_
      refine Ev.iret dX5_waitFor_92 ?_
      exact ⟨by rw [← hR]; rfl, rfl⟩
    · exact absurd (lp_le (x := 200) (N := 200) rfl (by omega) (by omega)) h20
  | succ n ih =>
    intro k b l R x hx hk hR
    refine Ev.iload dX5_waitFor_15 rfl ?_
    refine Ev.sipush (v := 200) dX5_waitFor_17 (by decide) ?_
    refine Ev.icmp_ge 91 dX5_waitFor_20 (by decide) (fun h20 => ?_) (fun h20 => ?_)
    · exact absurd h20 (lp_ge (x := 200) (N := 200) rfl (by omega) (by omega))
    refine Ev.iload_2 dX5_waitFor_23 rfl ?_
    refine Ev.if_eq 91 dX5_waitFor_24 (by decide) (fun h24 => ?_) (fun h24 => ?_)
    · exact absurd h24 hb
    refine Ev.aload_0 dX5_waitFor_27 rfl ?_
    refine Ev.getf cf5 6 (by decide) wf_X5_19 dX5_waitFor_28 rfl rfl ?_
    refine Ev.iload_1 dX5_waitFor_31 rfl ?_
    refine Ev.aldn dX5_waitFor_32 rfl (by have := ok.2.2.2.1; omega) (by decide) ?_
    refine Ev.iconst (v := -1) dX5_waitFor_33 (by decide) ?_
    refine Ev.icmp_eq 91 dX5_waitFor_34 (by decide) (fun h34 => ?_) (fun h34 => ?_)
    · exact absurd (hh.symm.trans h34) (nI_nm1 (by have := ok.2.2.1; omega))
    refine Ev.aload_0 dX5_waitFor_37 rfl ?_
    refine Ev.iload_1 dX5_waitFor_38 rfl ?_
    refine Ev.iload_2 dX5_waitFor_39 rfl ?_
    refine Ev.iload dX5_waitFor_40 rfl ?_
    refine Ev.bipush (v := 100) dX5_waitFor_42 (by decide) ?_
    refine Ev.idiv dX5_waitFor_44 (by decide) ?_
    refine Ev.iload dX5_waitFor_45 rfl ?_
    refine Ev.bipush (v := 100) dX5_waitFor_47 (by decide) ?_
    refine Ev.irem dX5_waitFor_49 (by decide) ?_
    rw [show nI k - nI k / 100 * 100 = nI (k % 100) from pk_rem (d := 100) (by omega) (by decide) (by decide), show nI k / 100 = nI (k / 100) from pk_div (d := 100) (by omega) (by decide) (by decide)]
    refine k_X5_worstBy (m_worstBy ok hw hv hh _ _ _) dX5_waitFor_50 wl_X5_278 rfl (Nat.le_of_ble_eq_true rfl) ?_
    refine Ev.ist6 dX5_waitFor_53 rfl ?_
    refine Ev.iload dX5_waitFor_55 rfl ?_
    refine Ev.iload dX5_waitFor_57 rfl ?_
    refine Ev.icmp_ge 67 dX5_waitFor_59 (by decide) (fun h59 => ?_) (fun h59 => ?_)
    · refine Ev.iload_3 dX5_waitFor_67 rfl ?_
      refine Ev.ist3 dX5_waitFor_68 rfl ?_
      refine Ev.iload dX5_waitFor_69 rfl ?_
      refine Ev.iload dX5_waitFor_71 rfl ?_
      refine Ev.icmp_ge 81 dX5_waitFor_73 (by decide) (fun h73 => ?_) (fun h73 => ?_)
      · refine Ev.iload dX5_waitFor_81 rfl ?_
        refine Ev.ist4 dX5_waitFor_83 rfl ?_
        first | refine Ev.incn5 dX5_waitFor_85 rfl ?_ | refine Ev.inc5 dX5_waitFor_85 rfl ?_
        refine Ev.goto 15 dX5_waitFor_88 (by decide) ?_
        exact ih (k + 1) _ _ R _ rfl (by omega) (by first | exact absurd h59 h73 | exact absurd h73 h59 | (rw [← hR, wfF]; simp [*]))
      refine Ev.iload dX5_waitFor_76 rfl ?_
      refine Ev.goto 83 dX5_waitFor_78 (by decide) ?_
      refine Ev.ist4 dX5_waitFor_83 rfl ?_
      first | refine Ev.incn5 dX5_waitFor_85 rfl ?_ | refine Ev.inc5 dX5_waitFor_85 rfl ?_
      refine Ev.goto 15 dX5_waitFor_88 (by decide) ?_
      exact ih (k + 1) _ _ R _ rfl (by omega) (by first | exact absurd h59 h73 | exact absurd h73 h59 | (rw [← hR, wfF]; simp [*]))
    refine Ev.iload dX5_waitFor_62 rfl ?_
    refine Ev.goto 68 dX5_waitFor_64 (by decide) ?_
    refine Ev.ist3 dX5_waitFor_68 rfl ?_
    refine Ev.iload dX5_waitFor_69 rfl ?_
    refine Ev.iload dX5_waitFor_71 rfl ?_
    refine Ev.icmp_ge 81 dX5_waitFor_73 (by decide) (fun h73 => ?_) (fun h73 => ?_)
    · refine Ev.iload dX5_waitFor_81 rfl ?_
      refine Ev.ist4 dX5_waitFor_83 rfl ?_
      first | refine Ev.incn5 dX5_waitFor_85 rfl ?_ | refine Ev.inc5 dX5_waitFor_85 rfl ?_
      refine Ev.goto 15 dX5_waitFor_88 (by decide) ?_
      exact ih (k + 1) _ _ R _ rfl (by omega) (by first | exact absurd h59 h73 | exact absurd h73 h59 | (rw [← hR, wfF]; simp [*]))
    refine Ev.iload dX5_waitFor_76 rfl ?_
    refine Ev.goto 83 dX5_waitFor_78 (by decide) ?_
    refine Ev.ist4 dX5_waitFor_83 rfl ?_
    first | refine Ev.incn5 dX5_waitFor_85 rfl ?_ | refine Ev.inc5 dX5_waitFor_85 rfl ?_
    refine Ev.goto 15 dX5_waitFor_88 (by decide) ?_
    exact ih (k + 1) _ _ R _ rfl (by omega) (by first | exact absurd h59 h73 | exact absurd h73 h59 | (rw [← hR, wfF]; simp [*]))

set_option maxHeartbeats 4000000 in
set_option maxRecDepth 100000 in
theorem m_waitFor {d : Nat} {g : Nat → Int32} {G : Nat → Int64} {F : Nat → Nat → Int32} {V N : Nat} (ok : MOK g F V N) {w : Nat} (hw : w < N) {K : Nat} (hK : g 13 = nI K) (h8 : K ≤ 8)  : Ev (d + 5) yX5_waitFor cX5_waitFor (some .int) 0 [some (.ref 0), some (.int (nI w)), none, none, none, none, none] [] (modW g G F) (Is (some (.int (mwf F N K w))) (modW g G F)) := by
  refine Ev.aload_0 dX5_waitFor_0 rfl ?_
  refine Ev.iload_1 dX5_waitFor_1 rfl ?_
  refine k_X5_canHave (m_canHave ok hw hK h8) dX5_waitFor_2 wl_X5_176 rfl (Nat.le_of_ble_eq_true rfl) ?_
  refine Ev.ist2 dX5_waitFor_5 rfl ?_
  refine Ev.iconst (v := -1) dX5_waitFor_6 (by decide) ?_
  refine Ev.ist3 dX5_waitFor_7 rfl ?_
  refine Ev.ldc wk_X5_168 dX5_waitFor_8 ?_
  refine Ev.ist4 dX5_waitFor_10 rfl ?_
  refine Ev.iconst (v := 0) dX5_waitFor_12 (by decide) ?_
  refine Ev.ist5 dX5_waitFor_13 rfl ?_
  by_cases hb : mch F N K w = 0
  · rw [show mwf F N K w = -1 from if_pos (Or.inl hb)]
    refine Ev.iload dX5_waitFor_15 rfl ?_
    refine Ev.sipush (v := 200) dX5_waitFor_17 (by decide) ?_
    refine Ev.icmp_ge 91 dX5_waitFor_20 (by decide) (fun h20 => ?_) (fun h20 => ?_)
    · exact absurd h20 (by decide)
    refine Ev.iload_2 dX5_waitFor_23 rfl ?_
    refine Ev.if_eq 91 dX5_waitFor_24 (by decide) (fun h24 => ?_) (fun h24 => ?_)
    · refine Ev.iload_3 dX5_waitFor_91 rfl ?_
      refine Ev.iret dX5_waitFor_92 ?_
      exact ⟨rfl, rfl⟩
    · exact absurd hb h24
  rcases ok.2.2.2.2 w hw with hh | ⟨v, hv, hh⟩
  · rw [show mwf F N K w = -1 from if_pos (Or.inr hh)]
    refine Ev.iload dX5_waitFor_15 rfl ?_
    refine Ev.sipush (v := 200) dX5_waitFor_17 (by decide) ?_
    refine Ev.icmp_ge 91 dX5_waitFor_20 (by decide) (fun h20 => ?_) (fun h20 => ?_)
    · exact absurd h20 (by decide)
    refine Ev.iload_2 dX5_waitFor_23 rfl ?_
    refine Ev.if_eq 91 dX5_waitFor_24 (by decide) (fun h24 => ?_) (fun h24 => ?_)
    · exact absurd h24 hb
    refine Ev.aload_0 dX5_waitFor_27 rfl ?_
    refine Ev.getf cf5 6 (by decide) wf_X5_19 dX5_waitFor_28 rfl rfl ?_
    refine Ev.iload_1 dX5_waitFor_31 rfl ?_
    refine Ev.aldn dX5_waitFor_32 rfl (by have := ok.2.2.2.1; omega) (by decide) ?_
    refine Ev.iconst (v := -1) dX5_waitFor_33 (by decide) ?_
    refine Ev.icmp_eq 91 dX5_waitFor_34 (by decide) (fun h34 => ?_) (fun h34 => ?_)
    · refine Ev.iload_3 dX5_waitFor_91 rfl ?_
      refine Ev.iret dX5_waitFor_92 ?_
      exact ⟨rfl, rfl⟩
    · exact absurd hh h34
  have e : mwf F N K w = wfF (fun k => mwb (vM F) N w v (mch F N K w) (nI (k / 100)) (nI (k % 100))) 200 0 (-1) 268435456 := by
    have hn : ¬ (mch F N K w = 0 ∨ F 6 w = -1) := fun q => q.elim hb (fun q => nI_nm1 (k := v) (by have := ok.2.2.1; omega) (hh.symm.trans q))
    rw [show mwf F N K w = _ from if_neg hn, hh, nI_clamp (by have := ok.2.2.1; omega)]
  rw [e]
  exact m_wf_loop ok hw hv hh hb 200 0 _ _ _ _ rfl (by omega) rfl

set_option maxHeartbeats 4000000 in
set_option maxRecDepth 100000 in
theorem m_weightNow_0 {d : Nat} {g : Nat → Int32} {G : Nat → Int64} {F : Nat → Nat → Int32} {V N : Nat} (ok : MOK g F V N) {K : Nat} (hK : g 13 = nI K) (h8 : K ≤ 8) {w : Nat} (hw : w < N)  : Ev (d + 6) yX5_weightNow cX5_weightNow (some .int) 0 [some (.ref 0), some (.int (nI w)), some (.int 0)] [] (modW g G F) (Is (some (.int (F 4 w))) (modW g G F)) := by
  refine Ev.iload_2 dX5_weightNow_0 rfl ?_
  refine Ev.tableIn 44 dX5_weightNow_1 (by decide) (by decide) rfl (by decide) ?_
  refine Ev.aload_0 dX5_weightNow_44 rfl ?_
  refine Ev.getf cf5 4 (by decide) wf_X5_13 dX5_weightNow_45 rfl rfl ?_
  refine Ev.iload_1 dX5_weightNow_48 rfl ?_
  refine Ev.aldn dX5_weightNow_49 rfl (by have := ok.2.2.2.1; omega) (by decide) ?_
  refine Ev.iret dX5_weightNow_50 ?_
  exact ⟨rfl, rfl⟩

set_option maxHeartbeats 4000000 in
set_option maxRecDepth 100000 in
theorem m_weightNow_1 {d : Nat} {g : Nat → Int32} {G : Nat → Int64} {F : Nat → Nat → Int32} {V N : Nat} (ok : MOK g F V N) {K : Nat} (hK : g 13 = nI K) (h8 : K ≤ 8) {w : Nat} (hw : w < N)  : Ev (d + 6) yX5_weightNow cX5_weightNow (some .int) 0 [some (.ref 0), some (.int (nI w)), some (.int 1)] [] (modW g G F) (Is (some (.int (F 5 w))) (modW g G F)) := by
  refine Ev.iload_2 dX5_weightNow_0 rfl ?_
  refine Ev.tableIn 51 dX5_weightNow_1 (by decide) (by decide) rfl (by decide) ?_
  refine Ev.aload_0 dX5_weightNow_51 rfl ?_
  refine Ev.getf cf5 5 (by decide) wf_X5_16 dX5_weightNow_52 rfl rfl ?_
  refine Ev.iload_1 dX5_weightNow_55 rfl ?_
  refine Ev.aldn dX5_weightNow_56 rfl (by have := ok.2.2.2.1; omega) (by decide) ?_
  refine Ev.iret dX5_weightNow_57 ?_
  exact ⟨rfl, rfl⟩

set_option maxHeartbeats 4000000 in
set_option maxRecDepth 100000 in
theorem m_weightNow_2 {d : Nat} {g : Nat → Int32} {G : Nat → Int64} {F : Nat → Nat → Int32} {V N : Nat} (ok : MOK g F V N) {K : Nat} (hK : g 13 = nI K) (h8 : K ≤ 8) {w : Nat} (hw : w < N)  : Ev (d + 6) yX5_weightNow cX5_weightNow (some .int) 0 [some (.ref 0), some (.int (nI w)), some (.int 2)] [] (modW g G F) (Is (some (.int (F 6 w))) (modW g G F)) := by
  refine Ev.iload_2 dX5_weightNow_0 rfl ?_
  refine Ev.tableIn 58 dX5_weightNow_1 (by decide) (by decide) rfl (by decide) ?_
  refine Ev.aload_0 dX5_weightNow_58 rfl ?_
  refine Ev.getf cf5 6 (by decide) wf_X5_19 dX5_weightNow_59 rfl rfl ?_
  refine Ev.iload_1 dX5_weightNow_62 rfl ?_
  refine Ev.aldn dX5_weightNow_63 rfl (by have := ok.2.2.2.1; omega) (by decide) ?_
  refine Ev.iret dX5_weightNow_64 ?_
  exact ⟨rfl, rfl⟩

set_option maxHeartbeats 4000000 in
set_option maxRecDepth 100000 in
theorem m_weightNow_3 {d : Nat} {g : Nat → Int32} {G : Nat → Int64} {F : Nat → Nat → Int32} {V N : Nat} (ok : MOK g F V N) {K : Nat} (hK : g 13 = nI K) (h8 : K ≤ 8) {w : Nat} (hw : w < N)  : Ev (d + 6) yX5_weightNow cX5_weightNow (some .int) 0 [some (.ref 0), some (.int (nI w)), some (.int 3)] [] (modW g G F) (Is (some (.int (F 7 w))) (modW g G F)) := by
  refine Ev.iload_2 dX5_weightNow_0 rfl ?_
  refine Ev.tableIn 65 dX5_weightNow_1 (by decide) (by decide) rfl (by decide) ?_
  refine Ev.aload_0 dX5_weightNow_65 rfl ?_
  refine Ev.getf cf5 7 (by decide) wf_X5_22 dX5_weightNow_66 rfl rfl ?_
  refine Ev.iload_1 dX5_weightNow_69 rfl ?_
  refine Ev.aldn dX5_weightNow_70 rfl (by have := ok.2.2.2.1; omega) (by decide) ?_
  refine Ev.iret dX5_weightNow_71 ?_
  exact ⟨rfl, rfl⟩

set_option maxHeartbeats 4000000 in
set_option maxRecDepth 100000 in
theorem m_weightNow_4 {d : Nat} {g : Nat → Int32} {G : Nat → Int64} {F : Nat → Nat → Int32} {V N : Nat} (ok : MOK g F V N) {K : Nat} (hK : g 13 = nI K) (h8 : K ≤ 8) {w : Nat} (hw : w < N)  : Ev (d + 6) yX5_weightNow cX5_weightNow (some .int) 0 [some (.ref 0), some (.int (nI w)), some (.int 4)] [] (modW g G F) (Is (some (.int (bear (F 4 w) (F 5 w) (F 8 w)))) (modW g G F)) := by
  refine Ev.iload_2 dX5_weightNow_0 rfl ?_
  refine Ev.tableIn 72 dX5_weightNow_1 (by decide) (by decide) rfl (by decide) ?_
  refine Ev.aload_0 dX5_weightNow_72 rfl ?_
  refine Ev.iload_1 dX5_weightNow_73 rfl ?_
  refine k_X5_bears (m_bears (by have := ok.2.2.2.1; omega)) dX5_weightNow_74 wl_X5_152 rfl (Nat.le_of_ble_eq_true rfl) ?_
  refine Ev.iret dX5_weightNow_77 ?_
  exact ⟨rfl, rfl⟩

set_option maxHeartbeats 4000000 in
set_option maxRecDepth 100000 in
theorem m_weightNow_5 {d : Nat} {g : Nat → Int32} {G : Nat → Int64} {F : Nat → Nat → Int32} {V N : Nat} (ok : MOK g F V N) {K : Nat} (hK : g 13 = nI K) (h8 : K ≤ 8) {w : Nat} (hw : w < N)  : Ev (d + 6) yX5_weightNow cX5_weightNow (some .int) 0 [some (.ref 0), some (.int (nI w)), some (.int 5)] [] (modW g G F) (Is (some (.int (if F 4 w = 3 then F 8 w else 0))) (modW g G F)) := by
  refine Ev.iload_2 dX5_weightNow_0 rfl ?_
  refine Ev.tableIn 78 dX5_weightNow_1 (by decide) (by decide) rfl (by decide) ?_
  refine Ev.aload_0 dX5_weightNow_78 rfl ?_
  refine Ev.getf cf5 4 (by decide) wf_X5_13 dX5_weightNow_79 rfl rfl ?_
  refine Ev.iload_1 dX5_weightNow_82 rfl ?_
  refine Ev.aldn dX5_weightNow_83 rfl (by have := ok.2.2.2.1; omega) (by decide) ?_
  refine Ev.iconst (v := 3) dX5_weightNow_84 (by decide) ?_
  refine Ev.icmp_ne 97 dX5_weightNow_85 (by decide) (fun h85 => ?_) (fun h85 => ?_)
  · refine Ev.iconst (v := 0) dX5_weightNow_97 (by decide) ?_
    refine Ev.iret dX5_weightNow_98 ?_
    exact ⟨by simp [*], rfl⟩
  refine Ev.aload_0 dX5_weightNow_88 rfl ?_
  refine Ev.getf cf5 8 (by decide) wf_X5_25 dX5_weightNow_89 rfl rfl ?_
  refine Ev.iload_1 dX5_weightNow_92 rfl ?_
  refine Ev.aldn dX5_weightNow_93 rfl (by have := ok.2.2.2.1; omega) (by decide) ?_
  refine Ev.goto 98 dX5_weightNow_94 (by decide) ?_
  refine Ev.iret dX5_weightNow_98 ?_
  exact ⟨by simp [*], rfl⟩

set_option maxHeartbeats 4000000 in
set_option maxRecDepth 100000 in
theorem m_weightNow_6 {d : Nat} {g : Nat → Int32} {G : Nat → Int64} {F : Nat → Nat → Int32} {V N : Nat} (ok : MOK g F V N) {K : Nat} (hK : g 13 = nI K) (h8 : K ≤ 8) {w : Nat} (hw : w < N)  : Ev (d + 6) yX5_weightNow cX5_weightNow (some .int) 0 [some (.ref 0), some (.int (nI w)), some (.int 6)] [] (modW g G F) (Is (some (.int (mch F N K w))) (modW g G F)) := by
  refine Ev.iload_2 dX5_weightNow_0 rfl ?_
  refine Ev.tableIn 99 dX5_weightNow_1 (by decide) (by decide) rfl (by decide) ?_
  refine Ev.aload_0 dX5_weightNow_99 rfl ?_
  refine Ev.iload_1 dX5_weightNow_100 rfl ?_
  refine k_X5_canHave (m_canHave ok hw hK h8) dX5_weightNow_101 wl_X5_176 rfl (Nat.le_of_ble_eq_true rfl) ?_
  refine Ev.iret dX5_weightNow_104 ?_
  exact ⟨rfl, rfl⟩

set_option maxHeartbeats 4000000 in
set_option maxRecDepth 100000 in
theorem m_weightNow_7 {d : Nat} {g : Nat → Int32} {G : Nat → Int64} {F : Nat → Nat → Int32} {V N : Nat} (ok : MOK g F V N) {K : Nat} (hK : g 13 = nI K) (h8 : K ≤ 8) {w : Nat} (hw : w < N)  : Ev (d + 6) yX5_weightNow cX5_weightNow (some .int) 0 [some (.ref 0), some (.int (nI w)), some (.int 7)] [] (modW g G F) (Is (some (.int (mwf F N K w))) (modW g G F)) := by
  refine Ev.iload_2 dX5_weightNow_0 rfl ?_
  refine Ev.tableOut 105 dX5_weightNow_1 (by decide) (by decide) ?_
  refine Ev.aload_0 dX5_weightNow_105 rfl ?_
  refine Ev.iload_1 dX5_weightNow_106 rfl ?_
  refine k_X5_waitFor (m_waitFor ok hw hK h8) dX5_weightNow_107 wl_X5_179 rfl (Nat.le_of_ble_eq_true rfl) ?_
  refine Ev.iret dX5_weightNow_110 ?_
  exact ⟨rfl, rfl⟩

def mwA (F : Nat → Nat → Int32) (N K w j : Nat) : Int32 := if j = 0 then F 4 w else if j = 1 then F 5 w else if j = 2 then F 6 w else if j = 3 then F 7 w else if j = 4 then bear (F 4 w) (F 5 w) (F 8 w) else if j = 5 then (if F 4 w = 3 then F 8 w else 0) else if j = 6 then mch F N K w else mwf F N K w
theorem m_weightNow_n {d : Nat} {g : Nat → Int32} {G : Nat → Int64} {F : Nat → Nat → Int32} {V N : Nat} (ok : MOK g F V N) {K : Nat} (hK : g 13 = nI K) (h8 : K ≤ 8) {w : Nat} (hw : w < N) : ∀ (j : Nat), j < 8 → Ev (d + 6) yX5_weightNow cX5_weightNow (some .int) 0 [some (.ref 0), some (.int (nI w)), some (.int (nI j))] [] (modW g G F) (Is (some (.int (mwA F N K w j))) (modW g G F))
  | 0, _ => by rw [show mwA F N K w 0 = F 4 w from by simp [mwA]]; exact m_weightNow_0 ok hK h8 hw
  | 1, _ => by rw [show mwA F N K w 1 = F 5 w from by simp [mwA]]; exact m_weightNow_1 ok hK h8 hw
  | 2, _ => by rw [show mwA F N K w 2 = F 6 w from by simp [mwA]]; exact m_weightNow_2 ok hK h8 hw
  | 3, _ => by rw [show mwA F N K w 3 = F 7 w from by simp [mwA]]; exact m_weightNow_3 ok hK h8 hw
  | 4, _ => by rw [show mwA F N K w 4 = bear (F 4 w) (F 5 w) (F 8 w) from by simp [mwA]]; exact m_weightNow_4 ok hK h8 hw
  | 5, _ => by rw [show mwA F N K w 5 = (if F 4 w = 3 then F 8 w else 0) from by simp [mwA]]; exact m_weightNow_5 ok hK h8 hw
  | 6, _ => by rw [show mwA F N K w 6 = mch F N K w from by simp [mwA]]; exact m_weightNow_6 ok hK h8 hw
  | 7, _ => by rw [show mwA F N K w 7 = mwf F N K w from by simp [mwA]]; exact m_weightNow_7 ok hK h8 hw
  | j + 8, h => absurd h (by omega)
set_option maxHeartbeats 4000000 in
set_option maxRecDepth 100000 in
theorem m_villageNow_0 {d : Nat} {g : Nat → Int32} {G : Nat → Int64} {F : Nat → Nat → Int32} {V N : Nat} (ok : MOK g F V N) {v : Nat} (hv : v < V)  : Ev (d + 4) yX5_villageNow cX5_villageNow (some .int) 0 [some (.ref 0), some (.int (nI v)), some (.int 0)] [] (modW g G F) (Is (some (.int (F 3 v))) (modW g G F)) := by
  refine Ev.iload_2 dX5_villageNow_0 rfl ?_
  refine Ev.tableIn 44 dX5_villageNow_1 (by decide) (by decide) rfl (by decide) ?_
  refine Ev.aload_0 dX5_villageNow_44 rfl ?_
  refine Ev.getf cf5 3 (by decide) wf_X5_7 dX5_villageNow_45 rfl rfl ?_
  refine Ev.iload_1 dX5_villageNow_48 rfl ?_
  refine Ev.aldn dX5_villageNow_49 rfl (by have := ok.2.2.1; omega) (by decide) ?_
  refine Ev.iret dX5_villageNow_50 ?_
  exact ⟨rfl, rfl⟩

set_option maxHeartbeats 4000000 in
set_option maxRecDepth 100000 in
theorem m_villageNow_1 {d : Nat} {g : Nat → Int32} {G : Nat → Int64} {F : Nat → Nat → Int32} {V N : Nat} (ok : MOK g F V N) {v : Nat} (hv : v < V)  : Ev (d + 4) yX5_villageNow cX5_villageNow (some .int) 0 [some (.ref 0), some (.int (nI v)), some (.int 1)] [] (modW g G F) (Is (some (.int (hld (vM F) N (-1) v 0))) (modW g G F)) := by
  refine Ev.iload_2 dX5_villageNow_0 rfl ?_
  refine Ev.tableIn 51 dX5_villageNow_1 (by decide) (by decide) rfl (by decide) ?_
  refine Ev.aload_0 dX5_villageNow_51 rfl ?_
  refine Ev.iload_1 dX5_villageNow_52 rfl ?_
  refine Ev.iconst (v := 0) dX5_villageNow_53 (by decide) ?_
  refine k_X5_hold (m_hold ok (by have := ok.2.2.1; omega) _) dX5_villageNow_54 wl_X5_159 rfl (Nat.le_of_ble_eq_true rfl) ?_
  refine Ev.iret dX5_villageNow_57 ?_
  exact ⟨rfl, rfl⟩

set_option maxHeartbeats 4000000 in
set_option maxRecDepth 100000 in
theorem m_villageNow_2 {d : Nat} {g : Nat → Int32} {G : Nat → Int64} {F : Nat → Nat → Int32} {V N : Nat} (ok : MOK g F V N) {v : Nat} (hv : v < V)  : Ev (d + 4) yX5_villageNow cX5_villageNow (some .int) 0 [some (.ref 0), some (.int (nI v)), some (.int 2)] [] (modW g G F) (Is (some (.int (hld (vM F) N (-1) v 1))) (modW g G F)) := by
  refine Ev.iload_2 dX5_villageNow_0 rfl ?_
  refine Ev.tableIn 58 dX5_villageNow_1 (by decide) (by decide) rfl (by decide) ?_
  refine Ev.aload_0 dX5_villageNow_58 rfl ?_
  refine Ev.iload_1 dX5_villageNow_59 rfl ?_
  refine Ev.iconst (v := 1) dX5_villageNow_60 (by decide) ?_
  refine k_X5_hold (m_hold ok (by have := ok.2.2.1; omega) _) dX5_villageNow_61 wl_X5_159 rfl (Nat.le_of_ble_eq_true rfl) ?_
  refine Ev.iret dX5_villageNow_64 ?_
  exact ⟨rfl, rfl⟩

set_option maxHeartbeats 4000000 in
set_option maxRecDepth 100000 in
theorem m_villageNow_3 {d : Nat} {g : Nat → Int32} {G : Nat → Int64} {F : Nat → Nat → Int32} {V N : Nat} (ok : MOK g F V N) {v : Nat} (hv : v < V)  : Ev (d + 4) yX5_villageNow cX5_villageNow (some .int) 0 [some (.ref 0), some (.int (nI v)), some (.int 3)] [] (modW g G F) (Is (some (.int (stb (hld (vM F) N (-1) v 0)))) (modW g G F)) := by
  refine Ev.iload_2 dX5_villageNow_0 rfl ?_
  refine Ev.tableIn 65 dX5_villageNow_1 (by decide) (by decide) rfl (by decide) ?_
  refine Ev.aload_0 dX5_villageNow_65 rfl ?_
  refine Ev.iload_1 dX5_villageNow_66 rfl ?_
  refine Ev.iconst (v := 0) dX5_villageNow_67 (by decide) ?_
  refine k_X5_stand (m_stand ok (by have := ok.2.2.1; omega) _) dX5_villageNow_68 wl_X5_165 rfl (Nat.le_of_ble_eq_true rfl) ?_
  refine Ev.iret dX5_villageNow_71 ?_
  exact ⟨rfl, rfl⟩

set_option maxHeartbeats 4000000 in
set_option maxRecDepth 100000 in
theorem m_villageNow_4 {d : Nat} {g : Nat → Int32} {G : Nat → Int64} {F : Nat → Nat → Int32} {V N : Nat} (ok : MOK g F V N) {v : Nat} (hv : v < V)  : Ev (d + 4) yX5_villageNow cX5_villageNow (some .int) 0 [some (.ref 0), some (.int (nI v)), some (.int 4)] [] (modW g G F) (Is (some (.int (stb (hld (vM F) N (-1) v 1)))) (modW g G F)) := by
  refine Ev.iload_2 dX5_villageNow_0 rfl ?_
  refine Ev.tableIn 72 dX5_villageNow_1 (by decide) (by decide) rfl (by decide) ?_
  refine Ev.aload_0 dX5_villageNow_72 rfl ?_
  refine Ev.iload_1 dX5_villageNow_73 rfl ?_
  refine Ev.iconst (v := 1) dX5_villageNow_74 (by decide) ?_
  refine k_X5_stand (m_stand ok (by have := ok.2.2.1; omega) _) dX5_villageNow_75 wl_X5_165 rfl (Nat.le_of_ble_eq_true rfl) ?_
  refine Ev.iret dX5_villageNow_78 ?_
  exact ⟨rfl, rfl⟩

set_option maxHeartbeats 4000000 in
set_option maxRecDepth 100000 in
theorem m_villageNow_5 {d : Nat} {g : Nat → Int32} {G : Nat → Int64} {F : Nat → Nat → Int32} {V N : Nat} (ok : MOK g F V N) {v : Nat} (hv : v < V)  : Ev (d + 4) yX5_villageNow cX5_villageNow (some .int) 0 [some (.ref 0), some (.int (nI v)), some (.int 5)] [] (modW g G F) (Is (some (.int (mls (vM F) N v))) (modW g G F)) := by
  refine Ev.iload_2 dX5_villageNow_0 rfl ?_
  refine Ev.tableIn 79 dX5_villageNow_1 (by decide) (by decide) rfl (by decide) ?_
  refine Ev.aload_0 dX5_villageNow_79 rfl ?_
  refine Ev.iload_1 dX5_villageNow_80 rfl ?_
  refine k_X5_leastOf (m_leastOf ok (by have := ok.2.2.1; omega)) dX5_villageNow_81 wl_X5_169 rfl (Nat.le_of_ble_eq_true rfl) ?_
  refine Ev.iret dX5_villageNow_84 ?_
  exact ⟨rfl, rfl⟩

set_option maxHeartbeats 4000000 in
set_option maxRecDepth 100000 in
theorem m_villageNow_6 {d : Nat} {g : Nat → Int32} {G : Nat → Int64} {F : Nat → Nat → Int32} {V N : Nat} (ok : MOK g F V N) {v : Nat} (hv : v < V)  : Ev (d + 4) yX5_villageNow cX5_villageNow (some .int) 0 [some (.ref 0), some (.int (nI v)), some (.int 6)] [] (modW g G F) (Is (some (.int (wi (vM F) N (nI v)))) (modW g G F)) := by
  refine Ev.iload_2 dX5_villageNow_0 rfl ?_
  refine Ev.tableIn 85 dX5_villageNow_1 (by decide) (by decide) rfl (by decide) ?_
  refine Ev.aload_0 dX5_villageNow_85 rfl ?_
  refine Ev.iload_1 dX5_villageNow_86 rfl ?_
  refine k_X5_there (m_there ok _) dX5_villageNow_87 wl_X5_189 rfl (Nat.le_of_ble_eq_true rfl) ?_
  refine Ev.iret dX5_villageNow_90 ?_
  exact ⟨rfl, rfl⟩

set_option maxHeartbeats 4000000 in
set_option maxRecDepth 100000 in
theorem m_villageNow_7 {d : Nat} {g : Nat → Int32} {G : Nat → Int64} {F : Nat → Nat → Int32} {V N : Nat} (ok : MOK g F V N) {v : Nat} (hv : v < V)  : Ev (d + 4) yX5_villageNow cX5_villageNow (some .int) 0 [some (.ref 0), some (.int (nI v)), some (.int 7)] [] (modW g G F) (Is (some (.int (os (vM F) N (wi (vM F) N (nI v))))) (modW g G F)) := by
  refine Ev.iload_2 dX5_villageNow_0 rfl ?_
  refine Ev.tableOut 91 dX5_villageNow_1 (by decide) (by decide) ?_
  refine Ev.aload_0 dX5_villageNow_91 rfl ?_
  refine Ev.aload_0 dX5_villageNow_92 rfl ?_
  refine Ev.iload_1 dX5_villageNow_93 rfl ?_
  refine k_X5_there (m_there ok _) dX5_villageNow_94 wl_X5_189 rfl (Nat.le_of_ble_eq_true rfl) ?_
  refine k_X5_ouncesIn (m_ouncesIn ok _) dX5_villageNow_97 wl_X5_192 rfl (Nat.le_of_ble_eq_true rfl) ?_
  refine Ev.iret dX5_villageNow_100 ?_
  exact ⟨rfl, rfl⟩

def mvA (F : Nat → Nat → Int32) (N v j : Nat) : Int32 := if j = 0 then F 3 v else if j = 1 then hld (vM F) N (-1) v 0 else if j = 2 then hld (vM F) N (-1) v 1 else if j = 3 then stb (hld (vM F) N (-1) v 0) else if j = 4 then stb (hld (vM F) N (-1) v 1) else if j = 5 then mls (vM F) N v else if j = 6 then wi (vM F) N (nI v) else os (vM F) N (wi (vM F) N (nI v))
theorem m_villageNow_n {d : Nat} {g : Nat → Int32} {G : Nat → Int64} {F : Nat → Nat → Int32} {V N : Nat} (ok : MOK g F V N) {v : Nat} (hv : v < V) : ∀ (j : Nat), j < 8 → Ev (d + 4) yX5_villageNow cX5_villageNow (some .int) 0 [some (.ref 0), some (.int (nI v)), some (.int (nI j))] [] (modW g G F) (Is (some (.int (mvA F N v j))) (modW g G F))
  | 0, _ => m_villageNow_0 ok hv
  | 1, _ => m_villageNow_1 ok hv
  | 2, _ => m_villageNow_2 ok hv
  | 3, _ => m_villageNow_3 ok hv
  | 4, _ => m_villageNow_4 ok hv
  | 5, _ => m_villageNow_5 ok hv
  | 6, _ => m_villageNow_6 ok hv
  | 7, _ => m_villageNow_7 ok hv
  | j + 8, h => absurd h (by omega)
set_option maxHeartbeats 4000000 in
set_option maxRecDepth 100000 in
theorem m_wh_loop {d : Nat} {g : Nat → Int32} {G : Nat → Int64} {F1 : Nat → Nat → Int32} {Q : Option Value → List Ce → Prop} {V N w v : Nat} (ok : MOK g F1 V N) (hw : w < N) (hv : v < V) {z a1 a2 a3 : Int32} : ∀ (n p : Nat) (F : Nat → Nat → Int32) (b l : Int32) (R : Int32 × Int32), (∀ x, up2 F 7 w x = up2 F1 7 w x) → p + n = 5 → whF (fun p => mls (vM (up2 F1 7 w (nI p))) N v) n p b l = R → (∀ F : Nat → Nat → Int32, (∀ x, up2 F 7 w x = up2 F1 7 w x) → Ev (d + 4) yX5_whereNow cX5_whereNow (some .int) 108 [some (.ref 0), some (.int (nI w)), some (.int (nI v)), some (.int z), some (.int a1), some (.int a2), some (.int a3), some (.int R.1), some (.int R.2), some (.int (nI 5))] [] (modW g G F) Q) → Ev (d + 4) yX5_whereNow cX5_whereNow (some .int) 47 [some (.ref 0), some (.int (nI w)), some (.int (nI v)), some (.int z), some (.int a1), some (.int a2), some (.int a3), some (.int b), some (.int l), some (.int (nI p))] [] (modW g G F) Q := by
  intro n
  induction n with
  | zero =>
    intro p F b l R hF hk hR K1
    have hk : p = 5 := by omega
    subst hk
    have hR : (b, l) = R := hR
    subst hR
    refine Ev.iload dX5_whereNow_47 rfl ?_
    refine Ev.iconst (v := 5) dX5_whereNow_49 (by decide) ?_
    refine Ev.icmp_ge 108 dX5_whereNow_50 (by decide) (fun h50 => ?_) (fun h50 => ?_)
    · exact K1 F hF
    · exact absurd (lp_le (x := 5) (N := 5) rfl (by omega) (by omega)) h50
  | succ n ih =>
    intro p F b l R hF hk hR K1
    refine Ev.iload dX5_whereNow_47 rfl ?_
    refine Ev.iconst (v := 5) dX5_whereNow_49 (by decide) ?_
    refine Ev.icmp_ge 108 dX5_whereNow_50 (by decide) (fun h50 => ?_) (fun h50 => ?_)
    · exact absurd h50 (lp_ge (x := 5) (N := 5) rfl (by omega) (by omega))
    refine Ev.aload_0 dX5_whereNow_53 rfl ?_
    refine Ev.getf cf5 7 (by decide) wf_X5_22 dX5_whereNow_54 rfl rfl ?_
    refine Ev.iload_1 dX5_whereNow_57 rfl ?_
    refine Ev.iload dX5_whereNow_58 rfl ?_
    refine aw_modW_5 dX5_whereNow_60 (by have := ok.2.2.2.1; omega) ?_
    rw [hF]
    have ok1 := MOK.row ok (a := 7) (by decide) w (nI p)
    refine Ev.aload_0 dX5_whereNow_61 rfl ?_
    refine Ev.iload_2 dX5_whereNow_62 rfl ?_
    refine k_X5_leastOf (m_leastOf ok1 (by have := ok.2.2.1; omega)) dX5_whereNow_63 wl_X5_169 rfl (Nat.le_of_ble_eq_true rfl) ?_
    refine Ev.iload dX5_whereNow_66 rfl ?_
    refine Ev.icmp_le 76 dX5_whereNow_68 (by decide) (fun h68 => ?_) (fun h68 => ?_)
    · refine Ev.iload dX5_whereNow_76 rfl ?_
      refine Ev.ist7 dX5_whereNow_78 rfl ?_
      refine Ev.aload_0 dX5_whereNow_80 rfl ?_
      refine Ev.iload_2 dX5_whereNow_81 rfl ?_
      refine k_X5_leastOf (m_leastOf ok1 (by have := ok.2.2.1; omega)) dX5_whereNow_82 wl_X5_169 rfl (Nat.le_of_ble_eq_true rfl) ?_
      refine Ev.iload dX5_whereNow_85 rfl ?_
      refine Ev.icmp_le 98 dX5_whereNow_87 (by decide) (fun h87 => ?_) (fun h87 => ?_)
      · refine Ev.iload dX5_whereNow_98 rfl ?_
        refine Ev.ist8 dX5_whereNow_100 rfl ?_
        first | refine Ev.incn9 dX5_whereNow_102 rfl ?_ | refine Ev.inc9 dX5_whereNow_102 rfl ?_
        refine Ev.goto 47 dX5_whereNow_105 (by decide) ?_
        exact ih (p + 1) _ _ _ R (fun x => up2_up2 F1 7 w (nI p) x) (by omega) (by first | exact absurd h68 h87 | exact absurd h87 h68 | (rw [← hR, whF]; simp [*])) K1
      refine Ev.aload_0 dX5_whereNow_90 rfl ?_
      refine Ev.iload_2 dX5_whereNow_91 rfl ?_
      refine k_X5_leastOf (m_leastOf ok1 (by have := ok.2.2.1; omega)) dX5_whereNow_92 wl_X5_169 rfl (Nat.le_of_ble_eq_true rfl) ?_
      refine Ev.goto 100 dX5_whereNow_95 (by decide) ?_
      refine Ev.ist8 dX5_whereNow_100 rfl ?_
      first | refine Ev.incn9 dX5_whereNow_102 rfl ?_ | refine Ev.inc9 dX5_whereNow_102 rfl ?_
      refine Ev.goto 47 dX5_whereNow_105 (by decide) ?_
      exact ih (p + 1) _ _ _ R (fun x => up2_up2 F1 7 w (nI p) x) (by omega) (by first | exact absurd h68 h87 | exact absurd h87 h68 | (rw [← hR, whF]; simp [*])) K1
    refine Ev.iload dX5_whereNow_71 rfl ?_
    refine Ev.goto 78 dX5_whereNow_73 (by decide) ?_
    refine Ev.ist7 dX5_whereNow_78 rfl ?_
    refine Ev.aload_0 dX5_whereNow_80 rfl ?_
    refine Ev.iload_2 dX5_whereNow_81 rfl ?_
    refine k_X5_leastOf (m_leastOf ok1 (by have := ok.2.2.1; omega)) dX5_whereNow_82 wl_X5_169 rfl (Nat.le_of_ble_eq_true rfl) ?_
    refine Ev.iload dX5_whereNow_85 rfl ?_
    refine Ev.icmp_le 98 dX5_whereNow_87 (by decide) (fun h87 => ?_) (fun h87 => ?_)
    · refine Ev.iload dX5_whereNow_98 rfl ?_
      refine Ev.ist8 dX5_whereNow_100 rfl ?_
      first | refine Ev.incn9 dX5_whereNow_102 rfl ?_ | refine Ev.inc9 dX5_whereNow_102 rfl ?_
      refine Ev.goto 47 dX5_whereNow_105 (by decide) ?_
      exact ih (p + 1) _ _ _ R (fun x => up2_up2 F1 7 w (nI p) x) (by omega) (by first | exact absurd h68 h87 | exact absurd h87 h68 | (rw [← hR, whF]; simp [*])) K1
    refine Ev.aload_0 dX5_whereNow_90 rfl ?_
    refine Ev.iload_2 dX5_whereNow_91 rfl ?_
    refine k_X5_leastOf (m_leastOf ok1 (by have := ok.2.2.1; omega)) dX5_whereNow_92 wl_X5_169 rfl (Nat.le_of_ble_eq_true rfl) ?_
    refine Ev.goto 100 dX5_whereNow_95 (by decide) ?_
    refine Ev.ist8 dX5_whereNow_100 rfl ?_
    first | refine Ev.incn9 dX5_whereNow_102 rfl ?_ | refine Ev.inc9 dX5_whereNow_102 rfl ?_
    refine Ev.goto 47 dX5_whereNow_105 (by decide) ?_
    exact ih (p + 1) _ _ _ R (fun x => up2_up2 F1 7 w (nI p) x) (by omega) (by first | exact absurd h68 h87 | exact absurd h87 h68 | (rw [← hR, whF]; simp [*])) K1

theorem wh_back {F F2 : Nat → Nat → Int32} {w v : Nat} (h : ∀ x, up2 F2 7 w x = up2 (wh1 F w v) 7 w x) : up2 (up2 (up2 F2 6 w (F 6 w)) 7 w (F 7 w)) 8 w (F 8 w) = F := by
  have e : up2 (up2 (up2 F2 6 w (F 6 w)) 7 w (F 7 w)) 8 w (F 8 w) = up2 (up2 (up2 F2 7 w (F 7 w)) 6 w (F 6 w)) 8 w (F 8 w) := by
    funext b k
    by_cases h6 : b = 6
    · subst h6; by_cases hk : k = w <;> simp [up2, upd, hk]
    · by_cases h7 : b = 7
      · subst h7; by_cases hk : k = w <;> simp [up2, upd, hk]
      · by_cases h8 : b = 8
        · subst h8; by_cases hk : k = w <;> simp [up2, upd, hk]
        · simp [up2, h6, h7, h8]
  rw [e, h]
  funext b k
  by_cases h6 : b = 6
  · subst h6; by_cases hk : k = w <;> simp [wh1, up2, upd, hk]
  · by_cases h7 : b = 7
    · subst h7; by_cases hk : k = w <;> simp [wh1, up2, upd, hk]
    · by_cases h8 : b = 8
      · subst h8; by_cases hk : k = w <;> simp [wh1, up2, upd, hk]
      · simp [wh1, up2, h6, h7, h8]

set_option maxHeartbeats 4000000 in
set_option maxRecDepth 100000 in
theorem m_whereNow_0 {d : Nat} {g : Nat → Int32} {G : Nat → Int64} {F : Nat → Nat → Int32} {V N : Nat} (ok : MOK g F V N) {w : Nat} (hw : w < N) {v : Nat} (hv : v < V)  : Ev (d + 4) yX5_whereNow cX5_whereNow (some .int) 0 [some (.ref 0), some (.int (nI w)), some (.int (nI v)), some (.int 0), none, none, none, none, none, none] [] (modW g G F) (Is (some (.int ((mwh F N w v).1))) (modW g G F)) := by
  have hw5 : w < 5 := by have := ok.2.2.2.1; omega
  refine Ev.aload_0 dX5_whereNow_0 rfl ?_
  refine Ev.getf cf5 6 (by decide) wf_X5_19 dX5_whereNow_1 rfl rfl ?_
  refine Ev.iload_1 dX5_whereNow_4 rfl ?_
  refine Ev.aldn dX5_whereNow_5 rfl (by omega) (by decide) ?_
  refine Ev.ist4 dX5_whereNow_6 rfl ?_
  refine Ev.aload_0 dX5_whereNow_8 rfl ?_
  refine Ev.getf cf5 7 (by decide) wf_X5_22 dX5_whereNow_9 rfl rfl ?_
  refine Ev.iload_1 dX5_whereNow_12 rfl ?_
  refine Ev.aldn dX5_whereNow_13 rfl (by omega) (by decide) ?_
  refine Ev.ist5 dX5_whereNow_14 rfl ?_
  refine Ev.aload_0 dX5_whereNow_16 rfl ?_
  refine Ev.getf cf5 8 (by decide) wf_X5_25 dX5_whereNow_17 rfl rfl ?_
  refine Ev.iload_1 dX5_whereNow_20 rfl ?_
  refine Ev.aldn dX5_whereNow_21 rfl (by omega) (by decide) ?_
  refine Ev.ist6 dX5_whereNow_22 rfl ?_
  refine Ev.aload_0 dX5_whereNow_24 rfl ?_
  refine Ev.getf cf5 6 (by decide) wf_X5_19 dX5_whereNow_25 rfl rfl ?_
  refine Ev.iload_1 dX5_whereNow_28 rfl ?_
  refine Ev.iload_2 dX5_whereNow_29 rfl ?_
  refine aw_modW_4 dX5_whereNow_30 (by omega) ?_
  refine Ev.aload_0 dX5_whereNow_31 rfl ?_
  refine Ev.getf cf5 8 (by decide) wf_X5_25 dX5_whereNow_32 rfl rfl ?_
  refine Ev.iload_1 dX5_whereNow_35 rfl ?_
  refine Ev.iconst (v := 0) dX5_whereNow_36 (by decide) ?_
  refine aw_modW_6 dX5_whereNow_37 (by omega) ?_
  refine Ev.iconst (v := 0) dX5_whereNow_38 (by decide) ?_
  refine Ev.ist7 dX5_whereNow_39 rfl ?_
  refine Ev.iconst (v := -1) dX5_whereNow_41 (by decide) ?_
  refine Ev.ist8 dX5_whereNow_42 rfl ?_
  refine Ev.iconst (v := 0) dX5_whereNow_44 (by decide) ?_
  refine Ev.ist9 dX5_whereNow_45 rfl ?_
  refine m_wh_loop (F1 := wh1 F w v) (MOK.row (MOK.home ok w (Or.inr ⟨v, hv, rfl⟩)) (a := 8) (by decide) w 0) hw hv 5 0 _ _ _ _ (fun _ => rfl) (by omega) rfl (fun F2 hF2 => ?_)
  refine Ev.aload_0 dX5_whereNow_108 rfl ?_
  refine Ev.getf cf5 6 (by decide) wf_X5_19 dX5_whereNow_109 rfl rfl ?_
  refine Ev.iload_1 dX5_whereNow_112 rfl ?_
  refine Ev.iload dX5_whereNow_113 rfl ?_
  refine aw_modW_4 dX5_whereNow_115 (by omega) ?_
  refine Ev.aload_0 dX5_whereNow_116 rfl ?_
  refine Ev.getf cf5 7 (by decide) wf_X5_22 dX5_whereNow_117 rfl rfl ?_
  refine Ev.iload_1 dX5_whereNow_120 rfl ?_
  refine Ev.iload dX5_whereNow_121 rfl ?_
  refine aw_modW_5 dX5_whereNow_123 (by omega) ?_
  refine Ev.aload_0 dX5_whereNow_124 rfl ?_
  refine Ev.getf cf5 8 (by decide) wf_X5_25 dX5_whereNow_125 rfl rfl ?_
  refine Ev.iload_1 dX5_whereNow_128 rfl ?_
  refine Ev.iload dX5_whereNow_129 rfl ?_
  refine aw_modW_6 dX5_whereNow_131 (by omega) ?_
  refine Ev.iload_3 dX5_whereNow_132 rfl ?_
  refine Ev.if_ne 141 dX5_whereNow_133 (by decide) (fun h133 => ?_) (fun h133 => ?_)
  · exact absurd rfl h133
  refine Ev.iload dX5_whereNow_136 rfl ?_
  refine Ev.goto 143 dX5_whereNow_138 (by decide) ?_
  refine Ev.iret dX5_whereNow_143 ?_
  exact ⟨rfl, by rw [wh_back hF2]⟩

set_option maxHeartbeats 4000000 in
set_option maxRecDepth 100000 in
theorem m_whereNow_1 {d : Nat} {g : Nat → Int32} {G : Nat → Int64} {F : Nat → Nat → Int32} {V N : Nat} (ok : MOK g F V N) {w : Nat} (hw : w < N) {v : Nat} (hv : v < V)  : Ev (d + 4) yX5_whereNow cX5_whereNow (some .int) 0 [some (.ref 0), some (.int (nI w)), some (.int (nI v)), some (.int 1), none, none, none, none, none, none] [] (modW g G F) (Is (some (.int ((mwh F N w v).2))) (modW g G F)) := by
  have hw5 : w < 5 := by have := ok.2.2.2.1; omega
  refine Ev.aload_0 dX5_whereNow_0 rfl ?_
  refine Ev.getf cf5 6 (by decide) wf_X5_19 dX5_whereNow_1 rfl rfl ?_
  refine Ev.iload_1 dX5_whereNow_4 rfl ?_
  refine Ev.aldn dX5_whereNow_5 rfl (by omega) (by decide) ?_
  refine Ev.ist4 dX5_whereNow_6 rfl ?_
  refine Ev.aload_0 dX5_whereNow_8 rfl ?_
  refine Ev.getf cf5 7 (by decide) wf_X5_22 dX5_whereNow_9 rfl rfl ?_
  refine Ev.iload_1 dX5_whereNow_12 rfl ?_
  refine Ev.aldn dX5_whereNow_13 rfl (by omega) (by decide) ?_
  refine Ev.ist5 dX5_whereNow_14 rfl ?_
  refine Ev.aload_0 dX5_whereNow_16 rfl ?_
  refine Ev.getf cf5 8 (by decide) wf_X5_25 dX5_whereNow_17 rfl rfl ?_
  refine Ev.iload_1 dX5_whereNow_20 rfl ?_
  refine Ev.aldn dX5_whereNow_21 rfl (by omega) (by decide) ?_
  refine Ev.ist6 dX5_whereNow_22 rfl ?_
  refine Ev.aload_0 dX5_whereNow_24 rfl ?_
  refine Ev.getf cf5 6 (by decide) wf_X5_19 dX5_whereNow_25 rfl rfl ?_
  refine Ev.iload_1 dX5_whereNow_28 rfl ?_
  refine Ev.iload_2 dX5_whereNow_29 rfl ?_
  refine aw_modW_4 dX5_whereNow_30 (by omega) ?_
  refine Ev.aload_0 dX5_whereNow_31 rfl ?_
  refine Ev.getf cf5 8 (by decide) wf_X5_25 dX5_whereNow_32 rfl rfl ?_
  refine Ev.iload_1 dX5_whereNow_35 rfl ?_
  refine Ev.iconst (v := 0) dX5_whereNow_36 (by decide) ?_
  refine aw_modW_6 dX5_whereNow_37 (by omega) ?_
  refine Ev.iconst (v := 0) dX5_whereNow_38 (by decide) ?_
  refine Ev.ist7 dX5_whereNow_39 rfl ?_
  refine Ev.iconst (v := -1) dX5_whereNow_41 (by decide) ?_
  refine Ev.ist8 dX5_whereNow_42 rfl ?_
  refine Ev.iconst (v := 0) dX5_whereNow_44 (by decide) ?_
  refine Ev.ist9 dX5_whereNow_45 rfl ?_
  refine m_wh_loop (F1 := wh1 F w v) (MOK.row (MOK.home ok w (Or.inr ⟨v, hv, rfl⟩)) (a := 8) (by decide) w 0) hw hv 5 0 _ _ _ _ (fun _ => rfl) (by omega) rfl (fun F2 hF2 => ?_)
  refine Ev.aload_0 dX5_whereNow_108 rfl ?_
  refine Ev.getf cf5 6 (by decide) wf_X5_19 dX5_whereNow_109 rfl rfl ?_
  refine Ev.iload_1 dX5_whereNow_112 rfl ?_
  refine Ev.iload dX5_whereNow_113 rfl ?_
  refine aw_modW_4 dX5_whereNow_115 (by omega) ?_
  refine Ev.aload_0 dX5_whereNow_116 rfl ?_
  refine Ev.getf cf5 7 (by decide) wf_X5_22 dX5_whereNow_117 rfl rfl ?_
  refine Ev.iload_1 dX5_whereNow_120 rfl ?_
  refine Ev.iload dX5_whereNow_121 rfl ?_
  refine aw_modW_5 dX5_whereNow_123 (by omega) ?_
  refine Ev.aload_0 dX5_whereNow_124 rfl ?_
  refine Ev.getf cf5 8 (by decide) wf_X5_25 dX5_whereNow_125 rfl rfl ?_
  refine Ev.iload_1 dX5_whereNow_128 rfl ?_
  refine Ev.iload dX5_whereNow_129 rfl ?_
  refine aw_modW_6 dX5_whereNow_131 (by omega) ?_
  refine Ev.iload_3 dX5_whereNow_132 rfl ?_
  refine Ev.if_ne 141 dX5_whereNow_133 (by decide) (fun h133 => ?_) (fun h133 => ?_)
  · refine Ev.iload dX5_whereNow_141 rfl ?_
    refine Ev.iret dX5_whereNow_143 ?_
    exact ⟨rfl, by rw [wh_back hF2]⟩
  · exact absurd h133 (by decide)

theorem mend_back (F : Nat → Nat → Int32) (w : Nat) : up2 (up2 F 5 w (F 5 w + 1)) 5 w (up2 F 5 w (F 5 w + 1) 5 w - 1) = F := by
  rw [show up2 F 5 w (F 5 w + 1) 5 w - 1 = F 5 w from by simp [up2, upd]]
  exact up2_self F 5 w _

set_option maxHeartbeats 4000000 in
set_option maxRecDepth 100000 in
theorem m_mend_loop {d : Nat} {g : Nat → Int32} {G : Nat → Int64} {F : Nat → Nat → Int32} {V N : Nat} (ok : MOK g F V N) : ∀ (n k : Nat) (b l R : Int32) (x : Option Value), k + n = N → mmF F V N n k b l = R → Ev (d + 5) yX5_mendNow cX5_mendNow (some .int) 9 [some (.ref 0), some (.int b), some (.int l), some (.int (nI k)), x] [] (modW g G F) (Is (some (.int (R))) (modW g G F)) := by
  intro n
  induction n with
  | zero =>
    intro k b l R x hk hR
    refine Ev.iload_3 dX5_mendNow_9 rfl ?_
    refine Ev.aload_0 dX5_mendNow_10 rfl ?_
    refine Ev.getf cf5 2 (by decide) wf_X5_134 dX5_mendNow_11 rfl rfl ?_
    refine Ev.icmp_ge 95 dX5_mendNow_14 (by decide) (fun h14 => ?_) (fun h14 => ?_)
    · refine Ev.iload_1 dX5_mendNow_95 rfl ?_
      refine Ev.iret dX5_mendNow_96 ?_
      exact ⟨by rw [← hR]; rfl, rfl⟩
    · exact absurd (lp_le ok.2.1 (by omega) (by have := ok.2.2.2.1; omega)) h14
  | succ n ih =>
    intro k b l R x hk hR
    refine Ev.iload_3 dX5_mendNow_9 rfl ?_
    refine Ev.aload_0 dX5_mendNow_10 rfl ?_
    refine Ev.getf cf5 2 (by decide) wf_X5_134 dX5_mendNow_11 rfl rfl ?_
    refine Ev.icmp_ge 95 dX5_mendNow_14 (by decide) (fun h14 => ?_) (fun h14 => ?_)
    · exact absurd h14 (lp_ge ok.2.1 (by omega) (by have := ok.2.2.2.1; omega))
    refine Ev.aload_0 dX5_mendNow_17 rfl ?_
    refine Ev.getf cf5 6 (by decide) wf_X5_19 dX5_mendNow_18 rfl rfl ?_
    refine Ev.iload_3 dX5_mendNow_21 rfl ?_
    refine Ev.aldn dX5_mendNow_22 rfl (by have := ok.2.2.2.1; omega) (by decide) ?_
    refine Ev.iconst (v := -1) dX5_mendNow_23 (by decide) ?_
    refine Ev.icmp_eq 89 dX5_mendNow_24 (by decide) (fun h24 => ?_) (fun h24 => ?_)
    · first | refine Ev.incn3 dX5_mendNow_89 rfl ?_ | refine Ev.inc3 dX5_mendNow_89 rfl ?_
      refine Ev.goto 9 dX5_mendNow_92 (by decide) ?_
      exact ih (k + 1) _ _ R _ (by omega) (by first | exact absurd h67 h79 | exact absurd h79 h67 | (rw [← hR, mmF]; simp [*]))
    refine Ev.aload_0 dX5_mendNow_27 rfl ?_
    refine Ev.getf cf5 5 (by decide) wf_X5_16 dX5_mendNow_28 rfl rfl ?_
    refine Ev.iload_3 dX5_mendNow_31 rfl ?_
    refine Ev.aldn dX5_mendNow_32 rfl (by have := ok.2.2.2.1; omega) (by decide) ?_
    refine Ev.bipush (v := 9) dX5_mendNow_33 (by decide) ?_
    refine Ev.icmp_ge 89 dX5_mendNow_35 (by decide) (fun h35 => ?_) (fun h35 => ?_)
    · first | refine Ev.incn3 dX5_mendNow_89 rfl ?_ | refine Ev.inc3 dX5_mendNow_89 rfl ?_
      refine Ev.goto 9 dX5_mendNow_92 (by decide) ?_
      exact ih (k + 1) _ _ R _ (by omega) (by first | exact absurd h67 h79 | exact absurd h79 h67 | (rw [← hR, mmF]; simp [*]))
    refine Ev.aload_0 dX5_mendNow_38 rfl ?_
    refine Ev.getf cf5 5 (by decide) wf_X5_16 dX5_mendNow_39 rfl rfl ?_
    refine Ev.iload_3 dX5_mendNow_42 rfl ?_
    refine Ev.dup2 dX5_mendNow_43 rfl rfl ?_
    refine Ev.aldn dX5_mendNow_44 rfl (by have := ok.2.2.2.1; omega) (by decide) ?_
    refine Ev.iconst (v := 1) dX5_mendNow_45 (by decide) ?_
    refine Ev.iadd dX5_mendNow_46 ?_
    refine aw_modW_3 dX5_mendNow_47 (by have := ok.2.2.2.1; omega) ?_
    refine Ev.aload_0 dX5_mendNow_48 rfl ?_
    refine k_X5_leastOfAll (m_leastOfAll (MOK.row ok (a := 5) (by decide) k (F 5 k + 1))) dX5_mendNow_49 wl_X5_259 rfl (Nat.le_of_ble_eq_true rfl) ?_
    refine Ev.ist4 dX5_mendNow_52 rfl ?_
    refine Ev.aload_0 dX5_mendNow_54 rfl ?_
    refine Ev.getf cf5 5 (by decide) wf_X5_16 dX5_mendNow_55 rfl rfl ?_
    refine Ev.iload_3 dX5_mendNow_58 rfl ?_
    refine Ev.dup2 dX5_mendNow_59 rfl rfl ?_
    refine Ev.aldn dX5_mendNow_60 rfl (by have := ok.2.2.2.1; omega) (by decide) ?_
    refine Ev.iconst (v := 1) dX5_mendNow_61 (by decide) ?_
    refine Ev.isub dX5_mendNow_62 ?_
    refine aw_modW_3 dX5_mendNow_63 (by have := ok.2.2.2.1; omega) ?_
    rw [mend_back F k]
    refine Ev.iload dX5_mendNow_64 rfl ?_
    refine Ev.iload_2 dX5_mendNow_66 rfl ?_
    refine Ev.icmp_le 74 dX5_mendNow_67 (by decide) (fun h67 => ?_) (fun h67 => ?_)
    · refine Ev.iload_1 dX5_mendNow_74 rfl ?_
      refine Ev.ist1 dX5_mendNow_75 rfl ?_
      refine Ev.iload dX5_mendNow_76 rfl ?_
      refine Ev.iload_2 dX5_mendNow_78 rfl ?_
      refine Ev.icmp_le 87 dX5_mendNow_79 (by decide) (fun h79 => ?_) (fun h79 => ?_)
      · refine Ev.iload_2 dX5_mendNow_87 rfl ?_
        refine Ev.ist2 dX5_mendNow_88 rfl ?_
        first | refine Ev.incn3 dX5_mendNow_89 rfl ?_ | refine Ev.inc3 dX5_mendNow_89 rfl ?_
        refine Ev.goto 9 dX5_mendNow_92 (by decide) ?_
        exact ih (k + 1) _ _ R _ (by omega) (by first | exact absurd h67 h79 | exact absurd h79 h67 | (rw [← hR, mmF]; simp [*]))
      refine Ev.iload dX5_mendNow_82 rfl ?_
      refine Ev.goto 88 dX5_mendNow_84 (by decide) ?_
      refine Ev.ist2 dX5_mendNow_88 rfl ?_
      first | refine Ev.incn3 dX5_mendNow_89 rfl ?_ | refine Ev.inc3 dX5_mendNow_89 rfl ?_
      refine Ev.goto 9 dX5_mendNow_92 (by decide) ?_
      exact ih (k + 1) _ _ R _ (by omega) (by first | exact absurd h67 h79 | exact absurd h79 h67 | (rw [← hR, mmF]; simp [*]))
    refine Ev.iload_3 dX5_mendNow_70 rfl ?_
    refine Ev.goto 75 dX5_mendNow_71 (by decide) ?_
    refine Ev.ist1 dX5_mendNow_75 rfl ?_
    refine Ev.iload dX5_mendNow_76 rfl ?_
    refine Ev.iload_2 dX5_mendNow_78 rfl ?_
    refine Ev.icmp_le 87 dX5_mendNow_79 (by decide) (fun h79 => ?_) (fun h79 => ?_)
    · refine Ev.iload_2 dX5_mendNow_87 rfl ?_
      refine Ev.ist2 dX5_mendNow_88 rfl ?_
      first | refine Ev.incn3 dX5_mendNow_89 rfl ?_ | refine Ev.inc3 dX5_mendNow_89 rfl ?_
      refine Ev.goto 9 dX5_mendNow_92 (by decide) ?_
      exact ih (k + 1) _ _ R _ (by omega) (by first | exact absurd h67 h79 | exact absurd h79 h67 | (rw [← hR, mmF]; simp [*]))
    refine Ev.iload dX5_mendNow_82 rfl ?_
    refine Ev.goto 88 dX5_mendNow_84 (by decide) ?_
    refine Ev.ist2 dX5_mendNow_88 rfl ?_
    first | refine Ev.incn3 dX5_mendNow_89 rfl ?_ | refine Ev.inc3 dX5_mendNow_89 rfl ?_
    refine Ev.goto 9 dX5_mendNow_92 (by decide) ?_
    exact ih (k + 1) _ _ R _ (by omega) (by first | exact absurd h67 h79 | exact absurd h79 h67 | (rw [← hR, mmF]; simp [*]))

set_option maxHeartbeats 4000000 in
set_option maxRecDepth 100000 in
theorem m_mendNow {d : Nat} {g : Nat → Int32} {G : Nat → Int64} {F : Nat → Nat → Int32} {V N : Nat} (ok : MOK g F V N)  : Ev (d + 5) yX5_mendNow cX5_mendNow (some .int) 0 [some (.ref 0), none, none, none, none] [] (modW g G F) (Is (some (.int (mmd F V N))) (modW g G F)) := by
  refine Ev.iconst (v := -1) dX5_mendNow_0 (by decide) ?_
  refine Ev.ist1 dX5_mendNow_1 rfl ?_
  refine Ev.aload_0 dX5_mendNow_2 rfl ?_
  refine k_X5_leastOfAll (m_leastOfAll ok) dX5_mendNow_3 wl_X5_259 rfl (Nat.le_of_ble_eq_true rfl) ?_
  refine Ev.ist2 dX5_mendNow_6 rfl ?_
  refine Ev.iconst (v := 0) dX5_mendNow_7 (by decide) ?_
  refine Ev.ist3 dX5_mendNow_8 rfl ?_
  exact m_mend_loop ok N 0 _ _ _ _ (by omega) rfl

set_option maxHeartbeats 4000000 in
set_option maxRecDepth 100000 in
theorem m_al_loop {d : Nat} {g : Nat → Int32} {G : Nat → Int64} {F : Nat → Nat → Int32} {Q : Option Value → List Ce → Prop} {V N : Nat} (ok : MOK g F V N) {side force : Int32}  : ∀ (n : Nat) (k : Nat) (b R : Int32), k + n = V → alF (vM F) N side force n k b = R → Ev (d + 3) yX5_anyLifts cX5_anyLifts (some .boolean) 41 [some (.ref 0), some (.int side), some (.int force), some (.int R), some (.int (nI V))] [] (modW g G F) Q → Ev (d + 3) yX5_anyLifts cX5_anyLifts (some .boolean) 5 [some (.ref 0), some (.int side), some (.int force), some (.int b), some (.int (nI k))] [] (modW g G F) Q := by
  intro n
  induction n with
  | zero =>
    intro k b R hk hR K
    have hk : k = V := by omega
    subst hk
    have hR : b = R := hR
    subst hR
    refine Ev.iload dX5_anyLifts_5 rfl ?_
    refine Ev.aload_0 dX5_anyLifts_7 rfl ?_
    refine Ev.getf cf5 1 (by decide) wf_X5_131 dX5_anyLifts_8 rfl rfl ?_
    refine Ev.icmp_ge 41 dX5_anyLifts_11 (by decide) (fun h11 => ?_) (fun h11 => ?_)
    · exact K
    · exact absurd (lp_le ok.1 (by omega) (by have := ok.2.2.1; omega)) h11
  | succ n ih =>
    intro k b R hk hR K
    refine Ev.iload dX5_anyLifts_5 rfl ?_
    refine Ev.aload_0 dX5_anyLifts_7 rfl ?_
    refine Ev.getf cf5 1 (by decide) wf_X5_131 dX5_anyLifts_8 rfl rfl ?_
    refine Ev.icmp_ge 41 dX5_anyLifts_11 (by decide) (fun h11 => ?_) (fun h11 => ?_)
    · exact absurd h11 (lp_ge ok.1 (by omega) (by have := ok.2.2.1; omega))
    refine Ev.iload_3 dX5_anyLifts_14 rfl ?_
    refine Ev.if_ne 29 dX5_anyLifts_15 (by decide) (fun h15 => ?_) (fun h15 => ?_)
    · refine Ev.iconst (v := 1) dX5_anyLifts_29 (by decide) ?_
      refine Ev.goto 34 dX5_anyLifts_30 (by decide) ?_
      refine Ev.ist3 dX5_anyLifts_34 rfl ?_
      first | refine Ev.incn4 dX5_anyLifts_35 rfl ?_ | refine Ev.inc4 dX5_anyLifts_35 rfl ?_
      refine Ev.goto 5 dX5_anyLifts_38 (by decide) ?_
      exact ih (k + 1) _ R (by omega) (by rw [← hR, alF]; simp [*]) K
    refine Ev.aload_0 dX5_anyLifts_18 rfl ?_
    refine Ev.iload dX5_anyLifts_19 rfl ?_
    refine Ev.iload_1 dX5_anyLifts_21 rfl ?_
    refine Ev.iload_2 dX5_anyLifts_22 rfl ?_
    refine k_X5_wouldLift (m_wouldLift ok (by have := ok.2.2.1; omega) _ _) dX5_anyLifts_23 wl_X5_204 rfl (Nat.le_of_ble_eq_true rfl) ?_
    refine Ev.if_eq 33 dX5_anyLifts_26 (by decide) (fun h26 => ?_) (fun h26 => ?_)
    · refine Ev.iconst (v := 0) dX5_anyLifts_33 (by decide) ?_
      refine Ev.ist3 dX5_anyLifts_34 rfl ?_
      first | refine Ev.incn4 dX5_anyLifts_35 rfl ?_ | refine Ev.inc4 dX5_anyLifts_35 rfl ?_
      refine Ev.goto 5 dX5_anyLifts_38 (by decide) ?_
      exact ih (k + 1) _ R (by omega) (by rw [← hR, alF]; simp [*]) K
    refine Ev.iconst (v := 1) dX5_anyLifts_29 (by decide) ?_
    refine Ev.goto 34 dX5_anyLifts_30 (by decide) ?_
    refine Ev.ist3 dX5_anyLifts_34 rfl ?_
    first | refine Ev.incn4 dX5_anyLifts_35 rfl ?_ | refine Ev.inc4 dX5_anyLifts_35 rfl ?_
    refine Ev.goto 5 dX5_anyLifts_38 (by decide) ?_
    exact ih (k + 1) _ R (by omega) (by rw [← hR, alF]; simp [*]) K

theorem alF_b (X : Nat → Nat → Int32) (N : Nat) (side force : Int32) : ∀ (n v : Nat) (b : Int32), (b = 0 ∨ b = 1) → (alF X N side force n v b = 0 ∨ alF X N side force n v b = 1)
  | 0, _, _, h => h
  | n + 1, v, b, h => by
    rw [alF]
    apply alF_b X N side force n
    split
    · exact Or.inr rfl
    · split
      · exact Or.inl rfl
      · exact Or.inr rfl
theorem nar_b {x : Int32} (h : x = 0 ∨ x = 1) : narrow .boolean (.int x) = .int x := by
  rcases h with rfl | rfl <;> decide

set_option maxHeartbeats 4000000 in
set_option maxRecDepth 100000 in
theorem m_anyLifts {d : Nat} {g : Nat → Int32} {G : Nat → Int64} {F : Nat → Nat → Int32} {V N : Nat} (ok : MOK g F V N) (side force : Int32) : Ev (d + 3) yX5_anyLifts cX5_anyLifts (some .boolean) 0 [some (.ref 0), some (.int side), some (.int force), none, none] [] (modW g G F) (Is (some (.int (alF (vM F) N side force V 0 0))) (modW g G F)) := by
  refine Ev.iconst (v := 0) dX5_anyLifts_0 (by decide) ?_
  refine Ev.ist3 dX5_anyLifts_1 rfl ?_
  refine Ev.iconst (v := 0) dX5_anyLifts_2 (by decide) ?_
  refine Ev.ist4 dX5_anyLifts_3 rfl ?_
  exact m_al_loop ok V 0 _ _ (by omega) rfl (Ev.iload_3 dX5_anyLifts_41 rfl (Ev.zret dX5_anyLifts_42 (nar_b (alF_b _ _ _ _ _ _ _ (Or.inl rfl))) ⟨rfl, rfl⟩))

set_option maxHeartbeats 4000000 in
set_option maxRecDepth 100000 in
theorem m_odds_1 {d : Nat} {g : Nat → Int32} {G : Nat → Int64} {F : Nat → Nat → Int32} {Q : Option Value → List Ce → Prop} {V N : Nat} (ok : MOK g F V N) {a z : Int32} {x y : Option Value}  : ∀ (n : Nat) (f : Nat) (c R : Int32), f + n = 10 → gdF (vM F) V N n f c = R → Ev (d + 4) yX5_oddsNow cX5_oddsNow (some .int) 54 [some (.ref 0), some (.int a), some (.int z), some (.int R), some (.int (nI 10)), x, y] [] (modW g G F) Q → Ev (d + 4) yX5_oddsNow cX5_oddsNow (some .int) 5 [some (.ref 0), some (.int a), some (.int z), some (.int c), some (.int (nI f)), x, y] [] (modW g G F) Q := by
  intro n
  induction n with
  | zero =>
    intro f c R hk hR K
    have hk : f = 10 := by omega
    subst hk
    have hR : c = R := hR
    subst hR
    refine Ev.iload dX5_oddsNow_5 rfl ?_
    refine Ev.bipush (v := 10) dX5_oddsNow_7 (by decide) ?_
    refine Ev.icmp_ge 54 dX5_oddsNow_9 (by decide) (fun h9 => ?_) (fun h9 => ?_)
    · exact K
    · exact absurd (lp_le (x := 10) (N := 10) rfl (by omega) (by omega)) h9
  | succ n ih =>
    intro f c R hk hR K
    refine Ev.iload dX5_oddsNow_5 rfl ?_
    refine Ev.bipush (v := 10) dX5_oddsNow_7 (by decide) ?_
    refine Ev.icmp_ge 54 dX5_oddsNow_9 (by decide) (fun h9 => ?_) (fun h9 => ?_)
    · exact absurd h9 (lp_ge (x := 10) (N := 10) rfl (by omega) (by omega))
    refine Ev.iload_3 dX5_oddsNow_12 rfl ?_
    refine Ev.aload_0 dX5_oddsNow_13 rfl ?_
    refine Ev.iconst (v := 0) dX5_oddsNow_14 (by decide) ?_
    refine Ev.iload dX5_oddsNow_15 rfl ?_
    refine k_X5_anyLifts (m_anyLifts ok _ _) dX5_oddsNow_17 wl_X5_265 rfl (Nat.le_of_ble_eq_true rfl) ?_
    refine Ev.if_eq 27 dX5_oddsNow_20 (by decide) (fun h20 => ?_) (fun h20 => ?_)
    · refine Ev.iconst (v := 1) dX5_oddsNow_27 (by decide) ?_
      refine Ev.iadd dX5_oddsNow_28 ?_
      refine Ev.ist3 dX5_oddsNow_29 rfl ?_
      refine Ev.iload_3 dX5_oddsNow_30 rfl ?_
      refine Ev.aload_0 dX5_oddsNow_31 rfl ?_
      refine Ev.iconst (v := 1) dX5_oddsNow_32 (by decide) ?_
      refine Ev.iload dX5_oddsNow_33 rfl ?_
      refine k_X5_anyLifts (m_anyLifts ok _ _) dX5_oddsNow_35 wl_X5_265 rfl (Nat.le_of_ble_eq_true rfl) ?_
      refine Ev.if_eq 45 dX5_oddsNow_38 (by decide) (fun h38 => ?_) (fun h38 => ?_)
      · refine Ev.iconst (v := 1) dX5_oddsNow_45 (by decide) ?_
        refine Ev.iadd dX5_oddsNow_46 ?_
        refine Ev.ist3 dX5_oddsNow_47 rfl ?_
        first | refine Ev.incn4 dX5_oddsNow_48 rfl ?_ | refine Ev.inc4 dX5_oddsNow_48 rfl ?_
        refine Ev.goto 5 dX5_oddsNow_51 (by decide) ?_
        exact ih (f + 1) _ R (by omega) (by rw [← hR, gdF]; simp [*]) K
      refine Ev.iconst (v := 0) dX5_oddsNow_41 (by decide) ?_
      refine Ev.goto 46 dX5_oddsNow_42 (by decide) ?_
      refine Ev.iadd dX5_oddsNow_46 ?_
      refine Ev.ist3 dX5_oddsNow_47 rfl ?_
      first | refine Ev.incn4 dX5_oddsNow_48 rfl ?_ | refine Ev.inc4 dX5_oddsNow_48 rfl ?_
      refine Ev.goto 5 dX5_oddsNow_51 (by decide) ?_
      exact ih (f + 1) _ R (by omega) (by rw [← hR, gdF]; simp [*]) K
    refine Ev.iconst (v := 0) dX5_oddsNow_23 (by decide) ?_
    refine Ev.goto 28 dX5_oddsNow_24 (by decide) ?_
    refine Ev.iadd dX5_oddsNow_28 ?_
    refine Ev.ist3 dX5_oddsNow_29 rfl ?_
    refine Ev.iload_3 dX5_oddsNow_30 rfl ?_
    refine Ev.aload_0 dX5_oddsNow_31 rfl ?_
    refine Ev.iconst (v := 1) dX5_oddsNow_32 (by decide) ?_
    refine Ev.iload dX5_oddsNow_33 rfl ?_
    refine k_X5_anyLifts (m_anyLifts ok _ _) dX5_oddsNow_35 wl_X5_265 rfl (Nat.le_of_ble_eq_true rfl) ?_
    refine Ev.if_eq 45 dX5_oddsNow_38 (by decide) (fun h38 => ?_) (fun h38 => ?_)
    · refine Ev.iconst (v := 1) dX5_oddsNow_45 (by decide) ?_
      refine Ev.iadd dX5_oddsNow_46 ?_
      refine Ev.ist3 dX5_oddsNow_47 rfl ?_
      first | refine Ev.incn4 dX5_oddsNow_48 rfl ?_ | refine Ev.inc4 dX5_oddsNow_48 rfl ?_
      refine Ev.goto 5 dX5_oddsNow_51 (by decide) ?_
      exact ih (f + 1) _ R (by omega) (by rw [← hR, gdF]; simp [*]) K
    refine Ev.iconst (v := 0) dX5_oddsNow_41 (by decide) ?_
    refine Ev.goto 46 dX5_oddsNow_42 (by decide) ?_
    refine Ev.iadd dX5_oddsNow_46 ?_
    refine Ev.ist3 dX5_oddsNow_47 rfl ?_
    first | refine Ev.incn4 dX5_oddsNow_48 rfl ?_ | refine Ev.inc4 dX5_oddsNow_48 rfl ?_
    refine Ev.goto 5 dX5_oddsNow_51 (by decide) ?_
    exact ih (f + 1) _ R (by omega) (by rw [← hR, gdF]; simp [*]) K

set_option maxHeartbeats 4000000 in
set_option maxRecDepth 100000 in
theorem m_odds_2 {d : Nat} {g : Nat → Int32} {G : Nat → Int64} {F : Nat → Nat → Int32} {Q : Option Value → List Ce → Prop} {a : Nat} (ha : a ≤ 4) {z gd : Int32}  : ∀ (n : Nat) (j : Nat) (b c R S : Int32), j + n = a → powF gd n b = R → powF 20 n c = S → Ev (d + 4) yX5_oddsNow cX5_oddsNow (some .int) 88 [some (.ref 0), some (.int (nI a)), some (.int z), some (.int gd), some (.int R), some (.int S), some (.int (nI a))] [] (modW g G F) Q → Ev (d + 4) yX5_oddsNow cX5_oddsNow (some .int) 63 [some (.ref 0), some (.int (nI a)), some (.int z), some (.int gd), some (.int b), some (.int c), some (.int (nI j))] [] (modW g G F) Q := by
  intro n
  induction n with
  | zero =>
    intro j b c R S hk hR hS K
    have hk : j = a := by omega
    subst hk
    have hR : b = R := hR
    subst hR
    have hS : c = S := hS
    subst hS
    refine Ev.iload dX5_oddsNow_63 rfl ?_
    refine Ev.iload_1 dX5_oddsNow_65 rfl ?_
    refine Ev.icmp_ge 88 dX5_oddsNow_66 (by decide) (fun h66 => ?_) (fun h66 => ?_)
    · exact K
    · exact absurd (Int32.le_refl _) h66
  | succ n ih =>
    intro j b c R S hk hR hS K
    refine Ev.iload dX5_oddsNow_63 rfl ?_
    refine Ev.iload_1 dX5_oddsNow_65 rfl ?_
    refine Ev.icmp_ge 88 dX5_oddsNow_66 (by decide) (fun h66 => ?_) (fun h66 => ?_)
    · exact absurd h66 (lp_ge (N := a) rfl (by omega) (by omega))
    refine Ev.iload dX5_oddsNow_69 rfl ?_
    refine Ev.iload_3 dX5_oddsNow_71 rfl ?_
    refine Ev.imul dX5_oddsNow_72 ?_
    refine Ev.ist4 dX5_oddsNow_73 rfl ?_
    refine Ev.iload dX5_oddsNow_75 rfl ?_
    refine Ev.bipush (v := 20) dX5_oddsNow_77 (by decide) ?_
    refine Ev.imul dX5_oddsNow_79 ?_
    refine Ev.ist5 dX5_oddsNow_80 rfl ?_
    first | refine Ev.incn6 dX5_oddsNow_82 rfl ?_ | refine Ev.inc6 dX5_oddsNow_82 rfl ?_
    refine Ev.goto 63 dX5_oddsNow_85 (by decide) ?_
    exact ih (j + 1) _ _ R S (by omega) (by rw [← hR]; rfl) (by rw [← hS]; rfl) K

theorem gcd_ne {x y : Nat} (hy : 0 < y) (h2 : y < 2 ^ 31) : ¬ nI (Nat.gcd x y) = 0 := nI_ne0 (Nat.gcd_pos_of_pos_right x hy) (by have := Nat.gcd_le_right x hy; omega)
theorem pw_le {gd a : Nat} (hg : gd ≤ 20) (ha : a ≤ 4) : gd ^ a ≤ 160000 ∧ 20 ^ a ≤ 160000 ∧ 0 < 20 ^ a := by
  have h1 : gd ^ a ≤ 20 ^ a := Nat.pow_le_pow_left hg a
  have h2 : 20 ^ a ≤ 20 ^ 4 := Nat.pow_le_pow_right (by omega) ha
  have h3 : 0 < 20 ^ a := Nat.pow_pos (by omega)
  omega

set_option maxHeartbeats 4000000 in
set_option maxRecDepth 100000 in
theorem m_oddsNow_0 {d : Nat} {g : Nat → Int32} {G : Nat → Int64} {F : Nat → Nat → Int32} {V N : Nat} (ok : MOK g F V N) {gd a : Nat} (ha : a ≤ 4) (hg : gdF (vM F) V N 10 0 0 = nI gd) (hg2 : gd ≤ 20) : Ev (d + 4) yX5_oddsNow cX5_oddsNow (some .int) 0 [some (.ref 0), some (.int (nI a)), some (.int 0), none, none, none, none] [] (modW g G F) (Is (some (.int (nI (gd ^ a / Nat.gcd (gd ^ a) (20 ^ a))))) (modW g G F)) := by
  obtain ⟨q1, q2, q3⟩ := pw_le hg2 ha
  have q4 : 0 < Nat.gcd (gd ^ a) (20 ^ a) := Nat.gcd_pos_of_pos_right _ q3
  have q5 := Nat.gcd_le_right (gd ^ a) q3
  refine Ev.iconst (v := 0) dX5_oddsNow_0 (by decide) ?_
  refine Ev.ist3 dX5_oddsNow_1 rfl ?_
  refine Ev.iconst (v := 0) dX5_oddsNow_2 (by decide) ?_
  refine Ev.ist4 dX5_oddsNow_3 rfl ?_
  refine m_odds_1 ok 10 0 _ _ (by omega) rfl ?_
  rw [hg]
  refine Ev.iconst (v := 1) dX5_oddsNow_54 (by decide) ?_
  refine Ev.ist4 dX5_oddsNow_55 rfl ?_
  refine Ev.iconst (v := 1) dX5_oddsNow_57 (by decide) ?_
  refine Ev.ist5 dX5_oddsNow_58 rfl ?_
  refine Ev.iconst (v := 0) dX5_oddsNow_60 (by decide) ?_
  refine Ev.ist6 dX5_oddsNow_61 rfl ?_
  refine m_odds_2 ha a 0 _ _ (nI (gd ^ a)) (nI (20 ^ a)) (by omega) (by have := powF_nI (x := gd) a 1; rw [Nat.one_mul] at this; exact this) (by have := powF_nI (x := 20) a 1; rw [Nat.one_mul] at this; exact this) ?_
  refine Ev.iload dX5_oddsNow_88 rfl ?_
  refine Ev.iload dX5_oddsNow_90 rfl ?_
  refine k_X5_divisor (m_divisor (by omega) (by omega)) dX5_oddsNow_92 wl_X5_268 (Nat.le_of_ble_eq_true rfl) ?_
  refine Ev.ist6 dX5_oddsNow_95 rfl ?_
  refine Ev.iload_2 dX5_oddsNow_97 rfl ?_
  refine Ev.if_ne 109 dX5_oddsNow_98 (by decide) (fun h98 => ?_) (fun h98 => ?_)
  · exact absurd rfl h98
  refine Ev.iload dX5_oddsNow_101 rfl ?_
  refine Ev.iload dX5_oddsNow_103 rfl ?_
  refine Ev.idiv dX5_oddsNow_105 (gcd_ne q3 (by omega)) ?_
  refine Ev.goto 114 dX5_oddsNow_106 (by decide) ?_
  rw [pk_div (by omega) q4 (by omega)]
  refine Ev.iret dX5_oddsNow_114 ?_
  exact ⟨rfl, rfl⟩

set_option maxHeartbeats 4000000 in
set_option maxRecDepth 100000 in
theorem m_oddsNow_1 {d : Nat} {g : Nat → Int32} {G : Nat → Int64} {F : Nat → Nat → Int32} {V N : Nat} (ok : MOK g F V N) {gd a : Nat} (ha : a ≤ 4) (hg : gdF (vM F) V N 10 0 0 = nI gd) (hg2 : gd ≤ 20) : Ev (d + 4) yX5_oddsNow cX5_oddsNow (some .int) 0 [some (.ref 0), some (.int (nI a)), some (.int 1), none, none, none, none] [] (modW g G F) (Is (some (.int (nI (20 ^ a / Nat.gcd (gd ^ a) (20 ^ a))))) (modW g G F)) := by
  obtain ⟨q1, q2, q3⟩ := pw_le hg2 ha
  have q4 : 0 < Nat.gcd (gd ^ a) (20 ^ a) := Nat.gcd_pos_of_pos_right _ q3
  have q5 := Nat.gcd_le_right (gd ^ a) q3
  refine Ev.iconst (v := 0) dX5_oddsNow_0 (by decide) ?_
  refine Ev.ist3 dX5_oddsNow_1 rfl ?_
  refine Ev.iconst (v := 0) dX5_oddsNow_2 (by decide) ?_
  refine Ev.ist4 dX5_oddsNow_3 rfl ?_
  refine m_odds_1 ok 10 0 _ _ (by omega) rfl ?_
  rw [hg]
  refine Ev.iconst (v := 1) dX5_oddsNow_54 (by decide) ?_
  refine Ev.ist4 dX5_oddsNow_55 rfl ?_
  refine Ev.iconst (v := 1) dX5_oddsNow_57 (by decide) ?_
  refine Ev.ist5 dX5_oddsNow_58 rfl ?_
  refine Ev.iconst (v := 0) dX5_oddsNow_60 (by decide) ?_
  refine Ev.ist6 dX5_oddsNow_61 rfl ?_
  refine m_odds_2 ha a 0 _ _ (nI (gd ^ a)) (nI (20 ^ a)) (by omega) (by have := powF_nI (x := gd) a 1; rw [Nat.one_mul] at this; exact this) (by have := powF_nI (x := 20) a 1; rw [Nat.one_mul] at this; exact this) ?_
  refine Ev.iload dX5_oddsNow_88 rfl ?_
  refine Ev.iload dX5_oddsNow_90 rfl ?_
  refine k_X5_divisor (m_divisor (by omega) (by omega)) dX5_oddsNow_92 wl_X5_268 (Nat.le_of_ble_eq_true rfl) ?_
  refine Ev.ist6 dX5_oddsNow_95 rfl ?_
  refine Ev.iload_2 dX5_oddsNow_97 rfl ?_
  refine Ev.if_ne 109 dX5_oddsNow_98 (by decide) (fun h98 => ?_) (fun h98 => ?_)
  · refine Ev.iload dX5_oddsNow_109 rfl ?_
    refine Ev.iload dX5_oddsNow_111 rfl ?_
    refine Ev.idiv dX5_oddsNow_113 (gcd_ne q3 (by omega)) ?_
    rw [pk_div (by omega) q4 (by omega)]
    refine Ev.iret dX5_oddsNow_114 ?_
    exact ⟨rfl, rfl⟩
  · exact absurd h98 (by decide)
