def MOK (g : Nat → Int32) (F : Nat → Nat → Int32) (V N : Nat) : Prop := g 1 = nI V ∧ g 2 = nI N ∧ V ≤ 4 ∧ N ≤ 5 ∧ ∀ k, k < N → F 6 k = -1 ∨ ∃ v, v < V ∧ F 6 k = nI v
def vM (F : Nat → Nat → Int32) : Nat → Nat → Int32 := fun a => F (a + 3)
def wtn (x lo hi : Int32) : Int32 := if x < lo then 0 else if hi < x then 0 else 1
def isin (set k : Int32) : Int32 := if (set >>> (k &&& 31)) &&& 1 = 1 then 1 else 0
def szF (b : Int32) : Nat → Nat → Int32 → Int32
  | 0, _, a => a
  | n + 1, k, a => szF b n (k + 1) (a + ((b >>> (nI k &&& 31)) &&& 1))
def siz (b : Int32) : Int32 := szF b 10 0 0
theorem nI_nm1 {k : Nat} (h : k ≤ 1000000) : ¬ nI k = -1 := by
  intro q
  have h1 := nI_pos (n := k) (by omega)
  rw [q] at h1
  exact h1 (by decide)
theorem up2_self (F : Nat → Nat → Int32) (a j : Nat) (x : Int32) : up2 (up2 F a j x) a j (F a j) = F := by
  funext b k
  by_cases hb : b = a
  · subst hb
    by_cases hk : k = j
    · subst hk; simp [up2, upd]
    · simp [up2, upd, hk]
  · simp [up2, hb]
theorem stb_le (h : Int32) : (if h / 5 ≤ 99 then h / 5 else 99) = stb h := by
  unfold stb
  by_cases h1 : h / 5 < 99
  · rw [if_pos h1, if_pos]
    rw [Int32.le_iff_toInt_le]; rw [Int32.lt_iff_toInt_lt] at h1; omega
  · rw [if_neg h1]
    by_cases h2 : h / 5 ≤ 99
    · rw [if_pos h2]
      apply Int32.toInt_inj.mp
      rw [Int32.le_iff_toInt_le] at h2; rw [Int32.lt_iff_toInt_lt] at h1; omega
    · rw [if_neg h2]
/-- the reference's leastOf -/
def mls (X : Nat → Nat → Int32) (N v : Nat) : Int32 := if stb (hld X N (-1) v 1) ≤ stb (hld X N (-1) v 0) then stb (hld X N (-1) v 1) else stb (hld X N (-1) v 0)
def mlaF (X : Nat → Nat → Int32) (N : Nat) : Nat → Nat → Int32 → Int32
  | 0, _, acc => acc
  | n + 1, v, acc => mlaF X N n (v + 1) (if acc ≤ mls X N v then acc else mls X N v)
def mla (X : Nat → Nat → Int32) (V N : Nat) : Int32 := if V = 0 then 0 else mlaF X N V 0 268435456
def osF (X : Nat → Nat → Int32) (set : Int32) : Nat → Nat → Int32 → Int32
  | 0, _, acc => acc
  | n + 1, k, acc => osF X set n (k + 1) (acc + (if isin set (nI k) = 0 then 0 else X 2 k))
def os (X : Nat → Nat → Int32) (N : Nat) (set : Int32) : Int32 := osF X set N 0 0
def pnF (X : Nat → Nat → Int32) : Nat → Nat → Int32 → Int32
  | 0, _, acc => acc
  | n + 1, k, acc => pnF X n (k + 1) (acc + (if X 3 k = -1 then 1 else 0))
def mkb (c : Int32) : Int32 := if c = 98 then 1 else if c = 99 then 2 else if c = 112 then 4 else if c = 115 then 3 else if c = 119 then 0 else -1

set_option maxHeartbeats 4000000 in
set_option maxRecDepth 100000 in
theorem m_within {d : Nat} {w : List Ce} (x lo hi : Int32) : Ev d yX5_within cX5_within (some .boolean) 0 [some (.int x), some (.int lo), some (.int hi)] [] w (Is (some (.int (wtn x lo hi))) w) := by
  refine Ev.iload_0 dX5_within_0 rfl ?_
  refine Ev.iload_1 dX5_within_1 rfl ?_
  refine Ev.icmp_lt 14 dX5_within_2 (by decide) (fun h2 => ?_) (fun h2 => ?_)
  · refine Ev.iconst (v := 0) dX5_within_14 (by decide) ?_
    refine Ev.zret dX5_within_15 (by decide) ?_
    exact ⟨by simp [wtn, *], rfl⟩
  refine Ev.iload_0 dX5_within_5 rfl ?_
  refine Ev.iload_2 dX5_within_6 rfl ?_
  refine Ev.icmp_gt 14 dX5_within_7 (by decide) (fun h7 => ?_) (fun h7 => ?_)
  · refine Ev.iconst (v := 0) dX5_within_14 (by decide) ?_
    refine Ev.zret dX5_within_15 (by decide) ?_
    exact ⟨by simp [wtn, *], rfl⟩
  refine Ev.iconst (v := 1) dX5_within_10 (by decide) ?_
  refine Ev.goto 15 dX5_within_11 (by decide) ?_
  refine Ev.zret dX5_within_15 (by decide) ?_
  exact ⟨by simp [wtn, *], rfl⟩

set_option maxHeartbeats 4000000 in
set_option maxRecDepth 100000 in
theorem m_isIn {d : Nat} {w : List Ce} (a b : Int32) : Ev d yX5_isIn cX5_isIn (some .boolean) 0 [some (.int a), some (.int b)] [] w (Is (some (.int (isin a b))) w) := by
  refine Ev.iload_0 dX5_isIn_0 rfl ?_
  refine Ev.iload_1 dX5_isIn_1 rfl ?_
  refine Ev.ishr dX5_isIn_2 ?_
  refine Ev.iconst (v := 1) dX5_isIn_3 (by decide) ?_
  refine Ev.iand dX5_isIn_4 ?_
  refine Ev.iconst (v := 1) dX5_isIn_5 (by decide) ?_
  refine Ev.icmp_ne 13 dX5_isIn_6 (by decide) (fun h6 => ?_) (fun h6 => ?_)
  · refine Ev.iconst (v := 0) dX5_isIn_13 (by decide) ?_
    refine Ev.zret dX5_isIn_14 (by decide) ?_
    exact ⟨by simp [isin, *], rfl⟩
  refine Ev.iconst (v := 1) dX5_isIn_9 (by decide) ?_
  refine Ev.goto 14 dX5_isIn_10 (by decide) ?_
  refine Ev.zret dX5_isIn_14 (by decide) ?_
  exact ⟨by simp [isin, *], rfl⟩

set_option maxHeartbeats 4000000 in
set_option maxRecDepth 100000 in
theorem m_size_loop {d : Nat} {w : List Ce} {Q : Option Value → List Ce → Prop} {b : Int32}  : ∀ (n : Nat) (k : Nat) (a R : Int32), k + n = 10 → szF b n k a = R → Ev d yX5_size cX5_size (some .int) 24 [some (.int b), some (.int R), some (.int (nI 10))] [] w Q → Ev d yX5_size cX5_size (some .int) 4 [some (.int b), some (.int a), some (.int (nI k))] [] w Q := by
  intro n
  induction n with
  | zero =>
    intro k a R hk hR K
    have hk : k = 10 := by omega
    subst hk
    have hR : a = R := hR
    subst hR
    refine Ev.iload_2 dX5_size_4 rfl ?_
    refine Ev.bipush (v := 10) dX5_size_5 (by decide) ?_
    refine Ev.icmp_ge 24 dX5_size_7 (by decide) (fun h7 => ?_) (fun h7 => ?_)
    · exact K
    · exact absurd (lp_le (x := 10) (N := 10) rfl (by omega) (by omega)) h7
  | succ n ih =>
    intro k a R hk hR K
    refine Ev.iload_2 dX5_size_4 rfl ?_
    refine Ev.bipush (v := 10) dX5_size_5 (by decide) ?_
    refine Ev.icmp_ge 24 dX5_size_7 (by decide) (fun h7 => ?_) (fun h7 => ?_)
    · exact absurd h7 (lp_ge (x := 10) (N := 10) rfl (by omega) (by omega))
    refine Ev.iload_1 dX5_size_10 rfl ?_
    refine Ev.iload_0 dX5_size_11 rfl ?_
    refine Ev.iload_2 dX5_size_12 rfl ?_
    refine Ev.ishr dX5_size_13 ?_
    refine Ev.iconst (v := 1) dX5_size_14 (by decide) ?_
    refine Ev.iand dX5_size_15 ?_
    refine Ev.iadd dX5_size_16 ?_
    refine Ev.ist1 dX5_size_17 rfl ?_
    first | refine Ev.incn2 dX5_size_18 rfl ?_ | refine Ev.inc2 dX5_size_18 rfl ?_
    refine Ev.goto 4 dX5_size_21 (by decide) ?_
    exact ih (k + 1) _ R (by omega) (by rw [← hR]; rfl) K

set_option maxHeartbeats 4000000 in
set_option maxRecDepth 100000 in
theorem m_size {d : Nat} {w : List Ce} (b : Int32) : Ev d yX5_size cX5_size (some .int) 0 [some (.int b), none, none] [] w (Is (some (.int (siz b))) w) := by
  refine Ev.iconst (v := 0) dX5_size_0 (by decide) ?_
  refine Ev.ist1 dX5_size_1 rfl ?_
  refine Ev.iconst (v := 0) dX5_size_2 (by decide) ?_
  refine Ev.ist2 dX5_size_3 rfl ?_
  exact m_size_loop 10 0 _ _ (by omega) rfl (Ev.iload_1 dX5_size_24 rfl (Ev.iret dX5_size_25 ⟨rfl, rfl⟩))

set_option maxHeartbeats 4000000 in
set_option maxRecDepth 100000 in
theorem m_div_loop {d : Nat} {w : List Ce} {a b : Int32} (y : Nat) : ∀ (x R : Nat) (z : Option Value), lok [some (.int a), some (.int b), some (.int (nI x)), some (.int (nI y)), z] 4 = true → x < 2 ^ 31 → y < 2 ^ 31 → Nat.gcd x y = R → Ev d yX5_divisor cX5_divisor (some .int) 4 [some (.int a), some (.int b), some (.int (nI x)), some (.int (nI y)), z] [] w (Is (some (.int (nI R))) w) := by
  induction y using Nat.strongRecOn with
  | _ y ih =>
  intro x R z hz hx hyl hR
  refine Ev.iload_3 dX5_divisor_4 rfl ?_
  refine Ev.if_eq 21 dX5_divisor_5 (by decide) (fun h5 => ?_) (fun h5 => ?_)
  · have hy : y = 0 := by
      by_cases q : y = 0
      · exact q
      · exact absurd h5 (nI_ne0 (by omega) (by omega))
    subst hy
    refine Ev.iload_2 dX5_divisor_21 rfl ?_
    refine Ev.iret dX5_divisor_22 ?_
    exact ⟨by rw [← hR, Nat.gcd_zero_right], rfl⟩
  have hy : 0 < y := by
    by_cases q : y = 0
    · subst q; exact absurd rfl h5
    · omega
  refine Ev.iload_2 dX5_divisor_8 rfl ?_
  refine Ev.iload_3 dX5_divisor_9 rfl ?_
  refine Ev.irem dX5_divisor_10 (nI_ne0 hy (by omega)) ?_
  rw [pk_rem (by omega) hy (by omega)]
  refine Ev.ist4 dX5_divisor_11 rfl ?_
  refine Ev.iload_3 dX5_divisor_13 rfl ?_
  refine Ev.ist2 dX5_divisor_14 rfl ?_
  refine Ev.iload dX5_divisor_15 rfl ?_
  refine Ev.ist3 dX5_divisor_17 rfl ?_
  refine Ev.goto 4 dX5_divisor_18 (by decide) ?_
  exact ih (x % y) (Nat.mod_lt x hy) y R _ rfl (by omega) (by have := Nat.mod_lt x hy; omega) (by rw [← hR, Nat.gcd_comm x y, Nat.gcd_rec y x]; exact Nat.gcd_comm _ _)

set_option maxHeartbeats 4000000 in
set_option maxRecDepth 100000 in
theorem m_divisor {d : Nat} {w : List Ce} {x y : Nat} (hx : x < 2 ^ 31) (hy : y < 2 ^ 31) : Ev d yX5_divisor cX5_divisor (some .int) 0 [some (.int (nI x)), some (.int (nI y)), none, none, none] [] w (Is (some (.int (nI (Nat.gcd x y)))) w) := by
  refine Ev.iload_0 dX5_divisor_0 rfl ?_
  refine Ev.ist2 dX5_divisor_1 rfl ?_
  refine Ev.iload_1 dX5_divisor_2 rfl ?_
  refine Ev.ist3 dX5_divisor_3 rfl ?_
  exact m_div_loop y x _ _ rfl hx hy rfl

set_option maxHeartbeats 4000000 in
set_option maxRecDepth 100000 in
theorem m_kindBy {d : Nat} {w : List Ce} (c : Int32) : Ev d yX5_kindBy cX5_kindBy (some .int) 0 [some (.int c)] [] w (Is (some (.int (mkb c))) w) := by
  refine Ev.iload_0 dX5_kindBy_0 rfl ?_
  by_cases hs1_98 : c = 98
  · subst hs1_98
    refine Ev.lookup 54 dX5_kindBy_1 (by decide) (off := 53) (by decide) (by decide) ?_
    refine Ev.iconst (v := 1) dX5_kindBy_54 (by decide) ?_
    refine Ev.iret dX5_kindBy_55 ?_
    exact ⟨by simp [mkb, *], rfl⟩
  by_cases hs1_99 : c = 99
  · subst hs1_99
    refine Ev.lookup 56 dX5_kindBy_1 (by decide) (off := 55) (by decide) (by decide) ?_
    refine Ev.iconst (v := 2) dX5_kindBy_56 (by decide) ?_
    refine Ev.iret dX5_kindBy_57 ?_
    exact ⟨by simp [mkb, *], rfl⟩
  by_cases hs1_112 : c = 112
  · subst hs1_112
    refine Ev.lookup 60 dX5_kindBy_1 (by decide) (off := 59) (by decide) (by decide) ?_
    refine Ev.iconst (v := 4) dX5_kindBy_60 (by decide) ?_
    refine Ev.iret dX5_kindBy_61 ?_
    exact ⟨by simp [mkb, *], rfl⟩
  by_cases hs1_115 : c = 115
  · subst hs1_115
    refine Ev.lookup 58 dX5_kindBy_1 (by decide) (off := 57) (by decide) (by decide) ?_
    refine Ev.iconst (v := 3) dX5_kindBy_58 (by decide) ?_
    refine Ev.iret dX5_kindBy_59 ?_
    exact ⟨by simp [mkb, *], rfl⟩
  by_cases hs1_119 : c = 119
  · subst hs1_119
    refine Ev.lookup 52 dX5_kindBy_1 (by decide) (off := 51) (by decide) (by decide) ?_
    refine Ev.iconst (v := 0) dX5_kindBy_52 (by decide) ?_
    refine Ev.iret dX5_kindBy_53 ?_
    exact ⟨by simp [mkb, *], rfl⟩
  refine Ev.lookup 62 dX5_kindBy_1 (by decide) (off := 61) (by show Op.lookupswitch.offset [(98, 53), (99, 55), (112, 59), (115, 57), (119, 51)] _ _ = _; rw [lv_osw hs1_98 (by decide)]; rw [lv_osw hs1_99 (by decide)]; rw [lv_osw hs1_112 (by decide)]; rw [lv_osw hs1_115 (by decide)]; rw [lv_osw hs1_119 (by decide)]; rfl) (by decide) ?_
  refine Ev.iconst (v := -1) dX5_kindBy_62 (by decide) ?_
  refine Ev.iret dX5_kindBy_63 ?_
  exact ⟨by simp [mkb, *], rfl⟩

set_option maxHeartbeats 4000000 in
set_option maxRecDepth 100000 in
theorem m_arm {d : Nat} {w : List Ce} (side p : Int32) : Ev d yX5_arm cX5_arm (some .int) 0 [some (.int side), some (.int p)] [] w (Is (some (.int (lev p side))) w) := by
  refine Ev.iload_0 dX5_arm_0 rfl ?_
  refine Ev.if_ne 10 dX5_arm_1 (by decide) (fun h1 => ?_) (fun h1 => ?_)
  · refine Ev.iload_1 dX5_arm_10 rfl ?_
    refine Ev.iconst (v := 1) dX5_arm_11 (by decide) ?_
    refine Ev.iadd dX5_arm_12 ?_
    refine Ev.iret dX5_arm_13 ?_
    exact ⟨by simp [lev, *], rfl⟩
  refine Ev.iconst (v := 5) dX5_arm_4 (by decide) ?_
  refine Ev.iload_1 dX5_arm_5 rfl ?_
  refine Ev.isub dX5_arm_6 ?_
  refine Ev.goto 13 dX5_arm_7 (by decide) ?_
  refine Ev.iret dX5_arm_13 ?_
  exact ⟨by simp [lev, *], rfl⟩

set_option maxHeartbeats 4000000 in
set_option maxRecDepth 100000 in
theorem m_bareBears {d : Nat} {w : List Ce} (k z : Int32) : Ev d yX5_bareBears cX5_bareBears (some .int) 0 [some (.int k), some (.int z)] [] w (Is (some (.int (if k = 1 then 2 * z else if k = 4 then 100 else z))) w) := by
  refine Ev.iload_0 dX5_bareBears_0 rfl ?_
  refine Ev.iconst (v := 1) dX5_bareBears_1 (by decide) ?_
  refine Ev.icmp_ne 11 dX5_bareBears_2 (by decide) (fun h2 => ?_) (fun h2 => ?_)
  · refine Ev.iload_0 dX5_bareBears_11 rfl ?_
    refine Ev.iconst (v := 4) dX5_bareBears_12 (by decide) ?_
    refine Ev.icmp_ne 21 dX5_bareBears_13 (by decide) (fun h13 => ?_) (fun h13 => ?_)
    · refine Ev.iload_1 dX5_bareBears_21 rfl ?_
      refine Ev.iret dX5_bareBears_22 ?_
      exact ⟨by simp [*], rfl⟩
    refine Ev.bipush (v := 100) dX5_bareBears_16 (by decide) ?_
    refine Ev.goto 22 dX5_bareBears_18 (by decide) ?_
    refine Ev.iret dX5_bareBears_22 ?_
    exact ⟨by simp [*], rfl⟩
  refine Ev.iconst (v := 2) dX5_bareBears_5 (by decide) ?_
  refine Ev.iload_1 dX5_bareBears_6 rfl ?_
  refine Ev.imul dX5_bareBears_7 ?_
  refine Ev.goto 22 dX5_bareBears_8 (by decide) ?_
  refine Ev.iret dX5_bareBears_22 ?_
  exact ⟨by simp [*], rfl⟩

set_option maxHeartbeats 4000000 in
set_option maxRecDepth 100000 in
theorem m_standBy {d : Nat} {w : List Ce} (a : Int32) : Ev d yX5_standBy cX5_standBy (some .int) 0 [some (.int a)] [] w (Is (some (.int (stb a))) w) := by
  rw [← stb_le]
  refine Ev.iload_0 dX5_standBy_0 rfl ?_
  refine Ev.iconst (v := 5) dX5_standBy_1 (by decide) ?_
  refine Ev.idiv dX5_standBy_2 (by decide) ?_
  refine Ev.bipush (v := 99) dX5_standBy_3 (by decide) ?_
  refine Ev.icmp_le 13 dX5_standBy_5 (by decide) (fun h5 => ?_) (fun h5 => ?_)
  · refine Ev.iload_0 dX5_standBy_13 rfl ?_
    refine Ev.iconst (v := 5) dX5_standBy_14 (by decide) ?_
    refine Ev.idiv dX5_standBy_15 (by decide) ?_
    refine Ev.iret dX5_standBy_16 ?_
    exact ⟨by simp [*], rfl⟩
  refine Ev.bipush (v := 99) dX5_standBy_8 (by decide) ?_
  refine Ev.goto 16 dX5_standBy_10 (by decide) ?_
  refine Ev.iret dX5_standBy_16 ?_
  exact ⟨by simp [*], rfl⟩

theorem wtn_t {x N : Nat} (hx : x < N) (hN : N ≤ 1000) : wtn (nI x) 0 (nI N - 1) = 1 := by
  obtain ⟨M, rfl⟩ : ∃ M, N = M + 1 := ⟨N - 1, by omega⟩
  rw [nI_pred]
  unfold wtn
  rw [if_neg (nI_pos (by omega)), if_neg (nI_nlt (by omega) (by omega))]
theorem wtn_f {x : Int32} {N : Nat} (hx : ∀ w, w < N → x ≠ nI w) (hN : N ≤ 1000) : wtn x 0 (nI N - 1) = 0 := by
  unfold wtn
  by_cases h1 : x < 0
  · rw [if_pos h1]
  · rw [if_neg h1]
    by_cases h2 : nI N - 1 < x
    · rw [if_pos h2]
    · rw [if_neg h2]
      exfalso
      have h3 : ¬ nI N ≤ x := by
        intro q
        apply h2
        rw [Int32.lt_iff_toInt_lt]
        rw [Int32.le_iff_toInt_le, nI_toInt (by omega)] at q
        have e : (nI N - 1).toInt = (N : Int) - 1 := by
          rw [show (1 : Int32) = nI 1 from rfl, pk_sub_toInt (by omega) (by omega)]; rfl
        omega
      obtain ⟨w, hw, e⟩ := isw_ex h1 h3 (by omega)
      exact hx w hw e

set_option maxHeartbeats 4000000 in
set_option maxRecDepth 100000 in
theorem m_isWeight_t {d : Nat} {g : Nat → Int32} {G : Nat → Int64} {F : Nat → Nat → Int32} {V N : Nat} (ok : MOK g F V N) {w : Nat} (hw : w < N) : Ev (d + 1) yX5_isWeight cX5_isWeight (some .boolean) 0 [some (.ref 0), some (.int (nI w))] [] (modW g G F) (Is (some (.int (1))) (modW g G F)) := by
  refine Ev.iload_1 dX5_isWeight_0 rfl ?_
  refine Ev.iconst (v := 0) dX5_isWeight_1 (by decide) ?_
  refine Ev.aload_0 dX5_isWeight_2 rfl ?_
  refine Ev.getf cf5 2 (by decide) wf_X5_134 dX5_isWeight_3 rfl rfl ?_
  refine Ev.iconst (v := 1) dX5_isWeight_6 (by decide) ?_
  refine Ev.isub dX5_isWeight_7 ?_
  rw [ok.2.1]
  refine k_X5_within (m_within _ _ _) dX5_isWeight_8 wl_X5_96 (Nat.le_of_ble_eq_true rfl) ?_
  rw [wtn_t hw (by have := ok.2.2.2.1; omega)]
  refine Ev.zret dX5_isWeight_11 (by decide) ?_
  exact ⟨rfl, rfl⟩

set_option maxHeartbeats 4000000 in
set_option maxRecDepth 100000 in
theorem m_isWeight_f {d : Nat} {g : Nat → Int32} {G : Nat → Int64} {F : Nat → Nat → Int32} {V N : Nat} (ok : MOK g F V N) {x : Int32} (hx : ∀ w, w < N → x ≠ nI w) : Ev (d + 1) yX5_isWeight cX5_isWeight (some .boolean) 0 [some (.ref 0), some (.int x)] [] (modW g G F) (Is (some (.int (0))) (modW g G F)) := by
  refine Ev.iload_1 dX5_isWeight_0 rfl ?_
  refine Ev.iconst (v := 0) dX5_isWeight_1 (by decide) ?_
  refine Ev.aload_0 dX5_isWeight_2 rfl ?_
  refine Ev.getf cf5 2 (by decide) wf_X5_134 dX5_isWeight_3 rfl rfl ?_
  refine Ev.iconst (v := 1) dX5_isWeight_6 (by decide) ?_
  refine Ev.isub dX5_isWeight_7 ?_
  rw [ok.2.1]
  refine k_X5_within (m_within _ _ _) dX5_isWeight_8 wl_X5_96 (Nat.le_of_ble_eq_true rfl) ?_
  rw [wtn_f hx (by have := ok.2.2.2.1; omega)]
  refine Ev.zret dX5_isWeight_11 (by decide) ?_
  exact ⟨rfl, rfl⟩

set_option maxHeartbeats 4000000 in
set_option maxRecDepth 100000 in
theorem m_isVillage_t {d : Nat} {g : Nat → Int32} {G : Nat → Int64} {F : Nat → Nat → Int32} {V N : Nat} (ok : MOK g F V N) {w : Nat} (hw : w < V) : Ev (d + 1) yX5_isVillage cX5_isVillage (some .boolean) 0 [some (.ref 0), some (.int (nI w))] [] (modW g G F) (Is (some (.int (1))) (modW g G F)) := by
  refine Ev.iload_1 dX5_isVillage_0 rfl ?_
  refine Ev.iconst (v := 0) dX5_isVillage_1 (by decide) ?_
  refine Ev.aload_0 dX5_isVillage_2 rfl ?_
  refine Ev.getf cf5 1 (by decide) wf_X5_131 dX5_isVillage_3 rfl rfl ?_
  refine Ev.iconst (v := 1) dX5_isVillage_6 (by decide) ?_
  refine Ev.isub dX5_isVillage_7 ?_
  rw [ok.1]
  refine k_X5_within (m_within _ _ _) dX5_isVillage_8 wl_X5_96 (Nat.le_of_ble_eq_true rfl) ?_
  rw [wtn_t hw (by have := ok.2.2.1; omega)]
  refine Ev.zret dX5_isVillage_11 (by decide) ?_
  exact ⟨rfl, rfl⟩

set_option maxHeartbeats 4000000 in
set_option maxRecDepth 100000 in
theorem m_isVillage_f {d : Nat} {g : Nat → Int32} {G : Nat → Int64} {F : Nat → Nat → Int32} {V N : Nat} (ok : MOK g F V N) {x : Int32} (hx : ∀ w, w < V → x ≠ nI w) : Ev (d + 1) yX5_isVillage cX5_isVillage (some .boolean) 0 [some (.ref 0), some (.int x)] [] (modW g G F) (Is (some (.int (0))) (modW g G F)) := by
  refine Ev.iload_1 dX5_isVillage_0 rfl ?_
  refine Ev.iconst (v := 0) dX5_isVillage_1 (by decide) ?_
  refine Ev.aload_0 dX5_isVillage_2 rfl ?_
  refine Ev.getf cf5 1 (by decide) wf_X5_131 dX5_isVillage_3 rfl rfl ?_
  refine Ev.iconst (v := 1) dX5_isVillage_6 (by decide) ?_
  refine Ev.isub dX5_isVillage_7 ?_
  rw [ok.1]
  refine k_X5_within (m_within _ _ _) dX5_isVillage_8 wl_X5_96 (Nat.le_of_ble_eq_true rfl) ?_
  rw [wtn_f hx (by have := ok.2.2.1; omega)]
  refine Ev.zret dX5_isVillage_11 (by decide) ?_
  exact ⟨rfl, rfl⟩

theorem wtn_c {x hi : Nat} (h : x ≤ hi) (h2 : hi ≤ 1000) : wtn (nI x) 0 (nI hi) = 1 := by
  unfold wtn
  rw [if_neg (nI_pos (by omega)), if_neg (nI_nlt h (by omega))]
theorem wtn_0 {x lo hi : Int32} : wtn x lo hi = 0 ∨ wtn x lo hi = 1 := by
  unfold wtn
  split
  · exact Or.inl rfl
  · split
    · exact Or.inl rfl
    · exact Or.inr rfl
theorem wtn_1 {x lo hi : Int32} (h : ¬ wtn x lo hi = 0) : ¬ x < lo ∧ ¬ hi < x := by
  unfold wtn at h
  constructor
  · intro q; rw [if_pos q] at h; exact h rfl
  · intro q
    by_cases q2 : x < lo
    · rw [if_pos q2] at h; exact h rfl
    · rw [if_neg q2, if_pos q] at h; exact h rfl
theorem wtn_is1 {x lo hi : Int32} (h1 : ¬ x < lo) (h2 : ¬ hi < x) : wtn x lo hi = 1 := by
  unfold wtn; rw [if_neg h1, if_neg h2]
theorem wtn_is0 {x lo hi : Int32} (h : x < lo ∨ hi < x) : wtn x lo hi = 0 := by
  unfold wtn
  rcases h with h | h
  · rw [if_pos h]
  · split
    · rfl
    · first | rfl | rw [if_pos h]

set_option maxHeartbeats 4000000 in
set_option maxRecDepth 100000 in
theorem m_isWind_t {d : Nat} {w : List Ce} {a b : Nat} (ha : a < 2) (hb : b < 100) : Ev (d + 1) yX5_isWind cX5_isWind (some .boolean) 0 [some (.int (nI a)), some (.int (nI b))] [] w (Is (some (.int 1)) w) := by
  refine Ev.iload_0 dX5_isWind_0 rfl ?_
  refine Ev.iconst (v := 0) dX5_isWind_1 (by decide) ?_
  refine Ev.iconst (v := 1) dX5_isWind_2 (by decide) ?_
  refine k_X5_within (m_within _ _ _) dX5_isWind_3 wl_X5_96 (Nat.le_of_ble_eq_true rfl) ?_
  rw [show wtn (nI a) 0 1 = 1 from wtn_c (hi := 1) (by omega) (by omega)]
  refine Ev.if_eq 23 dX5_isWind_6 (by decide) (fun hcst => ?_) (fun hcst => ?_)
  · exact absurd hcst (by decide)
  refine Ev.iload_1 dX5_isWind_9 rfl ?_
  refine Ev.iconst (v := 0) dX5_isWind_10 (by decide) ?_
  refine Ev.bipush (v := 99) dX5_isWind_11 (by decide) ?_
  refine k_X5_within (m_within _ _ _) dX5_isWind_13 wl_X5_96 (Nat.le_of_ble_eq_true rfl) ?_
  rw [show wtn (nI b) 0 99 = 1 from wtn_c (hi := 99) (by omega) (by omega)]
  refine Ev.if_eq 23 dX5_isWind_16 (by decide) (fun hcst => ?_) (fun hcst => ?_)
  · exact absurd hcst (by decide)
  refine Ev.iconst (v := 1) dX5_isWind_19 (by decide) ?_
  refine Ev.goto 24 dX5_isWind_20 (by decide) ?_
  refine Ev.zret dX5_isWind_24 (by decide) ?_
  exact ⟨rfl, rfl⟩

theorem le1 {y : Int32} (h : ¬ 1 < y) : ¬ nI 2 ≤ y := by
  intro q
  apply h
  have q := Int32.le_iff_toInt_le.mp q
  rw [Int32.lt_iff_toInt_lt]
  have e1 : (nI 2).toInt = 2 := by decide
  have e2 : (1 : Int32).toInt = 1 := by decide
  omega

set_option maxHeartbeats 4000000 in
set_option maxRecDepth 100000 in
theorem m_isWind_f {d : Nat} {w : List Ce} {x y : Int32} (hx : ∀ a b, a < 2 → b < 100 → ¬ (x = nI a ∧ y = nI b)) : Ev (d + 1) yX5_isWind cX5_isWind (some .boolean) 0 [some (.int x), some (.int y)] [] w (Is (some (.int 0)) w) := by
  refine Ev.iload_0 dX5_isWind_0 rfl ?_
  refine Ev.iconst (v := 0) dX5_isWind_1 (by decide) ?_
  refine Ev.iconst (v := 1) dX5_isWind_2 (by decide) ?_
  refine k_X5_within (m_within _ _ _) dX5_isWind_3 wl_X5_96 (Nat.le_of_ble_eq_true rfl) ?_
  refine Ev.if_eq 23 dX5_isWind_6 (by decide) (fun h6 => ?_) (fun h6 => ?_)
  · refine Ev.iconst (v := 0) dX5_isWind_23 (by decide) ?_
    refine Ev.zret dX5_isWind_24 (by decide) ?_
    exact ⟨rfl, rfl⟩
  refine Ev.iload_1 dX5_isWind_9 rfl ?_
  refine Ev.iconst (v := 0) dX5_isWind_10 (by decide) ?_
  refine Ev.bipush (v := 99) dX5_isWind_11 (by decide) ?_
  refine k_X5_within (m_within _ _ _) dX5_isWind_13 wl_X5_96 (Nat.le_of_ble_eq_true rfl) ?_
  refine Ev.if_eq 23 dX5_isWind_16 (by decide) (fun h16 => ?_) (fun h16 => ?_)
  · refine Ev.iconst (v := 0) dX5_isWind_23 (by decide) ?_
    refine Ev.zret dX5_isWind_24 (by decide) ?_
    exact ⟨rfl, rfl⟩
  · obtain ⟨p1, p2⟩ := wtn_1 h6
    obtain ⟨p3, p4⟩ := wtn_1 h16
    obtain ⟨a, ha, e1⟩ := isw_ex (N := 2) p1 (le1 p2) (by omega)
    obtain ⟨b, hb, e2⟩ := isw_ex (N := 100) p3 (le99 p4) (by omega)
    exact absurd ⟨e1, e2⟩ (hx a b ha hb)

set_option maxHeartbeats 4000000 in
set_option maxRecDepth 100000 in
theorem m_bears {d : Nat} {g : Nat → Int32} {G : Nat → Int64} {F : Nat → Nat → Int32} {w : Nat} (hw : w < 5) : Ev d yX5_bears cX5_bears (some .int) 0 [some (.ref 0), some (.int (nI w))] [] (modW g G F) (Is (some (.int (bear (F 4 w) (F 5 w) (F 8 w)))) (modW g G F)) := by
  refine Ev.aload_0 dX5_bears_0 rfl ?_
  refine Ev.getf cf5 4 (by decide) wf_X5_13 dX5_bears_1 rfl rfl ?_
  refine Ev.iload_1 dX5_bears_4 rfl ?_
  refine Ev.aldn dX5_bears_5 rfl (by omega) (by decide) ?_
  by_cases hs6_1 : F 4 w = 1
  · rw [hs6_1]
    refine Ev.tableIn 36 dX5_bears_6 (by decide) (by decide) rfl (by decide) ?_
    refine Ev.iconst (v := 2) dX5_bears_36 (by decide) ?_
    refine Ev.aload_0 dX5_bears_37 rfl ?_
    refine Ev.getf cf5 5 (by decide) wf_X5_16 dX5_bears_38 rfl rfl ?_
    refine Ev.iload_1 dX5_bears_41 rfl ?_
    refine Ev.aldn dX5_bears_42 rfl (by omega) (by decide) ?_
    refine Ev.imul dX5_bears_43 ?_
    refine Ev.iret dX5_bears_44 ?_
    exact ⟨by simp [bear, *], rfl⟩
  by_cases hs6_2 : F 4 w = 2
  · rw [hs6_2]
    refine Ev.tableIn 62 dX5_bears_6 (by decide) (by decide) rfl (by decide) ?_
    refine Ev.aload_0 dX5_bears_62 rfl ?_
    refine Ev.getf cf5 5 (by decide) wf_X5_16 dX5_bears_63 rfl rfl ?_
    refine Ev.iload_1 dX5_bears_66 rfl ?_
    refine Ev.aldn dX5_bears_67 rfl (by omega) (by decide) ?_
    refine Ev.iret dX5_bears_68 ?_
    exact ⟨by simp [bear, *], rfl⟩
  by_cases hs6_3 : F 4 w = 3
  · rw [hs6_3]
    refine Ev.tableIn 45 dX5_bears_6 (by decide) (by decide) rfl (by decide) ?_
    refine Ev.aload_0 dX5_bears_45 rfl ?_
    refine Ev.getf cf5 5 (by decide) wf_X5_16 dX5_bears_46 rfl rfl ?_
    refine Ev.iload_1 dX5_bears_49 rfl ?_
    refine Ev.aldn dX5_bears_50 rfl (by omega) (by decide) ?_
    refine Ev.aload_0 dX5_bears_51 rfl ?_
    refine Ev.getf cf5 8 (by decide) wf_X5_25 dX5_bears_52 rfl rfl ?_
    refine Ev.iload_1 dX5_bears_55 rfl ?_
    refine Ev.aldn dX5_bears_56 rfl (by omega) (by decide) ?_
    refine Ev.iadd dX5_bears_57 ?_
    refine Ev.iret dX5_bears_58 ?_
    exact ⟨by simp [bear, *], rfl⟩
  by_cases hs6_4 : F 4 w = 4
  · rw [hs6_4]
    refine Ev.tableIn 59 dX5_bears_6 (by decide) (by decide) rfl (by decide) ?_
    refine Ev.bipush (v := 100) dX5_bears_59 (by decide) ?_
    refine Ev.iret dX5_bears_61 ?_
    exact ⟨by simp [bear, *], rfl⟩
  refine Ev.tableOut 62 dX5_bears_6 (by have q1 := lv_neT hs6_1 (a := 1) (by decide); have q2 := lv_neT hs6_2 (a := 2) (by decide); have q3 := lv_neT hs6_3 (a := 3) (by decide); have q4 := lv_neT hs6_4 (a := 4) (by decide); omega) (by decide) ?_
  refine Ev.aload_0 dX5_bears_62 rfl ?_
  refine Ev.getf cf5 5 (by decide) wf_X5_16 dX5_bears_63 rfl rfl ?_
  refine Ev.iload_1 dX5_bears_66 rfl ?_
  refine Ev.aldn dX5_bears_67 rfl (by omega) (by decide) ?_
  refine Ev.iret dX5_bears_68 ?_
  exact ⟨by simp [bear, *], rfl⟩

set_option maxHeartbeats 4000000 in
set_option maxRecDepth 100000 in
theorem m_hold_loop {d : Nat} {g : Nat → Int32} {G : Nat → Int64} {F : Nat → Nat → Int32} {Q : Option Value → List Ce → Prop} {V N : Nat} (ok : MOK g F V N) {v : Nat} {side : Int32}  : ∀ (n : Nat) (k : Nat) (a R : Int32), k + n = N → hldF (vM F) (-1) (nI v) side n k a = R → Ev (d + 1) yX5_hold cX5_hold (some .int) 63 [some (.ref 0), some (.int (nI v)), some (.int side), some (.int R), some (.int (nI N))] [] (modW g G F) Q → Ev (d + 1) yX5_hold cX5_hold (some .int) 12 [some (.ref 0), some (.int (nI v)), some (.int side), some (.int a), some (.int (nI k))] [] (modW g G F) Q := by
  intro n
  induction n with
  | zero =>
    intro k a R hk hR K
    have hk : k = N := by omega
    subst hk
    have hR : a = R := hR
    subst hR
    refine Ev.iload dX5_hold_12 rfl ?_
    refine Ev.aload_0 dX5_hold_14 rfl ?_
    refine Ev.getf cf5 2 (by decide) wf_X5_134 dX5_hold_15 rfl rfl ?_
    refine Ev.icmp_ge 63 dX5_hold_18 (by decide) (fun h18 => ?_) (fun h18 => ?_)
    · exact K
    · exact absurd (lp_le ok.2.1 (by omega) (by have := ok.2.2.2.1; omega)) h18
  | succ n ih =>
    intro k a R hk hR K
    refine Ev.iload dX5_hold_12 rfl ?_
    refine Ev.aload_0 dX5_hold_14 rfl ?_
    refine Ev.getf cf5 2 (by decide) wf_X5_134 dX5_hold_15 rfl rfl ?_
    refine Ev.icmp_ge 63 dX5_hold_18 (by decide) (fun h18 => ?_) (fun h18 => ?_)
    · exact absurd h18 (lp_ge ok.2.1 (by omega) (by have := ok.2.2.2.1; omega))
    refine Ev.iload_3 dX5_hold_21 rfl ?_
    refine Ev.aload_0 dX5_hold_22 rfl ?_
    refine Ev.getf cf5 6 (by decide) wf_X5_19 dX5_hold_23 rfl rfl ?_
    refine Ev.iload dX5_hold_26 rfl ?_
    refine Ev.aldn dX5_hold_28 rfl (by have := ok.2.2.2.1; omega) (by decide) ?_
    refine Ev.iload_1 dX5_hold_29 rfl ?_
    refine Ev.icmp_ne 54 dX5_hold_30 (by decide) (fun h30 => ?_) (fun h30 => ?_)
    · refine Ev.iconst (v := 0) dX5_hold_54 (by decide) ?_
      refine Ev.iadd dX5_hold_55 ?_
      refine Ev.ist3 dX5_hold_56 rfl ?_
      first | refine Ev.incn4 dX5_hold_57 rfl ?_ | refine Ev.inc4 dX5_hold_57 rfl ?_
      refine Ev.goto 12 dX5_hold_60 (by decide) ?_
      exact ih (k + 1) _ R (by omega) (by rw [← hR, hldF]; simp [vM, nI_nm1 (k := k) (by have := ok.2.2.2.1; omega), *]) K
    refine Ev.aload_0 dX5_hold_33 rfl ?_
    refine Ev.iload dX5_hold_34 rfl ?_
    refine k_X5_bears (m_bears (by have := ok.2.2.2.1; omega)) dX5_hold_36 wl_X5_152 rfl (Nat.le_of_ble_eq_true rfl) ?_
    refine Ev.iload_2 dX5_hold_39 rfl ?_
    refine Ev.aload_0 dX5_hold_40 rfl ?_
    refine Ev.getf cf5 7 (by decide) wf_X5_22 dX5_hold_41 rfl rfl ?_
    refine Ev.iload dX5_hold_44 rfl ?_
    refine Ev.aldn dX5_hold_46 rfl (by have := ok.2.2.2.1; omega) (by decide) ?_
    refine k_X5_arm (m_arm _ _) dX5_hold_47 wl_X5_155 (Nat.le_of_ble_eq_true rfl) ?_
    refine Ev.imul dX5_hold_50 ?_
    refine Ev.goto 55 dX5_hold_51 (by decide) ?_
    refine Ev.iadd dX5_hold_55 ?_
    refine Ev.ist3 dX5_hold_56 rfl ?_
    first | refine Ev.incn4 dX5_hold_57 rfl ?_ | refine Ev.inc4 dX5_hold_57 rfl ?_
    refine Ev.goto 12 dX5_hold_60 (by decide) ?_
    exact ih (k + 1) _ R (by omega) (by rw [← hR, hldF]; simp [vM, nI_nm1 (k := k) (by have := ok.2.2.2.1; omega), *]) K

set_option maxHeartbeats 4000000 in
set_option maxRecDepth 100000 in
theorem m_hold {d : Nat} {g : Nat → Int32} {G : Nat → Int64} {F : Nat → Nat → Int32} {V N : Nat} (ok : MOK g F V N) {v : Nat} (hv : v < 4) (side : Int32) : Ev (d + 1) yX5_hold cX5_hold (some .int) 0 [some (.ref 0), some (.int (nI v)), some (.int side), none, none] [] (modW g G F) (Is (some (.int (hld (vM F) N (-1) v side))) (modW g G F)) := by
  refine Ev.iconst (v := 3) dX5_hold_0 (by decide) ?_
  refine Ev.aload_0 dX5_hold_1 rfl ?_
  refine Ev.getf cf5 3 (by decide) wf_X5_7 dX5_hold_2 rfl rfl ?_
  refine Ev.iload_1 dX5_hold_5 rfl ?_
  refine Ev.aldn dX5_hold_6 rfl (by omega) (by decide) ?_
  refine Ev.imul dX5_hold_7 ?_
  refine Ev.ist3 dX5_hold_8 rfl ?_
  refine Ev.iconst (v := 0) dX5_hold_9 (by decide) ?_
  refine Ev.ist4 dX5_hold_10 rfl ?_
  exact m_hold_loop ok N 0 _ _ (by omega) rfl (Ev.iload_3 dX5_hold_63 rfl (Ev.iret dX5_hold_64 ⟨rfl, rfl⟩))

set_option maxHeartbeats 4000000 in
set_option maxRecDepth 100000 in
theorem m_stand {d : Nat} {g : Nat → Int32} {G : Nat → Int64} {F : Nat → Nat → Int32} {V N : Nat} (ok : MOK g F V N) {v : Nat} (hv : v < 4) (side : Int32) : Ev (d + 2) yX5_stand cX5_stand (some .int) 0 [some (.ref 0), some (.int (nI v)), some (.int side)] [] (modW g G F) (Is (some (.int (stb (hld (vM F) N (-1) v side)))) (modW g G F)) := by
  refine Ev.aload_0 dX5_stand_0 rfl ?_
  refine Ev.iload_1 dX5_stand_1 rfl ?_
  refine Ev.iload_2 dX5_stand_2 rfl ?_
  refine k_X5_hold (m_hold ok hv _) dX5_stand_3 wl_X5_159 rfl (Nat.le_of_ble_eq_true rfl) ?_
  refine k_X5_standBy (m_standBy _) dX5_stand_6 wl_X5_162 (Nat.le_of_ble_eq_true rfl) ?_
  refine Ev.iret dX5_stand_9 ?_
  exact ⟨rfl, rfl⟩

set_option maxHeartbeats 4000000 in
set_option maxRecDepth 100000 in
theorem m_leastOf {d : Nat} {g : Nat → Int32} {G : Nat → Int64} {F : Nat → Nat → Int32} {V N : Nat} (ok : MOK g F V N) {v : Nat} (hv : v < 4) : Ev (d + 3) yX5_leastOf cX5_leastOf (some .int) 0 [some (.ref 0), some (.int (nI v)), none, none] [] (modW g G F) (Is (some (.int (mls (vM F) N v))) (modW g G F)) := by
  refine Ev.aload_0 dX5_leastOf_0 rfl ?_
  refine Ev.iload_1 dX5_leastOf_1 rfl ?_
  refine Ev.iconst (v := 0) dX5_leastOf_2 (by decide) ?_
  refine k_X5_stand (m_stand ok hv 0) dX5_leastOf_3 wl_X5_165 rfl (Nat.le_of_ble_eq_true rfl) ?_
  refine Ev.ist2 dX5_leastOf_6 rfl ?_
  refine Ev.aload_0 dX5_leastOf_7 rfl ?_
  refine Ev.iload_1 dX5_leastOf_8 rfl ?_
  refine Ev.iconst (v := 1) dX5_leastOf_9 (by decide) ?_
  refine k_X5_stand (m_stand ok hv 1) dX5_leastOf_10 wl_X5_165 rfl (Nat.le_of_ble_eq_true rfl) ?_
  refine Ev.ist3 dX5_leastOf_13 rfl ?_
  refine Ev.iload_2 dX5_leastOf_14 rfl ?_
  refine Ev.iload_3 dX5_leastOf_15 rfl ?_
  refine Ev.icmp_ge 23 dX5_leastOf_16 (by decide) (fun h16 => ?_) (fun h16 => ?_)
  · refine Ev.iload_3 dX5_leastOf_23 rfl ?_
    refine Ev.iret dX5_leastOf_24 ?_
    exact ⟨by simp [mls, *], rfl⟩
  refine Ev.iload_2 dX5_leastOf_19 rfl ?_
  refine Ev.goto 24 dX5_leastOf_20 (by decide) ?_
  refine Ev.iret dX5_leastOf_24 ?_
  exact ⟨by simp [mls, *], rfl⟩

set_option maxHeartbeats 4000000 in
set_option maxRecDepth 100000 in
theorem m_loa_loop {d : Nat} {g : Nat → Int32} {G : Nat → Int64} {F : Nat → Nat → Int32} {Q : Option Value → List Ce → Prop} {V N : Nat} (ok : MOK g F V N)  : ∀ (n : Nat) (k : Nat) (a R : Int32), k + n = V → mlaF (vM F) N n k a = R → Ev (d + 4) yX5_leastOfAll cX5_leastOfAll (some .int) 38 [some (.ref 0), some (.int R), some (.int (nI V))] [] (modW g G F) Q → Ev (d + 4) yX5_leastOfAll cX5_leastOfAll (some .int) 5 [some (.ref 0), some (.int a), some (.int (nI k))] [] (modW g G F) Q := by
  intro n
  induction n with
  | zero =>
    intro k a R hk hR K
    have hk : k = V := by omega
    subst hk
    have hR : a = R := hR
    subst hR
    refine Ev.iload_2 dX5_leastOfAll_5 rfl ?_
    refine Ev.aload_0 dX5_leastOfAll_6 rfl ?_
    refine Ev.getf cf5 1 (by decide) wf_X5_131 dX5_leastOfAll_7 rfl rfl ?_
    refine Ev.icmp_ge 38 dX5_leastOfAll_10 (by decide) (fun h10 => ?_) (fun h10 => ?_)
    · exact K
    · exact absurd (lp_le ok.1 (by omega) (by have := ok.2.2.1; omega)) h10
  | succ n ih =>
    intro k a R hk hR K
    refine Ev.iload_2 dX5_leastOfAll_5 rfl ?_
    refine Ev.aload_0 dX5_leastOfAll_6 rfl ?_
    refine Ev.getf cf5 1 (by decide) wf_X5_131 dX5_leastOfAll_7 rfl rfl ?_
    refine Ev.icmp_ge 38 dX5_leastOfAll_10 (by decide) (fun h10 => ?_) (fun h10 => ?_)
    · exact absurd h10 (lp_ge ok.1 (by omega) (by have := ok.2.2.1; omega))
    refine Ev.aload_0 dX5_leastOfAll_13 rfl ?_
    refine Ev.iload_2 dX5_leastOfAll_14 rfl ?_
    refine k_X5_leastOf (m_leastOf ok (by have := ok.2.2.1; omega)) dX5_leastOfAll_15 wl_X5_169 rfl (Nat.le_of_ble_eq_true rfl) ?_
    refine Ev.iload_1 dX5_leastOfAll_18 rfl ?_
    refine Ev.icmp_ge 30 dX5_leastOfAll_19 (by decide) (fun h19 => ?_) (fun h19 => ?_)
    · refine Ev.iload_1 dX5_leastOfAll_30 rfl ?_
      refine Ev.ist1 dX5_leastOfAll_31 rfl ?_
      first | refine Ev.incn2 dX5_leastOfAll_32 rfl ?_ | refine Ev.inc2 dX5_leastOfAll_32 rfl ?_
      refine Ev.goto 5 dX5_leastOfAll_35 (by decide) ?_
      exact ih (k + 1) _ R (by omega) (by rw [← hR, mlaF]; simp [*]) K
    refine Ev.aload_0 dX5_leastOfAll_22 rfl ?_
    refine Ev.iload_2 dX5_leastOfAll_23 rfl ?_
    refine k_X5_leastOf (m_leastOf ok (by have := ok.2.2.1; omega)) dX5_leastOfAll_24 wl_X5_169 rfl (Nat.le_of_ble_eq_true rfl) ?_
    refine Ev.goto 31 dX5_leastOfAll_27 (by decide) ?_
    refine Ev.ist1 dX5_leastOfAll_31 rfl ?_
    first | refine Ev.incn2 dX5_leastOfAll_32 rfl ?_ | refine Ev.inc2 dX5_leastOfAll_32 rfl ?_
    refine Ev.goto 5 dX5_leastOfAll_35 (by decide) ?_
    exact ih (k + 1) _ R (by omega) (by rw [← hR, mlaF]; simp [*]) K

set_option maxHeartbeats 4000000 in
set_option maxRecDepth 100000 in
theorem m_leastOfAll {d : Nat} {g : Nat → Int32} {G : Nat → Int64} {F : Nat → Nat → Int32} {V N : Nat} (ok : MOK g F V N)  : Ev (d + 4) yX5_leastOfAll cX5_leastOfAll (some .int) 0 [some (.ref 0), none, none] [] (modW g G F) (Is (some (.int (mla (vM F) V N))) (modW g G F)) := by
  refine Ev.ldc wk_X5_168 dX5_leastOfAll_0 ?_
  refine Ev.ist1 dX5_leastOfAll_2 rfl ?_
  refine Ev.iconst (v := 0) dX5_leastOfAll_3 (by decide) ?_
  refine Ev.ist2 dX5_leastOfAll_4 rfl ?_
  refine m_loa_loop ok V 0 _ _ (by omega) rfl ?_
  refine Ev.aload_0 dX5_leastOfAll_38 rfl ?_
  refine Ev.getf cf5 1 (by decide) wf_X5_131 dX5_leastOfAll_39 rfl rfl ?_
  refine Ev.if_ne 49 dX5_leastOfAll_42 (by decide) (fun h42 => ?_) (fun h42 => ?_)
  · have hV : ¬ V = 0 := by
      intro q
      rw [ok.1, q] at h42
      exact h42 rfl
    rw [show mla (vM F) V N = _ from if_neg hV]
    refine Ev.iload_1 dX5_leastOfAll_49 rfl ?_
    refine Ev.iret dX5_leastOfAll_50 ?_
    exact ⟨rfl, rfl⟩
  have hV : V = 0 := by
    by_cases q : V = 0
    · exact q
    · rw [ok.1] at h42
      exact absurd h42 (nI_ne0 (by omega) (by have := ok.2.2.1; omega))
  rw [show mla (vM F) V N = 0 from if_pos hV]
  refine Ev.iconst (v := 0) dX5_leastOfAll_45 (by decide) ?_
  refine Ev.goto 50 dX5_leastOfAll_46 (by decide) ?_
  refine Ev.iret dX5_leastOfAll_50 ?_
  exact ⟨rfl, rfl⟩

set_option maxHeartbeats 4000000 in
set_option maxRecDepth 100000 in
theorem m_wouldLift {d : Nat} {g : Nat → Int32} {G : Nat → Int64} {F : Nat → Nat → Int32} {V N : Nat} (ok : MOK g F V N) {v : Nat} (hv : v < 4) (side force : Int32) : Ev (d + 2) yX5_wouldLift cX5_wouldLift (some .boolean) 0 [some (.ref 0), some (.int (nI v)), some (.int side), some (.int force)] [] (modW g G F) (Is (some (.int (lifs (hld (vM F) N (-1) v side) force))) (modW g G F)) := by
  refine Ev.aload_0 dX5_wouldLift_0 rfl ?_
  refine Ev.iload_1 dX5_wouldLift_1 rfl ?_
  refine Ev.iload_2 dX5_wouldLift_2 rfl ?_
  refine k_X5_hold (m_hold ok hv _) dX5_wouldLift_3 wl_X5_159 rfl (Nat.le_of_ble_eq_true rfl) ?_
  refine Ev.iconst (v := 5) dX5_wouldLift_6 (by decide) ?_
  refine Ev.iload_3 dX5_wouldLift_7 rfl ?_
  refine Ev.imul dX5_wouldLift_8 ?_
  refine Ev.icmp_ge 16 dX5_wouldLift_9 (by decide) (fun h9 => ?_) (fun h9 => ?_)
  · rw [show lifs _ force = 0 from zb_f (nlt_of_le h9)]
    refine Ev.iconst (v := 0) dX5_wouldLift_16 (by decide) ?_
    refine Ev.zret dX5_wouldLift_17 (by decide) ?_
    exact ⟨rfl, rfl⟩
  rw [show lifs _ force = 1 from zb_t (ne_of_nle h9)]
  refine Ev.iconst (v := 1) dX5_wouldLift_12 (by decide) ?_
  refine Ev.goto 17 dX5_wouldLift_13 (by decide) ?_
  refine Ev.zret dX5_wouldLift_17 (by decide) ?_
  exact ⟨rfl, rfl⟩

set_option maxHeartbeats 4000000 in
set_option maxRecDepth 100000 in
theorem m_there_loop {d : Nat} {g : Nat → Int32} {G : Nat → Int64} {F : Nat → Nat → Int32} {Q : Option Value → List Ce → Prop} {V N : Nat} (ok : MOK g F V N) {vv : Int32}  : ∀ (n : Nat) (k : Nat) (a R : Int32), k + n = N → wiF (vM F) vv n k a = R → Ev (d + 1) yX5_there cX5_there (some .int) 38 [some (.ref 0), some (.int vv), some (.int R), some (.int (nI N))] [] (modW g G F) Q → Ev (d + 1) yX5_there cX5_there (some .int) 4 [some (.ref 0), some (.int vv), some (.int a), some (.int (nI k))] [] (modW g G F) Q := by
  intro n
  induction n with
  | zero =>
    intro k a R hk hR K
    have hk : k = N := by omega
    subst hk
    have hR : a = R := hR
    subst hR
    refine Ev.iload_3 dX5_there_4 rfl ?_
    refine Ev.aload_0 dX5_there_5 rfl ?_
    refine Ev.getf cf5 2 (by decide) wf_X5_134 dX5_there_6 rfl rfl ?_
    refine Ev.icmp_ge 38 dX5_there_9 (by decide) (fun h9 => ?_) (fun h9 => ?_)
    · exact K
    · exact absurd (lp_le ok.2.1 (by omega) (by have := ok.2.2.2.1; omega)) h9
  | succ n ih =>
    intro k a R hk hR K
    refine Ev.iload_3 dX5_there_4 rfl ?_
    refine Ev.aload_0 dX5_there_5 rfl ?_
    refine Ev.getf cf5 2 (by decide) wf_X5_134 dX5_there_6 rfl rfl ?_
    refine Ev.icmp_ge 38 dX5_there_9 (by decide) (fun h9 => ?_) (fun h9 => ?_)
    · exact absurd h9 (lp_ge ok.2.1 (by omega) (by have := ok.2.2.2.1; omega))
    refine Ev.iload_2 dX5_there_12 rfl ?_
    refine Ev.aload_0 dX5_there_13 rfl ?_
    refine Ev.getf cf5 6 (by decide) wf_X5_19 dX5_there_14 rfl rfl ?_
    refine Ev.iload_3 dX5_there_17 rfl ?_
    refine Ev.aldn dX5_there_18 rfl (by have := ok.2.2.2.1; omega) (by decide) ?_
    refine Ev.iload_1 dX5_there_19 rfl ?_
    refine Ev.icmp_ne 29 dX5_there_20 (by decide) (fun h20 => ?_) (fun h20 => ?_)
    · refine Ev.iconst (v := 0) dX5_there_29 (by decide) ?_
      refine Ev.ior dX5_there_30 ?_
      refine Ev.ist2 dX5_there_31 rfl ?_
      first | refine Ev.incn3 dX5_there_32 rfl ?_ | refine Ev.inc3 dX5_there_32 rfl ?_
      refine Ev.goto 4 dX5_there_35 (by decide) ?_
      exact ih (k + 1) _ R (by omega) (by rw [← hR, wiF]; simp [vM, *]) K
    refine Ev.iconst (v := 1) dX5_there_23 (by decide) ?_
    refine Ev.iload_3 dX5_there_24 rfl ?_
    refine Ev.ishl dX5_there_25 ?_
    refine Ev.goto 30 dX5_there_26 (by decide) ?_
    refine Ev.ior dX5_there_30 ?_
    refine Ev.ist2 dX5_there_31 rfl ?_
    first | refine Ev.incn3 dX5_there_32 rfl ?_ | refine Ev.inc3 dX5_there_32 rfl ?_
    refine Ev.goto 4 dX5_there_35 (by decide) ?_
    exact ih (k + 1) _ R (by omega) (by rw [← hR, wiF]; simp [vM, *]) K

set_option maxHeartbeats 4000000 in
set_option maxRecDepth 100000 in
theorem m_there {d : Nat} {g : Nat → Int32} {G : Nat → Int64} {F : Nat → Nat → Int32} {V N : Nat} (ok : MOK g F V N) (vv : Int32) : Ev (d + 1) yX5_there cX5_there (some .int) 0 [some (.ref 0), some (.int vv), none, none] [] (modW g G F) (Is (some (.int (wi (vM F) N vv))) (modW g G F)) := by
  refine Ev.iconst (v := 0) dX5_there_0 (by decide) ?_
  refine Ev.ist2 dX5_there_1 rfl ?_
  refine Ev.iconst (v := 0) dX5_there_2 (by decide) ?_
  refine Ev.ist3 dX5_there_3 rfl ?_
  exact m_there_loop ok N 0 _ _ (by omega) rfl (Ev.iload_2 dX5_there_38 rfl (Ev.iret dX5_there_39 ⟨rfl, rfl⟩))

set_option maxHeartbeats 4000000 in
set_option maxRecDepth 100000 in
theorem m_ouncesIn_loop {d : Nat} {g : Nat → Int32} {G : Nat → Int64} {F : Nat → Nat → Int32} {Q : Option Value → List Ce → Prop} {V N : Nat} (ok : MOK g F V N) {vv : Int32}  : ∀ (n : Nat) (k : Nat) (a R : Int32), k + n = N → osF (vM F) vv n k a = R → Ev (d + 1) yX5_ouncesIn cX5_ouncesIn (some .int) 39 [some (.ref 0), some (.int vv), some (.int R), some (.int (nI N))] [] (modW g G F) Q → Ev (d + 1) yX5_ouncesIn cX5_ouncesIn (some .int) 4 [some (.ref 0), some (.int vv), some (.int a), some (.int (nI k))] [] (modW g G F) Q := by
  intro n
  induction n with
  | zero =>
    intro k a R hk hR K
    have hk : k = N := by omega
    subst hk
    have hR : a = R := hR
    subst hR
    refine Ev.iload_3 dX5_ouncesIn_4 rfl ?_
    refine Ev.aload_0 dX5_ouncesIn_5 rfl ?_
    refine Ev.getf cf5 2 (by decide) wf_X5_134 dX5_ouncesIn_6 rfl rfl ?_
    refine Ev.icmp_ge 39 dX5_ouncesIn_9 (by decide) (fun h9 => ?_) (fun h9 => ?_)
    · exact K
    · exact absurd (lp_le ok.2.1 (by omega) (by have := ok.2.2.2.1; omega)) h9
  | succ n ih =>
    intro k a R hk hR K
    refine Ev.iload_3 dX5_ouncesIn_4 rfl ?_
    refine Ev.aload_0 dX5_ouncesIn_5 rfl ?_
    refine Ev.getf cf5 2 (by decide) wf_X5_134 dX5_ouncesIn_6 rfl rfl ?_
    refine Ev.icmp_ge 39 dX5_ouncesIn_9 (by decide) (fun h9 => ?_) (fun h9 => ?_)
    · exact absurd h9 (lp_ge ok.2.1 (by omega) (by have := ok.2.2.2.1; omega))
    refine Ev.iload_2 dX5_ouncesIn_12 rfl ?_
    refine Ev.iload_1 dX5_ouncesIn_13 rfl ?_
    refine Ev.iload_3 dX5_ouncesIn_14 rfl ?_
    refine k_X5_isIn (m_isIn _ _) dX5_ouncesIn_15 wl_X5_172 (Nat.le_of_ble_eq_true rfl) ?_
    refine Ev.if_eq 30 dX5_ouncesIn_18 (by decide) (fun h18 => ?_) (fun h18 => ?_)
    · refine Ev.iconst (v := 0) dX5_ouncesIn_30 (by decide) ?_
      refine Ev.iadd dX5_ouncesIn_31 ?_
      refine Ev.ist2 dX5_ouncesIn_32 rfl ?_
      first | refine Ev.incn3 dX5_ouncesIn_33 rfl ?_ | refine Ev.inc3 dX5_ouncesIn_33 rfl ?_
      refine Ev.goto 4 dX5_ouncesIn_36 (by decide) ?_
      exact ih (k + 1) _ R (by omega) (by rw [← hR, osF]; simp [vM, *]) K
    refine Ev.aload_0 dX5_ouncesIn_21 rfl ?_
    refine Ev.getf cf5 5 (by decide) wf_X5_16 dX5_ouncesIn_22 rfl rfl ?_
    refine Ev.iload_3 dX5_ouncesIn_25 rfl ?_
    refine Ev.aldn dX5_ouncesIn_26 rfl (by have := ok.2.2.2.1; omega) (by decide) ?_
    refine Ev.goto 31 dX5_ouncesIn_27 (by decide) ?_
    refine Ev.iadd dX5_ouncesIn_31 ?_
    refine Ev.ist2 dX5_ouncesIn_32 rfl ?_
    first | refine Ev.incn3 dX5_ouncesIn_33 rfl ?_ | refine Ev.inc3 dX5_ouncesIn_33 rfl ?_
    refine Ev.goto 4 dX5_ouncesIn_36 (by decide) ?_
    exact ih (k + 1) _ R (by omega) (by rw [← hR, osF]; simp [vM, *]) K

set_option maxHeartbeats 4000000 in
set_option maxRecDepth 100000 in
theorem m_ouncesIn {d : Nat} {g : Nat → Int32} {G : Nat → Int64} {F : Nat → Nat → Int32} {V N : Nat} (ok : MOK g F V N) (vv : Int32) : Ev (d + 1) yX5_ouncesIn cX5_ouncesIn (some .int) 0 [some (.ref 0), some (.int vv), none, none] [] (modW g G F) (Is (some (.int (os (vM F) N vv))) (modW g G F)) := by
  refine Ev.iconst (v := 0) dX5_ouncesIn_0 (by decide) ?_
  refine Ev.ist2 dX5_ouncesIn_1 rfl ?_
  refine Ev.iconst (v := 0) dX5_ouncesIn_2 (by decide) ?_
  refine Ev.ist3 dX5_ouncesIn_3 rfl ?_
  exact m_ouncesIn_loop ok N 0 _ _ (by omega) rfl (Ev.iload_2 dX5_ouncesIn_39 rfl (Ev.iret dX5_ouncesIn_40 ⟨rfl, rfl⟩))

set_option maxHeartbeats 4000000 in
set_option maxRecDepth 100000 in
theorem m_onPlain_loop {d : Nat} {g : Nat → Int32} {G : Nat → Int64} {F : Nat → Nat → Int32} {Q : Option Value → List Ce → Prop} {V N : Nat} (ok : MOK g F V N)  : ∀ (n : Nat) (k : Nat) (a R : Int32), k + n = N → pnF (vM F) n k a = R → Ev d yX5_onPlain cX5_onPlain (some .int) 36 [some (.ref 0), some (.int R), some (.int (nI N))] [] (modW g G F) Q → Ev d yX5_onPlain cX5_onPlain (some .int) 4 [some (.ref 0), some (.int a), some (.int (nI k))] [] (modW g G F) Q := by
  intro n
  induction n with
  | zero =>
    intro k a R hk hR K
    have hk : k = N := by omega
    subst hk
    have hR : a = R := hR
    subst hR
    refine Ev.iload_2 dX5_onPlain_4 rfl ?_
    refine Ev.aload_0 dX5_onPlain_5 rfl ?_
    refine Ev.getf cf5 2 (by decide) wf_X5_134 dX5_onPlain_6 rfl rfl ?_
    refine Ev.icmp_ge 36 dX5_onPlain_9 (by decide) (fun h9 => ?_) (fun h9 => ?_)
    · exact K
    · exact absurd (lp_le ok.2.1 (by omega) (by have := ok.2.2.2.1; omega)) h9
  | succ n ih =>
    intro k a R hk hR K
    refine Ev.iload_2 dX5_onPlain_4 rfl ?_
    refine Ev.aload_0 dX5_onPlain_5 rfl ?_
    refine Ev.getf cf5 2 (by decide) wf_X5_134 dX5_onPlain_6 rfl rfl ?_
    refine Ev.icmp_ge 36 dX5_onPlain_9 (by decide) (fun h9 => ?_) (fun h9 => ?_)
    · exact absurd h9 (lp_ge ok.2.1 (by omega) (by have := ok.2.2.2.1; omega))
    refine Ev.iload_1 dX5_onPlain_12 rfl ?_
    refine Ev.aload_0 dX5_onPlain_13 rfl ?_
    refine Ev.getf cf5 6 (by decide) wf_X5_19 dX5_onPlain_14 rfl rfl ?_
    refine Ev.iload_2 dX5_onPlain_17 rfl ?_
    refine Ev.aldn dX5_onPlain_18 rfl (by have := ok.2.2.2.1; omega) (by decide) ?_
    refine Ev.iconst (v := -1) dX5_onPlain_19 (by decide) ?_
    refine Ev.icmp_ne 27 dX5_onPlain_20 (by decide) (fun h20 => ?_) (fun h20 => ?_)
    · refine Ev.iconst (v := 0) dX5_onPlain_27 (by decide) ?_
      refine Ev.iadd dX5_onPlain_28 ?_
      refine Ev.ist1 dX5_onPlain_29 rfl ?_
      first | refine Ev.incn2 dX5_onPlain_30 rfl ?_ | refine Ev.inc2 dX5_onPlain_30 rfl ?_
      refine Ev.goto 4 dX5_onPlain_33 (by decide) ?_
      exact ih (k + 1) _ R (by omega) (by rw [← hR, pnF]; simp [vM, *]) K
    refine Ev.iconst (v := 1) dX5_onPlain_23 (by decide) ?_
    refine Ev.goto 28 dX5_onPlain_24 (by decide) ?_
    refine Ev.iadd dX5_onPlain_28 ?_
    refine Ev.ist1 dX5_onPlain_29 rfl ?_
    first | refine Ev.incn2 dX5_onPlain_30 rfl ?_ | refine Ev.inc2 dX5_onPlain_30 rfl ?_
    refine Ev.goto 4 dX5_onPlain_33 (by decide) ?_
    exact ih (k + 1) _ R (by omega) (by rw [← hR, pnF]; simp [vM, *]) K

set_option maxHeartbeats 4000000 in
set_option maxRecDepth 100000 in
theorem m_onPlain {d : Nat} {g : Nat → Int32} {G : Nat → Int64} {F : Nat → Nat → Int32} {V N : Nat} (ok : MOK g F V N)  : Ev d yX5_onPlain cX5_onPlain (some .int) 0 [some (.ref 0), none, none] [] (modW g G F) (Is (some (.int (pnF (vM F) N 0 0))) (modW g G F)) := by
  refine Ev.iconst (v := 0) dX5_onPlain_0 (by decide) ?_
  refine Ev.ist1 dX5_onPlain_1 rfl ?_
  refine Ev.iconst (v := 0) dX5_onPlain_2 (by decide) ?_
  refine Ev.ist2 dX5_onPlain_3 rfl ?_
  exact m_onPlain_loop ok N 0 _ _ (by omega) rfl (Ev.iload_1 dX5_onPlain_36 rfl (Ev.iret dX5_onPlain_37 ⟨rfl, rfl⟩))
