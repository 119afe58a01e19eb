/-- the tables that pack reads, as numbers -/
def PK (X : Nat → Nat → Int32) (V N : Nat) (b o r : Nat → Nat) : Prop := (∀ v, v < V → X 0 v = nI (b v) ∧ b v ≤ 9) ∧ (∀ k, k < N → X 2 k = nI (o k) ∧ o k ≤ 9 ∧ 1 ≤ o k) ∧ ∀ k, k < N → bear (X 1 k) (X 2 k) 0 = nI (r k) ∧ r k ≤ 100
def Ax (c : Nat) (F F' : Nat → Nat → Int32) : Prop := ∀ a, a ≠ c → F' a = F a
def Ag (F F' : Nat → Nat → Int32) : Prop := ∀ a, (a < 23 ∨ 26 < a) → F' a = F a
theorem Ax.up {c : Nat} {F F' : Nat → Nat → Int32} (h : Ax c F F') (j : Nat) (x : Int32) : Ax c F (up2 F' c j x) := fun a ha => by
  rw [← h a ha]; exact if_neg ha
theorem Ax.ag {c : Nat} {F F' : Nat → Nat → Int32} (h : Ax c F F') (h1 : 23 ≤ c) (h2 : c ≤ 26) : Ag F F' := fun a ha => h a (by omega)
theorem Ag.trans {F F' F2 : Nat → Nat → Int32} (h : Ag F F') (h2 : Ag F' F2) : Ag F F2 := fun a ha => (h2 a ha).trans (h a ha)
theorem Ag.up {F F' : Nat → Nat → Int32} (h : Ag F F') {c : Nat} (h1 : 23 ≤ c) (h2 : c ≤ 26) (j : Nat) (x : Int32) : Ag F (up2 F' c j x) := fun a ha => by
  rw [← h a ha]; exact if_neg (by omega)
theorem Ag.refl (F : Nat → Nat → Int32) : Ag F F := fun _ _ => rfl
theorem Ax.refl (c : Nat) (F : Nat → Nat → Int32) : Ax c F F := fun _ _ => rfl
theorem PK.ag {F F' : Nat → Nat → Int32} {V N : Nat} {b o r : Nat → Nat} (pk : PK (vM F) V N b o r) (h : Ag F F') : PK (vM F') V N b o r := by
  have e0 : vM F' 0 = vM F 0 := h 3 (by omega)
  have e1 : vM F' 1 = vM F 1 := h 4 (by omega)
  have e2 : vM F' 2 = vM F 2 := h 5 (by omega)
  unfold PK
  rw [e0, e1, e2]
  exact pk
theorem MOK.ag {g : Nat → Int32} {F F' : Nat → Nat → Int32} {V N : Nat} (ok : MOK g F V N) (h : Ag F F') : MOK g F' V N := ⟨ok.1, ok.2.1, ok.2.2.1, ok.2.2.2.1, fun k hk => by rw [h 6 (by omega)]; exact ok.2.2.2.2 k hk⟩
theorem bare_r {F : Nat → Nat → Int32} {V N : Nat} {b o r : Nat → Nat} (pk : PK (vM F) V N b o r) {k : Nat} (hk : k < N) : nI (r k) = (if F 4 k = 1 then 2 * F 5 k else if F 4 k = 4 then 100 else F 5 k) := by
  rw [← (pk.2.2 k hk).1]
  show bear (F 4 k) (F 5 k) 0 = _
  unfold bear
  by_cases h1 : F 4 k = 1
  · rw [if_pos h1, if_pos h1]
  · rw [if_neg h1, if_neg h1]
    by_cases h3 : F 4 k = 3
    · rw [if_pos h3, if_neg (by rw [h3]; decide)]; simp
    · rw [if_neg h3]
theorem sn_0 {S k x c : Nat} {L : Int32} (hb : ¬ bi S k = 1) : nI (x + (if bi S k = 1 then c else 0)) = nI x + 0 * L := by
  rw [if_neg hb]; simp
theorem sn_w {S k x c p : Nat} {y : Int32} (hb : bi S k = 1) (hp : p ≤ 4) (hy : y = nI p) : nI (x + (if bi S k = 1 then c * (5 - p) else 0)) = nI x + nI c * lev y 0 := by
  rw [if_pos hb, hy]
  show _ = nI x + nI c * (nI 5 - nI p)
  rw [pk_sub (by omega), pk_mul, nI_add]
theorem sn_e {S k x c p : Nat} {y : Int32} (hb : bi S k = 1) (hy : y = nI p) : nI (x + (if bi S k = 1 then c * (p + 1) else 0)) = nI x + nI c * lev y 1 := by
  rw [if_pos hb, hy]
  show _ = nI x + nI c * (nI p + 1)
  rw [nI_1, pk_mul, nI_add]
theorem stb_n {h : Nat} (hh : h < 2 ^ 31) : stb (nI h) = nI (if h / 5 < 99 then h / 5 else 99) := by
  unfold stb
  rw [show nI h / 5 = nI (h / 5) from pk_div hh (by decide) (by decide)]
  show (if nI (h / 5) < nI 99 then nI (h / 5) else nI 99) = _
  by_cases q : h / 5 < 99
  · rw [if_pos (nI_lt (b := 99) q (by decide)), if_pos q]
  · rw [if_neg (nI_nlt (a := h / 5) (b := 99) (by omega) (by omega)), if_neg q]
theorem stb_f {h f : Nat} (hh : h < 2 ^ 31) (hf : f ≤ 20) : stb (nI h) < nI f ↔ ¬ 5 * f ≤ h := by
  rw [stb_n hh, nI_ltI (by split <;> omega) (by omega)]
  split <;> omega
theorem sw_bd {b r : Nat → Nat} {N S : Nat} {X : Nat → Nat → Int32} {V v : Nat} {o : Nat → Nat} (pk : PK X V N b o r) (hv : v < V) (h5 : N ≤ 5) {w : Nat → Nat} (hw : ∀ k, w k ≤ 5) : 3 * b v + sm (fun k => r k * w k) S N 0 < 2 ^ 31 := by
  have h1 := (pk.1 v hv).2
  have h2 := sm_le (f := fun k => r k * w k) (S := S) (c := 500) N 0 (fun j _ hj => by
    have := (pk.2.2 j (by omega)).2
    exact Nat.mul_le_mul this (hw j))
  omega

set_option maxHeartbeats 4000000 in
set_option maxRecDepth 100000 in
theorem m_sn_loop {d : Nat} {g : Nat → Int32} {G : Nat → Int64} {F : Nat → Nat → Int32} {Q : Option Value → List Ce → Prop} {V N : Nat} (ok : MOK g F V N) {b o r : Nat → Nat} (pk : PK (vM F) V N b o r) {v f S : Nat} (hv : v < V) (hf : f ≤ 20) (hS : S < 32) {a : Nat → Nat} (ha : ∀ k, k < 5 → F 24 k = nI (a k)) (ha4 : ∀ i, a i ≤ 4) : ∀ (n k x y X Y : Nat) (z : Option Value), k + n = N → x + sm (fun k => r k * (5 - a k)) S n k = X → y + sm (fun k => r k * (a k + 1)) S n k = Y → (∀ z : Option Value, Ev (d + 1) yX5_standsNow cX5_standsNow (some .boolean) 108 [some (.ref 0), some (.int (nI v)), some (.int (nI S)), some (.int (nI f)), some (.int (nI (X))), some (.int (nI (Y))), some (.int (nI N)), z] [] (modW g G F) Q) → Ev (d + 1) yX5_standsNow cX5_standsNow (some .boolean) 23 [some (.ref 0), some (.int (nI v)), some (.int (nI S)), some (.int (nI f)), some (.int (nI (x))), some (.int (nI (y))), some (.int (nI k)), z] [] (modW g G F) Q := by
  intro n
  induction n with
  | zero =>
    intro k x y X Y z hk hX hY K
    have hk : k = N := by omega
    subst hk
    have hX : x = X := hX
    have hY : y = Y := hY
    subst hX hY
    refine Ev.iload dX5_standsNow_23 rfl ?_
    refine Ev.aload_0 dX5_standsNow_25 rfl ?_
    refine Ev.getf cf5 2 (by decide) wf_X5_134 dX5_standsNow_26 rfl rfl ?_
    refine Ev.icmp_ge 108 dX5_standsNow_29 (by decide) (fun h29 => ?_) (fun h29 => ?_)
    · exact K z
    · exact absurd (lp_le ok.2.1 (by omega) (by have := ok.2.2.2.1; omega)) h29
  | succ n ih =>
    intro k x y X Y z hk hX hY K
    have hk5 : k < 5 := by have := ok.2.2.2.1; omega
    refine Ev.iload dX5_standsNow_23 rfl ?_
    refine Ev.aload_0 dX5_standsNow_25 rfl ?_
    refine Ev.getf cf5 2 (by decide) wf_X5_134 dX5_standsNow_26 rfl rfl ?_
    refine Ev.icmp_ge 108 dX5_standsNow_29 (by decide) (fun h29 => ?_) (fun h29 => ?_)
    · exact absurd h29 (lp_ge ok.2.1 (by omega) (by have := ok.2.2.2.1; omega))
    refine Ev.iload_2 dX5_standsNow_32 rfl ?_
    refine Ev.iload dX5_standsNow_33 rfl ?_
    refine k_X5_isIn (m_isIn _ _) dX5_standsNow_35 wl_X5_172 (Nat.le_of_ble_eq_true rfl) ?_
    refine Ev.if_eq 61 dX5_standsNow_38 (by decide) (fun h38 => ?_) (fun h38 => ?_)
    · have hb : ¬ bi S k = 1 := fun q => by rw [isin_b hS hk5, if_pos q] at h38; exact absurd h38 (by decide)
      have eW : nI (x + (if bi S k = 1 then r k * (5 - a k) else 0)) = nI x + 0 * lev (F 24 k) 0 := sn_0 hb
      have eE : nI (y + (if bi S k = 1 then r k * (a k + 1) else 0)) = nI y + 0 * lev (F 24 k) 1 := sn_0 hb
      refine Ev.iconst (v := 0) dX5_standsNow_61 (by decide) ?_
      refine Ev.ist7 dX5_standsNow_62 rfl ?_
      refine Ev.iload dX5_standsNow_64 rfl ?_
      refine Ev.iload dX5_standsNow_66 rfl ?_
      refine Ev.iconst (v := 0) dX5_standsNow_68 (by decide) ?_
      refine Ev.aload_0 dX5_standsNow_69 rfl ?_
      refine Ev.getf cf5 24 (by decide) wf_X5_48 dX5_standsNow_70 rfl rfl ?_
      refine Ev.iload dX5_standsNow_73 rfl ?_
      refine Ev.aldn dX5_standsNow_75 rfl (by omega) (by decide) ?_
      refine k_X5_arm (m_arm _ _) dX5_standsNow_76 wl_X5_155 (Nat.le_of_ble_eq_true rfl) ?_
      refine Ev.imul dX5_standsNow_79 ?_
      refine Ev.iadd dX5_standsNow_80 ?_
      refine ev_top eW ?_
      refine Ev.ist4 dX5_standsNow_81 rfl ?_
      refine Ev.iload dX5_standsNow_83 rfl ?_
      refine Ev.iload dX5_standsNow_85 rfl ?_
      refine Ev.iconst (v := 1) dX5_standsNow_87 (by decide) ?_
      refine Ev.aload_0 dX5_standsNow_88 rfl ?_
      refine Ev.getf cf5 24 (by decide) wf_X5_48 dX5_standsNow_89 rfl rfl ?_
      refine Ev.iload dX5_standsNow_92 rfl ?_
      refine Ev.aldn dX5_standsNow_94 rfl (by omega) (by decide) ?_
      refine k_X5_arm (m_arm _ _) dX5_standsNow_95 wl_X5_155 (Nat.le_of_ble_eq_true rfl) ?_
      refine Ev.imul dX5_standsNow_98 ?_
      refine Ev.iadd dX5_standsNow_99 ?_
      refine ev_top eE ?_
      refine Ev.ist5 dX5_standsNow_100 rfl ?_
      first | refine Ev.incn6 dX5_standsNow_102 rfl ?_ | refine Ev.inc6 dX5_standsNow_102 rfl ?_
      refine Ev.goto 23 dX5_standsNow_105 (by decide) ?_
      exact ih (k + 1) (x + (if bi S k = 1 then r k * (5 - a k) else 0)) (y + (if bi S k = 1 then r k * (a k + 1) else 0)) X Y _ (by omega) (by rw [← hX, sm]; omega) (by rw [← hY, sm]; omega) K
    have hb : bi S k = 1 := by
      by_cases q : bi S k = 1
      · exact q
      · rw [isin_b hS hk5, if_neg q] at h38; exact absurd rfl h38
    have eW : nI (x + (if bi S k = 1 then r k * (5 - a k) else 0)) = nI x + nI (r k) * lev (F 24 k) 0 := sn_w hb (ha4 k) (ha k hk5)
    have eE : nI (y + (if bi S k = 1 then r k * (a k + 1) else 0)) = nI y + nI (r k) * lev (F 24 k) 1 := sn_e hb (ha k hk5)
    refine Ev.aload_0 dX5_standsNow_41 rfl ?_
    refine Ev.getf cf5 4 (by decide) wf_X5_13 dX5_standsNow_42 rfl rfl ?_
    refine Ev.iload dX5_standsNow_45 rfl ?_
    refine Ev.aldn dX5_standsNow_47 rfl (by omega) (by decide) ?_
    refine Ev.aload_0 dX5_standsNow_48 rfl ?_
    refine Ev.getf cf5 5 (by decide) wf_X5_16 dX5_standsNow_49 rfl rfl ?_
    refine Ev.iload dX5_standsNow_52 rfl ?_
    refine Ev.aldn dX5_standsNow_54 rfl (by omega) (by decide) ?_
    refine k_X5_bareBears (m_bareBears _ _) dX5_standsNow_55 wl_X5_228 (Nat.le_of_ble_eq_true rfl) ?_
    refine ev_top (bare_r pk (by omega)) ?_
    refine Ev.goto 62 dX5_standsNow_58 (by decide) ?_
    refine Ev.ist7 dX5_standsNow_62 rfl ?_
    refine Ev.iload dX5_standsNow_64 rfl ?_
    refine Ev.iload dX5_standsNow_66 rfl ?_
    refine Ev.iconst (v := 0) dX5_standsNow_68 (by decide) ?_
    refine Ev.aload_0 dX5_standsNow_69 rfl ?_
    refine Ev.getf cf5 24 (by decide) wf_X5_48 dX5_standsNow_70 rfl rfl ?_
    refine Ev.iload dX5_standsNow_73 rfl ?_
    refine Ev.aldn dX5_standsNow_75 rfl (by omega) (by decide) ?_
    refine k_X5_arm (m_arm _ _) dX5_standsNow_76 wl_X5_155 (Nat.le_of_ble_eq_true rfl) ?_
    refine Ev.imul dX5_standsNow_79 ?_
    refine Ev.iadd dX5_standsNow_80 ?_
    refine ev_top eW ?_
    refine Ev.ist4 dX5_standsNow_81 rfl ?_
    refine Ev.iload dX5_standsNow_83 rfl ?_
    refine Ev.iload dX5_standsNow_85 rfl ?_
    refine Ev.iconst (v := 1) dX5_standsNow_87 (by decide) ?_
    refine Ev.aload_0 dX5_standsNow_88 rfl ?_
    refine Ev.getf cf5 24 (by decide) wf_X5_48 dX5_standsNow_89 rfl rfl ?_
    refine Ev.iload dX5_standsNow_92 rfl ?_
    refine Ev.aldn dX5_standsNow_94 rfl (by omega) (by decide) ?_
    refine k_X5_arm (m_arm _ _) dX5_standsNow_95 wl_X5_155 (Nat.le_of_ble_eq_true rfl) ?_
    refine Ev.imul dX5_standsNow_98 ?_
    refine Ev.iadd dX5_standsNow_99 ?_
    refine ev_top eE ?_
    refine Ev.ist5 dX5_standsNow_100 rfl ?_
    first | refine Ev.incn6 dX5_standsNow_102 rfl ?_ | refine Ev.inc6 dX5_standsNow_102 rfl ?_
    refine Ev.goto 23 dX5_standsNow_105 (by decide) ?_
    exact ih (k + 1) (x + (if bi S k = 1 then r k * (5 - a k) else 0)) (y + (if bi S k = 1 then r k * (a k + 1) else 0)) X Y _ (by omega) (by rw [← hX, sm]; omega) (by rw [← hY, sm]; omega) K

set_option maxHeartbeats 4000000 in
set_option maxRecDepth 100000 in
theorem m_standsNow {d : Nat} {g : Nat → Int32} {G : Nat → Int64} {F : Nat → Nat → Int32} {V N : Nat} (ok : MOK g F V N) {b o r : Nat → Nat} (pk : PK (vM F) V N b o r) {v f S : Nat} (hv : v < V) (hf : f ≤ 20) (hS : S < 32) {a : Nat → Nat} (ha : ∀ k, k < 5 → F 24 k = nI (a k)) (ha4 : ∀ i, a i ≤ 4)  : Ev (d + 1) yX5_standsNow cX5_standsNow (some .boolean) 0 [some (.ref 0), some (.int (nI v)), some (.int (nI S)), some (.int (nI f)), none, none, none, none] [] (modW g G F) (Is (some (.int (zb (stw b r N f v S a)))) (modW g G F)) := by
  refine Ev.iconst (v := 3) dX5_standsNow_0 (by decide) ?_
  refine Ev.aload_0 dX5_standsNow_1 rfl ?_
  refine Ev.getf cf5 3 (by decide) wf_X5_7 dX5_standsNow_2 rfl rfl ?_
  refine Ev.iload_1 dX5_standsNow_5 rfl ?_
  refine Ev.aldn dX5_standsNow_6 rfl (by have := ok.2.2.1; omega) (by decide) ?_
  refine Ev.imul dX5_standsNow_7 ?_
  refine ev_top (show nI (3 * b v) = 3 * F 3 v from by rw [show F 3 v = nI (b v) from (pk.1 v hv).1]; exact (pk_mul 3 (b v)).symm) ?_
  refine Ev.ist4 dX5_standsNow_8 rfl ?_
  refine Ev.iconst (v := 3) dX5_standsNow_10 (by decide) ?_
  refine Ev.aload_0 dX5_standsNow_11 rfl ?_
  refine Ev.getf cf5 3 (by decide) wf_X5_7 dX5_standsNow_12 rfl rfl ?_
  refine Ev.iload_1 dX5_standsNow_15 rfl ?_
  refine Ev.aldn dX5_standsNow_16 rfl (by have := ok.2.2.1; omega) (by decide) ?_
  refine Ev.imul dX5_standsNow_17 ?_
  refine ev_top (show nI (3 * b v) = 3 * F 3 v from by rw [show F 3 v = nI (b v) from (pk.1 v hv).1]; exact (pk_mul 3 (b v)).symm) ?_
  refine Ev.ist5 dX5_standsNow_18 rfl ?_
  refine Ev.iconst (v := 0) dX5_standsNow_20 (by decide) ?_
  refine Ev.ist6 dX5_standsNow_21 rfl ?_
  refine m_sn_loop ok pk hv hf hS ha ha4 N 0 _ _ _ _ _ (by omega) rfl rfl (fun z => ?_)
  have bw := sw_bd (S := S) pk hv ok.2.2.2.1 (w := fun k => 5 - a k) (fun k => by omega)
  have be := sw_bd (S := S) pk hv ok.2.2.2.1 (w := fun k => a k + 1) (fun k => by have := ha4 k; omega)
  refine Ev.iload dX5_standsNow_108 rfl ?_
  refine k_X5_standBy (m_standBy _) dX5_standsNow_110 wl_X5_162 (Nat.le_of_ble_eq_true rfl) ?_
  refine Ev.iload_3 dX5_standsNow_113 rfl ?_
  refine Ev.icmp_lt 130 dX5_standsNow_114 (by decide) (fun h114 => ?_) (fun h114 => ?_)
  · rw [stb_f bw hf] at h114
    have e : zb (stw b r N f v S a) = 0 := zb_f (fun q => h114 q.1)
    refine Ev.iconst (v := 0) dX5_standsNow_130 (by decide) ?_
    refine Ev.zret dX5_standsNow_131 (by decide) ?_
    exact ⟨by rw [e], rfl⟩
  rw [stb_f bw hf] at h114
  refine Ev.iload dX5_standsNow_117 rfl ?_
  refine k_X5_standBy (m_standBy _) dX5_standsNow_119 wl_X5_162 (Nat.le_of_ble_eq_true rfl) ?_
  refine Ev.iload_3 dX5_standsNow_122 rfl ?_
  refine Ev.icmp_lt 130 dX5_standsNow_123 (by decide) (fun h123 => ?_) (fun h123 => ?_)
  · rw [stb_f be hf] at h123
    have e : zb (stw b r N f v S a) = 0 := zb_f (fun q => h123 q.2)
    refine Ev.iconst (v := 0) dX5_standsNow_130 (by decide) ?_
    refine Ev.zret dX5_standsNow_131 (by decide) ?_
    exact ⟨by rw [e], rfl⟩
  rw [stb_f be hf] at h123
  have e : zb (stw b r N f v S a) = 1 := zb_t ⟨Decidable.not_not.mp h114, Decidable.not_not.mp h123⟩
  refine Ev.iconst (v := 1) dX5_standsNow_126 (by decide) ?_
  refine Ev.goto 131 dX5_standsNow_127 (by decide) ?_
  refine Ev.zret dX5_standsNow_131 (by decide) ?_
  exact ⟨by rw [e], rfl⟩

theorem up24 {F : Nat → Nat → Int32} {a : Nat → Nat} {k : Nat} (ha : ∀ j, j < 5 → F 24 j = nI (a j)) (j : Nat) (hj : j < 5) (x : Nat) : up2 F 24 k (nI x) 24 j = nI (if j = k then x else a j) := by
  show upd (F 24) k (nI x) j = _
  by_cases h : j = k
  · rw [h, pk_us, if_pos rfl]
  · rw [pk_un h, if_neg h, ha j hj]
theorem upinc {F : Nat → Nat → Int32} {a : Nat → Nat} {k : Nat} (ha : ∀ j, j < 5 → F 24 j = nI (a j)) (hk : k < 5) (j : Nat) (hj : j < 5) : up2 F 24 k (F 24 k + 1) 24 j = nI (inc (k, a) j) := by
  rw [ha k hk, nI_1, up24 ha j hj]
  unfold inc
  by_cases h : j = k
  · subst h; simp
  · rw [if_neg h, if_neg h]

set_option maxHeartbeats 4000000 in
set_option maxRecDepth 100000 in
theorem m_np_loop {d : Nat} {g : Nat → Int32} {G : Nat → Int64} {F0 : Nat → Nat → Int32} {V N : Nat} {S : Nat} (hS : S < 32) (okg : g 2 = nI N ∧ N ≤ 5) : ∀ (n k : Nat) (a : Nat → Nat) (F : Nat → Nat → Int32) (R : Nat × (Nat → Nat)), k + n = N → (∀ j, j < 5 → F 24 j = nI (a j)) → (∀ i, a i ≤ 4) → Ax 24 F0 F → nx S n k a = R → Ev (d + 1) yX5_nextPlaces cX5_nextPlaces (some .boolean) 2 [some (.ref 0), some (.int (nI S)), some (.int (nI k))] [] (modW g G F) (fun rv w => ∃ F1 : Nat → Nat → Int32, w = modW g G F1 ∧ Ax 24 F0 F1 ∧ ((R.1 < N ∧ rv = some (.int 1) ∧ ∀ k, k < 5 → F1 24 k = nI (inc R k)) ∨ (¬ R.1 < N ∧ rv = some (.int 0)))) := by
  intro n
  induction n with
  | zero =>
    intro k a F R hk ha ha4 hA hR
    have hk : k = N := by omega
    subst hk
    refine Ev.iload_2 dX5_nextPlaces_2 rfl ?_
    refine Ev.aload_0 dX5_nextPlaces_3 rfl ?_
    refine Ev.getf cf5 2 (by decide) wf_X5_134 dX5_nextPlaces_4 rfl rfl ?_
    refine Ev.icmp_ge 41 dX5_nextPlaces_7 (by decide) (fun h7 => ?_) (fun h7 => ?_)
    · refine Ev.iload_2 dX5_nextPlaces_41 rfl ?_
      refine Ev.aload_0 dX5_nextPlaces_42 rfl ?_
      refine Ev.getf cf5 2 (by decide) wf_X5_134 dX5_nextPlaces_43 rfl rfl ?_
      refine Ev.icmp_ne 51 dX5_nextPlaces_46 (by decide) (fun h46 => ?_) (fun h46 => ?_)
      · exact absurd okg.1.symm h46
      refine Ev.iconst (v := 0) dX5_nextPlaces_49 (by decide) ?_
      refine Ev.zret dX5_nextPlaces_50 (by decide) ?_
      exact ⟨F, rfl, hA, Or.inr ⟨by rw [← hR]; exact Nat.lt_irrefl _, rfl⟩⟩
    · exact absurd (lp_le okg.1 (by omega) (by have := okg.2; omega)) h7
  | succ n ih =>
    intro k a F R hk ha ha4 hA hR
    have hk5 : k < 5 := by have := okg.2; omega
    refine Ev.iload_2 dX5_nextPlaces_2 rfl ?_
    refine Ev.aload_0 dX5_nextPlaces_3 rfl ?_
    refine Ev.getf cf5 2 (by decide) wf_X5_134 dX5_nextPlaces_4 rfl rfl ?_
    refine Ev.icmp_ge 41 dX5_nextPlaces_7 (by decide) (fun h7 => ?_) (fun h7 => ?_)
    · exact absurd h7 (lp_ge okg.1 (by omega) (by have := okg.2; omega))
    refine Ev.iload_1 dX5_nextPlaces_10 rfl ?_
    refine Ev.iload_2 dX5_nextPlaces_11 rfl ?_
    refine k_X5_isIn (m_isIn _ _) dX5_nextPlaces_12 wl_X5_172 (Nat.le_of_ble_eq_true rfl) ?_
    refine Ev.if_eq 28 dX5_nextPlaces_15 (by decide) (fun h15 => ?_) (fun h15 => ?_)
    · have hc : ¬ (bi S k = 1 ∧ ¬ a k = 4) := fun q => by rw [isin_b hS hk5, if_pos q.1] at h15; exact absurd h15 (by decide)
      refine Ev.aload_0 dX5_nextPlaces_28 rfl ?_
      refine Ev.getf cf5 24 (by decide) wf_X5_48 dX5_nextPlaces_29 rfl rfl ?_
      refine Ev.iload_2 dX5_nextPlaces_32 rfl ?_
      refine Ev.iconst (v := 0) dX5_nextPlaces_33 (by decide) ?_
      refine aw_modW_13 dX5_nextPlaces_34 (by omega) ?_
      first | refine Ev.incn2 dX5_nextPlaces_35 rfl ?_ | refine Ev.inc2 dX5_nextPlaces_35 rfl ?_
      refine Ev.goto 2 dX5_nextPlaces_38 (by decide) ?_
      exact ih (k + 1) (fun j => if j = k then 0 else a j) (up2 F 24 k 0) R (by omega) (fun j hj => up24 ha j hj 0) (dig0 ha4) (hA.up k 0) (by rw [← hR, nx, if_neg hc])
    have hb : bi S k = 1 := by
      by_cases q : bi S k = 1
      · exact q
      · rw [isin_b hS hk5, if_neg q] at h15; exact absurd rfl h15
    refine Ev.aload_0 dX5_nextPlaces_18 rfl ?_
    refine Ev.getf cf5 24 (by decide) wf_X5_48 dX5_nextPlaces_19 rfl rfl ?_
    refine Ev.iload_2 dX5_nextPlaces_22 rfl ?_
    refine Ev.aldn dX5_nextPlaces_23 rfl (by omega) (by decide) ?_
    refine Ev.iconst (v := 4) dX5_nextPlaces_24 (by decide) ?_
    refine Ev.icmp_ne 41 dX5_nextPlaces_25 (by decide) (fun h25 => ?_) (fun h25 => ?_)
    · have hc : bi S k = 1 ∧ ¬ a k = 4 := ⟨hb, fun q => h25 (by rw [ha k hk5, q]; rfl)⟩
      have hR : (k, a) = R := by rw [← hR, nx, if_pos hc]
      subst hR
      refine Ev.iload_2 dX5_nextPlaces_41 rfl ?_
      refine Ev.aload_0 dX5_nextPlaces_42 rfl ?_
      refine Ev.getf cf5 2 (by decide) wf_X5_134 dX5_nextPlaces_43 rfl rfl ?_
      refine Ev.icmp_ne 51 dX5_nextPlaces_46 (by decide) (fun h46 => ?_) (fun h46 => ?_)
      · refine Ev.aload_0 dX5_nextPlaces_51 rfl ?_
        refine Ev.getf cf5 24 (by decide) wf_X5_48 dX5_nextPlaces_52 rfl rfl ?_
        refine Ev.iload_2 dX5_nextPlaces_55 rfl ?_
        refine Ev.dup2 dX5_nextPlaces_56 rfl rfl ?_
        refine Ev.aldn dX5_nextPlaces_57 rfl (by omega) (by decide) ?_
        refine Ev.iconst (v := 1) dX5_nextPlaces_58 (by decide) ?_
        refine Ev.iadd dX5_nextPlaces_59 ?_
        refine aw_modW_13 dX5_nextPlaces_60 (by omega) ?_
        refine Ev.iconst (v := 1) dX5_nextPlaces_61 (by decide) ?_
        refine Ev.zret dX5_nextPlaces_62 (by decide) ?_
        exact ⟨_, rfl, hA.up k _, Or.inl ⟨by show k < N; omega, rfl, fun j hj => upinc ha hk5 j hj⟩⟩
      · exact absurd (h46.trans okg.1) (fun q => absurd ((nI_eq (by omega) (by omega)).mp q) (by omega))
    have hc : ¬ (bi S k = 1 ∧ ¬ a k = 4) := fun q => q.2 ((nI_eq (a := a k) (b := 4) (by have := ha4 k; omega) (by decide)).mp (by rw [← ha k hk5, h25]; rfl))
    refine Ev.aload_0 dX5_nextPlaces_28 rfl ?_
    refine Ev.getf cf5 24 (by decide) wf_X5_48 dX5_nextPlaces_29 rfl rfl ?_
    refine Ev.iload_2 dX5_nextPlaces_32 rfl ?_
    refine Ev.iconst (v := 0) dX5_nextPlaces_33 (by decide) ?_
    refine aw_modW_13 dX5_nextPlaces_34 (by omega) ?_
    first | refine Ev.incn2 dX5_nextPlaces_35 rfl ?_ | refine Ev.inc2 dX5_nextPlaces_35 rfl ?_
    refine Ev.goto 2 dX5_nextPlaces_38 (by decide) ?_
    exact ih (k + 1) (fun j => if j = k then 0 else a j) (up2 F 24 k 0) R (by omega) (fun j hj => up24 ha j hj 0) (dig0 ha4) (hA.up k 0) (by rw [← hR, nx, if_neg hc])

set_option maxHeartbeats 4000000 in
set_option maxRecDepth 100000 in
theorem m_nextPlaces {d : Nat} {g : Nat → Int32} {G : Nat → Int64} {F : Nat → Nat → Int32} {V N : Nat} (ok : MOK g F V N) {S : Nat} (hS : S < 32) {a : Nat → Nat} (ha : ∀ k, k < 5 → F 24 k = nI (a k)) (ha4 : ∀ i, a i ≤ 4)  : Ev (d + 1) yX5_nextPlaces cX5_nextPlaces (some .boolean) 0 [some (.ref 0), some (.int (nI S)), none] [] (modW g G F) (fun rv w => ∃ F1 : Nat → Nat → Int32, w = modW g G F1 ∧ Ax 24 F F1 ∧ (((nx S N 0 a).1 < N ∧ rv = some (.int 1) ∧ ∀ k, k < 5 → F1 24 k = nI (inc (nx S N 0 a) k)) ∨ (¬ (nx S N 0 a).1 < N ∧ rv = some (.int 0)))) := by
  refine Ev.iconst (v := 0) dX5_nextPlaces_0 (by decide) ?_
  refine Ev.ist2 dX5_nextPlaces_1 rfl ?_
  exact m_np_loop (V := V) hS ⟨ok.2.1, ok.2.2.2.1⟩ N 0 a F _ (by omega) ha ha4 (Ax.refl 24 F) rfl

set_option maxHeartbeats 4000000 in
set_option maxRecDepth 100000 in
theorem m_cs_end {d : Nat} {g : Nat → Int32} {G : Nat → Int64} {F0 : Nat → Nat → Int32} {V N : Nat} (ok0 : MOK g F0 V N) {b o r : Nat → Nat} (pk0 : PK (vM F0) V N b o r) {v f S : Nat} (hv : v < V) (hf : f ≤ 20) (hS : S < 32) {F : Nat → Nat → Int32} (hA : Ax 24 F0 F) (hn : ¬ std b r N f v S) : Ev (d + 2) yX5_canStand cX5_canStand (some .boolean) 26 [some (.ref 0), some (.int (nI v)), some (.int (nI S)), some (.int (nI f)), some (.int 0)] [] (modW g G F) (fun rv w => ∃ F1 : Nat → Nat → Int32, w = modW g G F1 ∧ Ax 24 F0 F1 ∧ rv = some (.int (zb (std b r N f v S)))) := by
  refine Ev.iload dX5_canStand_26 rfl ?_
  refine Ev.if_eq 53 dX5_canStand_28 (by decide) (fun hcst => ?_) (fun hcst => ?_)
  rotate_left
  · exact absurd hcst (by decide)
  refine Ev.iconst (v := 0) dX5_canStand_53 (by decide) ?_
  refine Ev.zret dX5_canStand_54 (by decide) ?_
  exact ⟨F, rfl, hA, by rw [zb_f hn]⟩

set_option maxHeartbeats 4000000 in
set_option maxRecDepth 100000 in
theorem m_cs_loop {d : Nat} {g : Nat → Int32} {G : Nat → Int64} {F0 : Nat → Nat → Int32} {V N : Nat} (ok0 : MOK g F0 V N) {b o r : Nat → Nat} (pk0 : PK (vM F0) V N b o r) {v f S : Nat} (hv : v < V) (hf : f ≤ 20) (hS : S < 32) : ∀ (m : Nat) (a : Nat → Nat) (F : Nat → Nat → Int32), 5 ^ N - vl S a N 0 ≤ m → (∀ k, k < 5 → F 24 k = nI (a k)) → (∀ i, a i ≤ 4) → (std b r N f v S → vl S a N 0 ≤ vl S (fun _ => 2) N 0) → Ax 24 F0 F → Ev (d + 2) yX5_canStand cX5_canStand (some .boolean) 26 [some (.ref 0), some (.int (nI v)), some (.int (nI S)), some (.int (nI f)), some (.int 1)] [] (modW g G F) (fun rv w => ∃ F1 : Nat → Nat → Int32, w = modW g G F1 ∧ Ax 24 F0 F1 ∧ rv = some (.int (zb (std b r N f v S)))) := by
  intro m
  induction m with
  | zero =>
    intro a F hm0 ha ha4 hm hA
    have := vl_bd (S := S) ha4 N 0
    omega
  | succ m ih =>
    intro a F hm0 ha ha4 hm hA
    have pk := pk0.ag (hA.ag (by decide) (by decide))
    have ok := ok0.ag (hA.ag (by decide) (by decide))
    refine Ev.iload dX5_canStand_26 rfl ?_
    refine Ev.if_eq 53 dX5_canStand_28 (by decide) (fun hcst => ?_) (fun hcst => ?_)
    · exact absurd hcst (by decide)
    refine Ev.aload_0 dX5_canStand_31 rfl ?_
    refine Ev.iload_1 dX5_canStand_32 rfl ?_
    refine Ev.iload_2 dX5_canStand_33 rfl ?_
    refine Ev.iload_3 dX5_canStand_34 rfl ?_
    refine k_X5_standsNow (m_standsNow ok pk hv hf hS ha ha4) dX5_canStand_35 wl_X5_231 rfl (Nat.le_of_ble_eq_true rfl) ?_
    refine Ev.if_eq 43 dX5_canStand_38 (by decide) (fun h38 => ?_) (fun h38 => ?_)
    · have hs : ¬ stw b r N f v S a := fun q => by rw [zb_t q] at h38; exact absurd h38 (by decide)
      refine Ev.aload_0 dX5_canStand_43 rfl ?_
      refine Ev.iload_2 dX5_canStand_44 rfl ?_
      refine Ev.callV 0 [.int (nI S)] (m_nextPlaces ok hS ha ha4) dX5_canStand_45 wl_X5_234 wi_X5_nextPlaces we_X5_nextPlaces ok_X5_nextPlaces cf5 rfl rfl (by simp [ev_e, Value.category]) rfl (Nat.le_of_ble_eq_true rfl) rfl (fun rv w2 hq => ?_)
      obtain ⟨F1, rfl, hA1, hq⟩ := hq
      rcases hq with ⟨hj, rfl, h24⟩ | ⟨hj, rfl⟩
      · have hj0 : (nx S N 0 a).1 < 0 + N := by omega
        refine Ev.ist4 dX5_canStand_48 rfl ?_
        refine Ev.goto 26 dX5_canStand_50 (by decide) ?_
        refine ih (inc (nx S N 0 a)) F1 (by have := nx_step N 0 a ha4 hj0; have := vl_bd (S := S) (inc_dig ha4 hj0) N 0; omega) h24 (inc_dig ha4 hj0) (fun hs2 => ?_) (fun c hc => (hA1 c hc).trans (hA c hc))
        rcases Nat.lt_or_ge (vl S a N 0) (vl S (fun _ => 2) N 0) with hl | hl
        · exact (nx_lt (fun _ => by decide) N 0 a ha4 hl).2
        · exact absurd (std_stw (fun i hi hbi => vl_inj ha4 (b := fun _ => 2) (fun _ => by decide) N 0 (Nat.le_antisymm (hm hs2) hl) i (by omega) (by omega) hbi) hs2) hs
      · refine Ev.ist4 dX5_canStand_48 rfl ?_
        refine Ev.goto 26 dX5_canStand_50 (by decide) ?_
        refine m_cs_end ok0 pk0 hv hf hS (fun c hc => (hA1 c hc).trans (hA c hc)) (fun hs2 => ?_)
        rcases Nat.lt_or_ge (vl S a N 0) (vl S (fun _ => 2) N 0) with hl | hl
        · exact (hj (by have := (nx_lt (m := fun _ => 2) (fun _ => by decide) N 0 a ha4 hl).1; omega)).elim
        · exact absurd (std_stw (fun i hi hbi => vl_inj ha4 (b := fun _ => 2) (fun _ => by decide) N 0 (Nat.le_antisymm (hm hs2) hl) i (by omega) (by omega) hbi) hs2) hs
    have hs : stw b r N f v S a := by
      by_cases q : stw b r N f v S a
      · exact q
      · rw [zb_f q] at h38; exact absurd rfl h38
    refine Ev.iconst (v := 1) dX5_canStand_41 (by decide) ?_
    refine Ev.zret dX5_canStand_42 (by decide) ?_
    exact ⟨F, rfl, hA, by rw [zb_t (stw_std ha4 hs)]⟩

theorem up0 {F : Nat → Nat → Int32} {c k : Nat} (h : ∀ j, j < k → F c j = nI 0) (j : Nat) (hj : j < k + 1) : up2 F c k 0 c j = nI 0 := by
  show (if c = c then upd (F c) k 0 else F c) j = nI 0
  rw [if_pos rfl]
  by_cases e : j = k
  · rw [e, pk_us]; rfl
  · rw [pk_un e]; exact h j (by omega)

set_option maxHeartbeats 4000000 in
set_option maxRecDepth 100000 in
theorem m_cs_z {d : Nat} {g : Nat → Int32} {G : Nat → Int64} {F0 : Nat → Nat → Int32} {v f S : Nat} {Q : Option Value → List Ce → Prop} : ∀ (n k : Nat) (F : Nat → Nat → Int32), k + n = 5 → Ax 24 F0 F → (∀ j, j < k → F 24 j = nI 0) → (∀ F : Nat → Nat → Int32, Ax 24 F0 F → (∀ j, j < 5 → F 24 j = nI 0) → Ev (d + 2) yX5_canStand cX5_canStand (some .boolean) 23 [some (.ref 0), some (.int (nI v)), some (.int (nI S)), some (.int (nI f)), some (.int (nI 5))] [] (modW g G F) Q) → Ev (d + 2) yX5_canStand cX5_canStand (some .boolean) 3 [some (.ref 0), some (.int (nI v)), some (.int (nI S)), some (.int (nI f)), some (.int (nI k))] [] (modW g G F) Q := by
  intro n
  induction n with
  | zero =>
    intro k F hk hA h0 K
    have hk : k = 5 := by omega
    subst hk
    refine Ev.iload dX5_canStand_3 rfl ?_
    refine Ev.iconst (v := 5) dX5_canStand_5 (by decide) ?_
    refine Ev.icmp_ge 23 dX5_canStand_6 (by decide) (fun h6 => ?_) (fun h6 => ?_)
    · exact K F hA (fun j hj => h0 j (by omega))
    · exact absurd (lp_le (x := 5) (N := 5) rfl (by omega) (by omega)) h6
  | succ n ih =>
    intro k F hk hA h0 K
    refine Ev.iload dX5_canStand_3 rfl ?_
    refine Ev.iconst (v := 5) dX5_canStand_5 (by decide) ?_
    refine Ev.icmp_ge 23 dX5_canStand_6 (by decide) (fun h6 => ?_) (fun h6 => ?_)
    · exact absurd h6 (lp_ge (x := 5) (N := 5) rfl (by omega) (by omega))
    refine Ev.aload_0 dX5_canStand_9 rfl ?_
    refine Ev.getf cf5 24 (by decide) wf_X5_48 dX5_canStand_10 rfl rfl ?_
    refine Ev.iload dX5_canStand_13 rfl ?_
    refine Ev.iconst (v := 0) dX5_canStand_15 (by decide) ?_
    refine aw_modW_13 dX5_canStand_16 (by omega) ?_
    first | refine Ev.incn4 dX5_canStand_17 rfl ?_ | refine Ev.inc4 dX5_canStand_17 rfl ?_
    refine Ev.goto 3 dX5_canStand_20 (by decide) ?_
    exact ih (k + 1) (up2 F 24 k 0) (by omega) (hA.up k 0) (fun j hj => up0 h0 j hj) K

theorem vl_0 {S : Nat} : ∀ (n k : Nat), vl S (fun _ => 0) n k ≤ vl S (fun _ => 2) n k
  | 0, _ => Nat.le_refl _
  | n + 1, k => by
    have := vl_0 (S := S) n (k + 1)
    rw [vl, vl]
    split <;> omega

set_option maxHeartbeats 4000000 in
set_option maxRecDepth 100000 in
theorem m_canStand {d : Nat} {g : Nat → Int32} {G : Nat → Int64} {F : Nat → Nat → Int32} {V N : Nat} (ok : MOK g F V N) {b o r : Nat → Nat} (pk : PK (vM F) V N b o r) {v f S : Nat} (hv : v < V) (hf : f ≤ 20) (hS : S < 32)  : Ev (d + 2) yX5_canStand cX5_canStand (some .boolean) 0 [some (.ref 0), some (.int (nI v)), some (.int (nI S)), some (.int (nI f)), none] [] (modW g G F) (fun rv w => ∃ F1 : Nat → Nat → Int32, w = modW g G F1 ∧ Ax 24 F F1 ∧ rv = some (.int (zb (std b r N f v S)))) := by
  refine Ev.iconst (v := 0) dX5_canStand_0 (by decide) ?_
  refine Ev.ist4 dX5_canStand_1 rfl ?_
  refine m_cs_z 5 0 F (by omega) (Ax.refl 24 F) (fun j hj => absurd hj (by omega)) (fun F1 hA h0 => ?_)
  refine Ev.iconst (v := 1) dX5_canStand_23 (by decide) ?_
  refine Ev.ist4 dX5_canStand_24 rfl ?_
  exact m_cs_loop ok pk hv hf hS _ (fun _ => 0) F1 (Nat.le_refl _) h0 (fun _ => by decide) (fun _ => vl_0 N 0) hA

theorem p32 {N : Nat} (h : N ≤ 5) : 2 ^ N ≤ 32 := Nat.le_trans (Nat.pow_le_pow_right (by decide) h) (by decide)
theorem and32 {a b : Nat} (ha : a < 32) (hb : b < 32) : nI a &&& nI b = nI (a &&& b) ∧ (nI (a ||| b) = nI a ||| nI b) ∧ a &&& b < 32 ∧ a ||| b < 32 := by
  have q : ∀ a b : Fin 32, nI a.val &&& nI b.val = nI (a.val &&& b.val) ∧ (nI (a.val ||| b.val) = nI a.val ||| nI b.val) ∧ a.val &&& b.val < 32 ∧ a.val ||| b.val < 32 := by decide +kernel
  exact q ⟨a, ha⟩ ⟨b, hb⟩
theorem os_sm {X : Nat → Nat → Int32} {S : Nat} {o : Nat → Nat} (hS : S < 32) : ∀ (n k c : Nat), k + n ≤ 5 → (∀ j, k ≤ j → j < k + n → X 2 j = nI (o j)) → osF X (nI S) n k (nI c) = nI (c + sm o S n k)
  | 0, _, _, _, _ => rfl
  | n + 1, k, c, hk, ho => by
    rw [osF, sm, isin_b hS (by omega), ho k (by omega) (by omega)]
    by_cases hb : bi S k = 1
    · rw [if_pos hb, if_pos hb, if_neg (by decide), nI_add, os_sm hS n (k + 1) _ (by omega) (fun j h1 h2 => ho j (by omega) (by omega))]
      congr 1; omega
    · rw [if_neg hb, if_neg hb, if_pos rfl]
      rw [show nI c + (0 : Int32) = nI c from by simp, os_sm hS n (k + 1) _ (by omega) (fun j h1 h2 => ho j (by omega) (by omega))]
      congr 1; omega
theorem us_lt {q : Nat → Nat} : ∀ (n s u : Nat), u < 32 → (∀ i, s ≤ i → i < s + n → q i < 32) → us q n s u < 32
  | 0, _, _, h, _ => h
  | n + 1, s, u, h, hq => us_lt n (s + 1) _ (and32 h (hq s (by omega) (by omega))).2.2.2 (fun i h1 h2 => hq i (by omega) (by omega))

theorem upd_ne {f : Nat → Int32} {k j : Nat} (x : Int32) (h : j ≠ k) : upd f k x j = f j := pk_un h

set_option maxHeartbeats 4000000 in
set_option maxRecDepth 100000 in
theorem m_ir_loop {d : Nat} {G : Nat → Int64} {F : Nat → Nat → Int32} {V N : Nat} {b o r : Nat → Nat} {f : Nat} {q : Nat → Nat} (h4 : V ≤ 4) (h5 : N ≤ 5) (hq : ∀ i, i < V → F 25 i = nI (q i) ∧ q i < 2 ^ N) (hs : ∀ i, i < V → F 23 (32 * i + q i) = zb (std b r N f i (q i))) {g0 : Nat → Int32} (ok : MOK g0 F V N) (pk : PK (vM F) V N b o r) : ∀ (n s u c : Nat) (g : Nat → Int32), s + n = V → u < 32 → (∀ i, i ≠ 27 → i ≠ 28 → g i = g0 i) → g 27 = nI c → (va q V 0 0 ↔ va q n s u) → us q n s u = us q V 0 0 → c + mn b r N f q n s = mn b r N f q V 0 → Ev (d + 2) yX5_isRow cX5_isRow (some .boolean) 9 [some (.ref 0), some (.int (nI u)), some (.int (nI s))] [] (modW g G F) (fun rv w => ∃ g1 : Nat → Int32, w = modW g1 G F ∧ (∀ i, i ≠ 27 → i ≠ 28 → g1 i = g0 i) ∧ ((va q V 0 0 ∧ rv = some (.int 1) ∧ g1 27 = nI (mn b r N f q V 0) ∧ g1 28 = nI (ozr o N V q)) ∨ (¬ va q V 0 0 ∧ rv = some (.int 0)))) := by
  intro n
  induction n with
  | zero =>
    intro s u c g hsn hu32 hg h27 hva hu hc
    have hg1 : g 1 = nI V := (hg 1 (by omega) (by omega)).trans ok.1
    have hu : u = us q V 0 0 := hu
    refine Ev.iload_2 dX5_isRow_9 rfl ?_
    refine Ev.aload_0 dX5_isRow_10 rfl ?_
    refine Ev.getf cf5 1 (by decide) wf_X5_131 dX5_isRow_11 rfl rfl ?_
    refine Ev.icmp_ge 78 dX5_isRow_14 (by decide) (fun h14 => ?_) (fun h14 => ?_)
    · refine Ev.aload_0 dX5_isRow_78 rfl ?_
      refine Ev.aload_0 dX5_isRow_79 rfl ?_
      refine Ev.iload_1 dX5_isRow_80 rfl ?_
      refine k_X5_ouncesIn (m_ouncesIn (ok.g (hg 1 (by omega) (by omega)) (hg 2 (by omega) (by omega))) (nI u)) dX5_isRow_81 wl_X5_192 rfl (Nat.le_of_ble_eq_true rfl) ?_
      refine pw_modW_0_28 dX5_isRow_84 wf_X5_240 ?_
      refine Ev.iconst (v := 1) dX5_isRow_87 (by decide) ?_
      refine Ev.zret dX5_isRow_88 (by decide) ?_
      exact ⟨_, rfl, fun i h1 h2 => (upd_ne _ h2).trans (hg i h1 h2), Or.inl ⟨hva.mpr trivial, rfl, by rw [upd_ne _ (by decide), h27, ← hc]; rfl, by rw [pk_us]; show os _ N _ = _; unfold os ozr; rw [← hu]; exact (os_sm hu32 N 0 0 (by omega) (fun j _ h => (pk.2.1 j (by omega)).1)).trans (by rw [Nat.zero_add])⟩⟩
    · exact absurd (lp_le hg1 (by omega) (by omega)) h14
  | succ n ih =>
    intro s u c g hsn hu32 hg h27 hva hu hc
    have hg1 : g 1 = nI V := (hg 1 (by omega) (by omega)).trans ok.1
    have hsV : s < V := by omega
    have hq32 : q s < 32 := by have := (hq s hsV).2; have := p32 h5; omega
    refine Ev.iload_2 dX5_isRow_9 rfl ?_
    refine Ev.aload_0 dX5_isRow_10 rfl ?_
    refine Ev.getf cf5 1 (by decide) wf_X5_131 dX5_isRow_11 rfl rfl ?_
    refine Ev.icmp_ge 78 dX5_isRow_14 (by decide) (fun h14 => ?_) (fun h14 => ?_)
    · exact absurd h14 (lp_ge hg1 (by omega) (by omega))
    refine Ev.iload_1 dX5_isRow_17 rfl ?_
    refine Ev.aload_0 dX5_isRow_18 rfl ?_
    refine Ev.getf cf5 25 (by decide) wf_X5_51 dX5_isRow_19 rfl rfl ?_
    refine Ev.iload_2 dX5_isRow_22 rfl ?_
    refine Ev.aldn dX5_isRow_23 rfl (by omega) (by decide) ?_
    refine Ev.iand dX5_isRow_24 ?_
    refine ev_top (show nI (u &&& q s) = nI u &&& F 25 s from by rw [(hq s hsV).1]; exact (and32 hu32 hq32).1.symm) ?_
    refine Ev.if_eq 30 dX5_isRow_25 (by decide) (fun h25 => ?_) (fun h25 => ?_)
    · have hd0 : u &&& q s = 0 := (nI_eq (b := 0) (by have := (and32 hu32 hq32).2.2.1; omega) (by decide)).mp h25
      refine Ev.iload_1 dX5_isRow_30 rfl ?_
      refine Ev.aload_0 dX5_isRow_31 rfl ?_
      refine Ev.getf cf5 25 (by decide) wf_X5_51 dX5_isRow_32 rfl rfl ?_
      refine Ev.iload_2 dX5_isRow_35 rfl ?_
      refine Ev.aldn dX5_isRow_36 rfl (by omega) (by decide) ?_
      refine Ev.ior dX5_isRow_37 ?_
      refine ev_top (show nI (u ||| q s) = nI u ||| F 25 s from by rw [(hq s hsV).1]; exact (and32 hu32 hq32).2.1) ?_
      refine Ev.ist1 dX5_isRow_38 rfl ?_
      refine Ev.aload_0 dX5_isRow_39 rfl ?_
      refine Ev.dup dX5_isRow_40 rfl ?_
      refine Ev.getf cf5 27 (by decide) wf_X5_237 dX5_isRow_41 rfl rfl ?_
      refine Ev.aload_0 dX5_isRow_44 rfl ?_
      refine Ev.getf cf5 23 (by decide) wf_X5_44 dX5_isRow_45 rfl rfl ?_
      refine Ev.bipush (v := 32) dX5_isRow_48 (by decide) ?_
      refine Ev.iload_2 dX5_isRow_50 rfl ?_
      refine Ev.imul dX5_isRow_51 ?_
      refine Ev.aload_0 dX5_isRow_52 rfl ?_
      refine Ev.getf cf5 25 (by decide) wf_X5_51 dX5_isRow_53 rfl rfl ?_
      refine Ev.iload_2 dX5_isRow_56 rfl ?_
      refine Ev.aldn dX5_isRow_57 rfl (by omega) (by decide) ?_
      refine Ev.iadd dX5_isRow_58 ?_
      refine ev_top (show nI (32 * s + q s) = 32 * nI s + F 25 s from by rw [(hq s hsV).1, show (32 : Int32) * nI s = nI (32 * s) from pk_mul 32 s, nI_add]) ?_
      refine Ev.zaldn dX5_isRow_59 rfl (by omega) (by decide) ?_
      refine Ev.if_eq 67 dX5_isRow_60 (by decide) (fun h60 => ?_) (fun h60 => ?_)
      · have e : (if 5 * f ≤ 3 * b s + sm (fun k => r k * 3) (q s) N 0 then 1 else 0) = 0 := if_neg (fun z => by rw [hs s hsV, zb_t z] at h60; exact absurd h60 (by decide))
        have e2 : g 27 + 0 = nI (c + 0) := by rw [h27]; simp
        refine Ev.iconst (v := 0) dX5_isRow_67 (by decide) ?_
        refine Ev.iadd dX5_isRow_68 ?_
        refine ev_top e2.symm ?_
        refine pw_modW_0_27 dX5_isRow_69 wf_X5_237 ?_
        first | refine Ev.incn2 dX5_isRow_72 rfl ?_ | refine Ev.inc2 dX5_isRow_72 rfl ?_
        refine Ev.goto 9 dX5_isRow_75 (by decide) ?_
        exact ih (s + 1) (u ||| q s) _ _ (by omega) (and32 hu32 hq32).2.2.2 (fun i h1 h2 => (upd_ne _ h1).trans (hg i h1 h2)) pk_us (hva.trans ⟨fun z => z.2, fun z => ⟨hd0, z⟩⟩) hu (by rw [← hc, mn, e]; omega)
      have e : (if 5 * f ≤ 3 * b s + sm (fun k => r k * 3) (q s) N 0 then 1 else 0) = 1 := by
        by_cases z : 5 * f ≤ 3 * b s + sm (fun k => r k * 3) (q s) N 0
        · exact if_pos z
        · rw [hs s hsV, zb_f z] at h60; exact absurd rfl h60
      have e2 : g 27 + 1 = nI (c + 1) := by rw [h27, nI_1]
      refine Ev.iconst (v := 1) dX5_isRow_63 (by decide) ?_
      refine Ev.goto 68 dX5_isRow_64 (by decide) ?_
      refine Ev.iadd dX5_isRow_68 ?_
      refine ev_top e2.symm ?_
      refine pw_modW_0_27 dX5_isRow_69 wf_X5_237 ?_
      first | refine Ev.incn2 dX5_isRow_72 rfl ?_ | refine Ev.inc2 dX5_isRow_72 rfl ?_
      refine Ev.goto 9 dX5_isRow_75 (by decide) ?_
      exact ih (s + 1) (u ||| q s) _ _ (by omega) (and32 hu32 hq32).2.2.2 (fun i h1 h2 => (upd_ne _ h1).trans (hg i h1 h2)) pk_us (hva.trans ⟨fun z => z.2, fun z => ⟨hd0, z⟩⟩) hu (by rw [← hc, mn, e]; omega)
    refine Ev.iconst (v := 0) dX5_isRow_28 (by decide) ?_
    refine Ev.zret dX5_isRow_29 (by decide) ?_
    exact ⟨g, rfl, hg, Or.inr ⟨fun z => h25 (by rw [(hva.mp z).1]; rfl), rfl⟩⟩

set_option maxHeartbeats 4000000 in
set_option maxRecDepth 100000 in
theorem m_isRow {d : Nat} {G : Nat → Int64} {F : Nat → Nat → Int32} {V N : Nat} {b o r : Nat → Nat} {f : Nat} {q : Nat → Nat} (h4 : V ≤ 4) (h5 : N ≤ 5) (hq : ∀ i, i < V → F 25 i = nI (q i) ∧ q i < 2 ^ N) (hs : ∀ i, i < V → F 23 (32 * i + q i) = zb (std b r N f i (q i))) {g : Nat → Int32} (ok : MOK g F V N) (pk : PK (vM F) V N b o r)  : Ev (d + 2) yX5_isRow cX5_isRow (some .boolean) 0 [some (.ref 0), none, none] [] (modW g G F) (fun rv w => ∃ g1 : Nat → Int32, w = modW g1 G F ∧ (∀ i, i ≠ 27 → i ≠ 28 → g1 i = g i) ∧ ((va q V 0 0 ∧ rv = some (.int 1) ∧ g1 27 = nI (mn b r N f q V 0) ∧ g1 28 = nI (ozr o N V q)) ∨ (¬ va q V 0 0 ∧ rv = some (.int 0)))) := by
  refine Ev.iconst (v := 0) dX5_isRow_0 (by decide) ?_
  refine Ev.ist1 dX5_isRow_1 rfl ?_
  refine Ev.aload_0 dX5_isRow_2 rfl ?_
  refine Ev.iconst (v := 0) dX5_isRow_3 (by decide) ?_
  refine pw_modW_0_27 dX5_isRow_4 wf_X5_237 ?_
  refine Ev.iconst (v := 0) dX5_isRow_7 (by decide) ?_
  refine Ev.ist2 dX5_isRow_8 rfl ?_
  exact m_ir_loop h4 h5 hq hs ok pk V 0 0 0 _ (by omega) (by omega) (fun i h1 _ => upd_ne _ h1) pk_us Iff.rfl rfl (by omega)
