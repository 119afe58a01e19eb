/-- the best row of those ahead of B -/
def BST (b o r : Nat → Nat) (V N f B : Nat) (most least : Int32) (R : Nat → Int32) : Prop :=
  ((∀ p, rowOk V N p → B ≤ cod p V 0) ∧ most = -1) ∨ ∃ p, rowOk V N p ∧ cod p V 0 < B ∧ most = nI (mn b r N f p V 0) ∧ least = nI (ozr o N V p) ∧ (∀ i, i < V → R i = nI (p i)) ∧ ∀ p2, rowOk V N p2 → cod p2 V 0 < B → key b o r V N f p ≤ key b o r V N f p2
theorem row_bd {V N : Nat} {p : Nat → Nat} (hV : V ≤ 4) (hN : N ≤ 5) (h : ∀ i, i < V → p i < 2 ^ N) : cod p V 0 < 1048576 ∧ ∀ i, 0 ≤ i → i < 0 + V → p i < 32 := by
  have e := p32 hN
  have e4 : 32 ^ V ≤ 1048576 := Nat.le_trans (Nat.pow_le_pow_right (by omega) hV) (by decide)
  have dp : ∀ i, 0 ≤ i → i < 0 + V → p i < 32 := fun i _ hi => by have := h i (by omega); omega
  have := cod_lt V 0 dp
  exact ⟨by omega, dp⟩
theorem ozr_bd {o : Nat → Nat} {N V : Nat} {p : Nat → Nat} (hN : N ≤ 5) (ho : ∀ k, k < N → o k ≤ 9) : ozr o N V p < 64 := by
  have := sm_le (f := o) (S := us p V 0 0) (c := 9) N 0 (fun j _ h => ho j (by omega))
  show sm o (us p V 0 0) N 0 < 64
  omega
/-- same row or not: rows of one number are alike -/
theorem va_congr {p q : Nat → Nat} : ∀ (n s u : Nat), (∀ i, s ≤ i → i < s + n → p i = q i) → (va p n s u ↔ va q n s u)
  | 0, _, _, _ => Iff.rfl
  | n + 1, s, u, h => by
    rw [va, va, h s (by omega) (by omega)]
    have := va_congr n (s + 1) (u ||| q s) (fun i h1 h2 => h i (by omega) (by omega))
    rw [this]
theorem us_congr {p q : Nat → Nat} : ∀ (n s u : Nat), (∀ i, s ≤ i → i < s + n → p i = q i) → us p n s u = us q n s u
  | 0, _, _, _ => rfl
  | n + 1, s, u, h => by rw [us, us, h s (by omega) (by omega), us_congr n (s + 1) _ (fun i h1 h2 => h i (by omega) (by omega))]
theorem mn_congr {b r : Nat → Nat} {N f : Nat} {p q : Nat → Nat} : ∀ (n s : Nat), (∀ i, s ≤ i → i < s + n → p i = q i) → mn b r N f p n s = mn b r N f q n s
  | 0, _, _ => rfl
  | n + 1, s, h => by rw [mn, mn, h s (by omega) (by omega), mn_congr n (s + 1) (fun i h1 h2 => h i (by omega) (by omega))]
theorem key_congr {b o r : Nat → Nat} {V N f : Nat} {p q : Nat → Nat} (h : ∀ i, i < V → p i = q i) : key b o r V N f p = key b o r V N f q := by
  unfold key ozr
  rw [mn_congr V 0 (fun i _ hi => h i (by omega)), us_congr V 0 0 (fun i _ hi => h i (by omega)), cod_congr V 0 (fun i _ hi => h i (by omega))]
theorem row_congr {V N : Nat} {p q : Nat → Nat} (h : ∀ i, i < V → p i = q i) (hp : rowOk V N p) : rowOk V N q := ⟨(va_congr V 0 0 (fun i _ hi => h i (by omega))).mp hp.1, fun i hi => by rw [← h i hi]; exact hp.2 i hi⟩
section BS
variable {b o r : Nat → Nat} {V N f : Nat} {q : Nat → Nat} {most least : Int32} {R : Nat → Int32}
theorem BST.skip0 (hV : V ≤ 4) (hN : N ≤ 5) (hq : ∀ i, i < V → q i < 2 ^ N) (hn : ¬ va q V 0 0) (h : BST b o r V N f (cod q V 0) most least R) : BST b o r V N f (cod q V 0 + 1) most least R := by
  have hne : ∀ p, rowOk V N p → ¬ cod p V 0 = cod q V 0 := fun p hp e => hn ((va_congr V 0 0 (cod_inj V 0 (row_bd hV hN hp.2).2 (row_bd hV hN hq).2 e)).mp hp.1)
  rcases h with ⟨h1, h2⟩ | ⟨p, h1, h2, h3, h4, h5, h6⟩
  · exact Or.inl ⟨fun p hp => by have := h1 p hp; have := hne p hp; omega, h2⟩
  · exact Or.inr ⟨p, h1, by omega, h3, h4, h5, fun p2 hp2 hl => h6 p2 hp2 (by have := hne p2 hp2; omega)⟩
theorem BST.take (hV : V ≤ 4) (hN : N ≤ 5) (ho : ∀ k, k < N → o k ≤ 9) (hq : rowOk V N q) {R' : Nat → Int32} (hR : ∀ i, i < V → R' i = nI (q i)) (hb : most < nI (mn b r N f q V 0) ∨ (nI (mn b r N f q V 0) = most ∧ ¬ least ≤ nI (ozr o N V q))) (h : BST b o r V N f (cod q V 0) most least R) : BST b o r V N f (cod q V 0 + 1) (nI (mn b r N f q V 0)) (nI (ozr o N V q)) R' := by
  refine Or.inr ⟨q, hq, by omega, rfl, rfl, hR, fun p2 hp2 hl => ?_⟩
  by_cases e : cod p2 V 0 = cod q V 0
  · rw [key_congr (p := q) (q := p2) (fun i hi => (cod_inj V 0 (row_bd hV hN hp2.2).2 (row_bd hV hN hq.2).2 e i (by omega) (by omega)).symm)]
    exact Nat.le_refl _
  · rcases h with ⟨h1, h2⟩ | ⟨p, h1, h2, h3, h4, h5, h6⟩
    · have := h1 p2 hp2; omega
    · have hk := h6 p2 hp2 (by omega)
      refine Nat.le_trans ?_ hk
      have m1 := mn_le (b := b) (r := r) (N := N) (f := f) (q := p) V 0
      have m2 := mn_le (b := b) (r := r) (N := N) (f := f) (q := q) V 0
      have o1 := ozr_bd (V := V) (p := p) hN ho
      have o2 := ozr_bd (V := V) (p := q) hN ho
      have c1 := (row_bd hV hN h1.2).1
      have c2 := (row_bd hV hN hq.2).1
      rw [h3, h4, nI_ltI (by omega) (by omega), nI_eq (by omega) (by omega), nI_leI (by omega) (by omega)] at hb
      unfold key
      omega
theorem BST.skip (hV : V ≤ 4) (hN : N ≤ 5) (ho : ∀ k, k < N → o k ≤ 9) (hq : rowOk V N q) (hb : ¬ (most < nI (mn b r N f q V 0) ∨ (nI (mn b r N f q V 0) = most ∧ ¬ least ≤ nI (ozr o N V q)))) (h : BST b o r V N f (cod q V 0) most least R) : BST b o r V N f (cod q V 0 + 1) most least R := by
  rcases h with ⟨h1, h2⟩ | ⟨p, h1, h2, h3, h4, h5, h6⟩
  · exfalso
    refine hb (Or.inl ?_)
    have m2 := mn_le (b := b) (r := r) (N := N) (f := f) (q := q) V 0
    rw [h2, Int32.lt_iff_toInt_lt, nI_toInt (by omega)]
    have : (-1 : Int32).toInt = -1 := by decide
    omega
  · refine Or.inr ⟨p, h1, by omega, h3, h4, h5, fun p2 hp2 hl => ?_⟩
    by_cases e : cod p2 V 0 = cod q V 0
    · rw [key_congr (p := p2) (q := q) (fun i hi => cod_inj V 0 (row_bd hV hN hp2.2).2 (row_bd hV hN hq.2).2 e i (by omega) (by omega))]
      have m1 := mn_le (b := b) (r := r) (N := N) (f := f) (q := p) V 0
      have m2 := mn_le (b := b) (r := r) (N := N) (f := f) (q := q) V 0
      have o1 := ozr_bd (V := V) (p := p) hN ho
      have o2 := ozr_bd (V := V) (p := q) hN ho
      have c1 := (row_bd hV hN h1.2).1
      have c2 := (row_bd hV hN hq.2).1
      rw [h3, h4, nI_ltI (by omega) (by omega), nI_eq (by omega) (by omega), nI_leI (by omega) (by omega)] at hb
      unfold key
      omega
    · exact h6 p2 hp2 (by omega)
theorem BST.next {p : Nat → Nat} {c : Nat} (hV : V ≤ 4) (hN : N ≤ 5) (hq : ∀ i, i < V → q i < 2 ^ N) (hc : c < V) (hp : ∀ i, i < V → p i < 2 ^ N) (h1 : ∀ i, i < c → p i = q i) (h2 : q c < p c) (h3 : ∀ i, c < i → i < V → p i = 0 ∧ q i + 1 = 2 ^ N) (h4 : ∀ x, q c < x → x < p c → ¬ us q c 0 0 &&& x = 0) (h : BST b o r V N f (cod q V 0 + 1) most least R) : cod q V 0 < cod p V 0 ∧ BST b o r V N f (cod p V 0) most least R := by
  have key : ∀ p2, rowOk V N p2 → cod q V 0 < cod p2 V 0 → cod p V 0 ≤ cod p2 V 0 := fun p2 hp2 hl => cod_next (M := 2 ^ N) c V 0 0 hc (fun i h1 h2 => ⟨(row_bd hV hN hq).2 i h1 h2, (row_bd hV hN hp).2 i h1 h2, (row_bd hV hN hp2.2).2 i h1 h2, hp2.2 i (by omega)⟩) (fun i _ hi => h1 i (by omega)) (by rw [Nat.zero_add]; exact h2) (fun i hi1 hi2 => h3 i (by omega) (by omega)) hp2.1 (by rw [Nat.zero_add]; exact h4) hl
  have hlt : cod q V 0 < cod p V 0 := by
    have : ∀ (c n s : Nat), c < n → (∀ i, s ≤ i → i < s + n → q i < 32 ∧ p i < 32) → (∀ i, s ≤ i → i < s + c → p i = q i) → q (s + c) < p (s + c) → cod q n s < cod p n s := by
      intro c
      induction c with
      | zero =>
        intro n s hcn hb he hl
        match n, hcn with
        | n + 1, _ =>
          have c1 := cod_lt (q := q) n (s + 1) (fun i h1 h2 => (hb i (by omega) (by omega)).1)
          have : (q s + 1) * 32 ^ n ≤ p s * 32 ^ n := Nat.mul_le_mul_right _ hl
          rw [Nat.succ_mul] at this
          rw [cod, cod]; omega
      | succ c ih =>
        intro n s hcn hb he hl
        match n, hcn with
        | n + 1, hcn =>
          have := ih n (s + 1) (by omega) (fun i h1 h2 => hb i (by omega) (by omega)) (fun i h1 h2 => he i (by omega) (by omega)) (by rw [show s + 1 + c = s + (c + 1) from by omega]; exact hl)
          rw [cod, cod, he s (by omega) (by omega)]; omega
    exact this c V 0 hc (fun i h1 h2 => ⟨(row_bd hV hN hq).2 i h1 h2, (row_bd hV hN hp).2 i h1 h2⟩) (fun i _ hi => h1 i (by omega)) (by rw [Nat.zero_add]; exact h2)
  refine ⟨hlt, ?_⟩
  rcases h with ⟨k1, k2⟩ | ⟨p0, k1, k2, k3, k4, k5, k6⟩
  · exact Or.inl ⟨fun p2 hp2 => key p2 hp2 (by have := k1 p2 hp2; omega), k2⟩
  · refine Or.inr ⟨p0, k1, by omega, k3, k4, k5, fun p2 hp2 hl => k6 p2 hp2 ?_⟩
    rcases Nat.lt_or_ge (cod q V 0) (cod p2 V 0) with l | l
    · have := key p2 hp2 l; omega
    · omega
theorem row_0 {N : Nat} : ∀ (n s : Nat), va (fun _ => 0) n s 0
  | 0, _ => trivial
  | n + 1, s => ⟨Nat.zero_and _, by have := row_0 (N := N) n (s + 1); rw [Nat.zero_or]; exact this⟩
theorem BST.last (hV : V ≤ 4) (hN : N ≤ 5) (hq : ∀ i, i < V → q i + 1 = 2 ^ N) (h : BST b o r V N f (cod q V 0 + 1) most least R) : ∃ p, FO b o r V N f p ∧ most = nI (mn b r N f p V 0) ∧ least = nI (ozr o N V p) ∧ ∀ i, i < V → R i = nI (p i) := by
  have hall : ∀ p2, rowOk V N p2 → cod p2 V 0 < cod q V 0 + 1 := fun p2 hp2 => by
    have := cod_le (q := p2) (p := q) V 0 (fun i _ hi => by have := hq i (by omega); have := hp2.2 i (by omega); omega)
    omega
  rcases h with ⟨k1, _⟩ | ⟨p0, k1, k2, k3, k4, k5, k6⟩
  · have z : rowOk V N (fun _ => 0) := ⟨row_0 (N := N) V 0, fun i _ => pow_pos5 N⟩
    have := k1 _ z
    have := hall _ z
    omega
  · exact ⟨p0, ⟨k1, fun p2 hp2 => k6 p2 hp2 (hall p2 hp2)⟩, k3, k4, k5⟩
end BS

theorem cp26 {F : Nat → Nat → Int32} {q : Nat → Nat} {k : Nat} (h25 : F 25 k = nI (q k)) (h : ∀ i, i < k → F 26 i = nI (q i)) (i : Nat) (hi : i < k + 1) : up2 F 26 k (F 25 k) 26 i = nI (q i) := by
  show upd (F 26) k (F 25 k) i = _
  by_cases e : i = k
  · rw [e, pk_us, h25]
  · rw [pk_un e]; exact h i (by omega)

set_option maxHeartbeats 4000000 in
set_option maxRecDepth 100000 in
theorem m_pn_cp {d : Nat} {G : Nat → Int64} {F0 : Nat → Nat → Int32} {g : Nat → Int32} {V : Nat} (hg1 : g 1 = nI V) (h4 : V ≤ 4) {q : Nat → Nat} {f : Nat} {x most least : Int32} {Q : Option Value → List Ce → Prop} : ∀ (n k : Nat) (F : Nat → Nat → Int32), k + n = V → (∀ i, i < V → F 25 i = nI (q i)) → (∀ i, i < k → F 26 i = nI (q i)) → (∀ i, V ≤ i → i < 4 → F 26 i = 0) → Ax 26 F0 F → (∀ F : Nat → Nat → Int32, Ax 26 F0 F → (∀ i, i < V → F 26 i = nI (q i)) → (∀ i, V ≤ i → i < 4 → F 26 i = 0) → Ev (d + 3) yX5_packNow cX5_packNow (some .int) 172 [some (.ref 0), some (.int (nI f)), some (.int x), some (.int most), some (.int least), some (.int 1), some (.int (nI V))] [] (modW g G F) Q) → Ev (d + 3) yX5_packNow cX5_packNow (some .int) 143 [some (.ref 0), some (.int (nI f)), some (.int x), some (.int most), some (.int least), some (.int 1), some (.int (nI k))] [] (modW g G F) Q := by
  intro n
  induction n with
  | zero =>
    intro k F hk h25 h26 hz hA K
    have hk : k = V := by omega
    subst hk
    refine Ev.iload dX5_packNow_143 rfl ?_
    refine Ev.aload_0 dX5_packNow_145 rfl ?_
    refine Ev.getf cf5 1 (by decide) wf_X5_131 dX5_packNow_146 rfl rfl ?_
    refine Ev.icmp_ge 172 dX5_packNow_149 (by decide) (fun h149 => ?_) (fun h149 => ?_)
    · exact K F hA h26 hz
    · exact absurd (lp_le hg1 (by omega) (by omega)) h149
  | succ n ih =>
    intro k F hk h25 h26 hz hA K
    refine Ev.iload dX5_packNow_143 rfl ?_
    refine Ev.aload_0 dX5_packNow_145 rfl ?_
    refine Ev.getf cf5 1 (by decide) wf_X5_131 dX5_packNow_146 rfl rfl ?_
    refine Ev.icmp_ge 172 dX5_packNow_149 (by decide) (fun h149 => ?_) (fun h149 => ?_)
    · exact absurd h149 (lp_ge hg1 (by omega) (by omega))
    refine Ev.aload_0 dX5_packNow_152 rfl ?_
    refine Ev.getf cf5 26 (by decide) wf_X5_54 dX5_packNow_153 rfl rfl ?_
    refine Ev.iload dX5_packNow_156 rfl ?_
    refine Ev.aload_0 dX5_packNow_158 rfl ?_
    refine Ev.getf cf5 25 (by decide) wf_X5_51 dX5_packNow_159 rfl rfl ?_
    refine Ev.iload dX5_packNow_162 rfl ?_
    refine Ev.aldn dX5_packNow_164 rfl (by omega) (by decide) ?_
    refine aw_modW_15 dX5_packNow_165 (by omega) ?_
    first | refine Ev.incn6 dX5_packNow_166 rfl ?_ | refine Ev.inc6 dX5_packNow_166 rfl ?_
    refine Ev.goto 143 dX5_packNow_169 (by decide) ?_
    exact ih (k + 1) (up2 F 26 k (F 25 k)) (by omega) (fun i hi => h25 i hi) (fun i hi => cp26 (h25 k (by omega)) h26 i hi) (fun i h1 h2 => (pk_un (by omega)).trans (hz i h1 h2)) (hA.up k _) K

set_option maxHeartbeats 4000000 in
set_option maxRecDepth 100000 in
theorem m_pn_end {d : Nat} {G : Nat → Int64} {F0 : Nat → Nat → Int32} {g0 : Nat → Int32} {V N : Nat} (ok0 : MOK g0 F0 V N) {b o r : Nat → Nat} (pk0 : PK (vM F0) V N b o r) {f : Nat} (hf : f ≤ 20) {x most least : Int32} {Q : Option Value → List Ce → Prop} (K : (∀ (p : Nat → Nat) (g F) (y : Option Value), FO b o r V N f p → (∀ i, i ≠ 27 → i ≠ 28 → g i = g0 i) → Ag F0 F → (∀ i, i < V → F 26 i = nI (p i)) → (∀ i, V ≤ i → i < 4 → F 26 i = 0) → Ev (d + 3) yX5_packNow cX5_packNow (some .int) 181 [some (.ref 0), some (.int (nI f)), some (.int x), some (.int (nI (mn b r N f p V 0))), some (.int (nI (ozr o N V p))), some (.int 0), y] [] (modW g G F) Q)) {g : Nat → Int32} {F : Nat → Nat → Int32} {q : Nat → Nat} (hq : ∀ i, i < V → q i + 1 = 2 ^ N) (hB : BST b o r V N f (cod q V 0 + 1) most least (F 26)) (hg : ∀ i, i ≠ 27 → i ≠ 28 → g i = g0 i) (hA : Ag F0 F) (hz : ∀ i, V ≤ i → i < 4 → F 26 i = 0) (y : Option Value) : Ev (d + 3) yX5_packNow cX5_packNow (some .int) 92 [some (.ref 0), some (.int (nI f)), some (.int x), some (.int most), some (.int least), some (.int 0), y] [] (modW g G F) Q := by
  obtain ⟨p, hp, rfl, rfl, h26⟩ := BST.last ok0.2.2.1 ok0.2.2.2.1 hq hB
  refine Ev.iload dX5_packNow_92 rfl ?_
  refine Ev.if_eq 181 dX5_packNow_94 (by decide) (fun hcst => ?_) (fun hcst => ?_)
  rotate_left
  · exact absurd hcst (by decide)
  exact K p g F y hp hg hA h26 hz

set_option maxHeartbeats 4000000 in
set_option maxRecDepth 100000 in
theorem m_pn_loop {d : Nat} {G : Nat → Int64} {F0 : Nat → Nat → Int32} {g0 : Nat → Int32} {V N : Nat} (ok0 : MOK g0 F0 V N) {b o r : Nat → Nat} (pk0 : PK (vM F0) V N b o r) {f : Nat} (hf : f ≤ 20) (ho : ∀ k, k < N → o k ≤ 9) {x : Int32} {Q : Option Value → List Ce → Prop} (K : (∀ (p : Nat → Nat) (g F) (y : Option Value), FO b o r V N f p → (∀ i, i ≠ 27 → i ≠ 28 → g i = g0 i) → Ag F0 F → (∀ i, i < V → F 26 i = nI (p i)) → (∀ i, V ≤ i → i < 4 → F 26 i = 0) → Ev (d + 3) yX5_packNow cX5_packNow (some .int) 181 [some (.ref 0), some (.int (nI f)), some (.int x), some (.int (nI (mn b r N f p V 0))), some (.int (nI (ozr o N V p))), some (.int 0), y] [] (modW g G F) Q)) : ∀ (m : Nat) (q : Nat → Nat) (most least : Int32) (g : Nat → Int32) (F : Nat → Nat → Int32) (y : Option Value), 1048576 - cod q V 0 ≤ m → (∀ i, i < V → F 25 i = nI (q i) ∧ q i < 2 ^ N) → BST b o r V N f (cod q V 0) most least (F 26) → (∀ i, i ≠ 27 → i ≠ 28 → g i = g0 i) → Ag F0 F → (∀ i, V ≤ i → i < 4 → F 26 i = 0) → (∀ v S, v < V → S < 2 ^ N → F 23 (32 * v + S) = zb (std b r N f v S)) → Ev (d + 3) yX5_packNow cX5_packNow (some .int) 92 [some (.ref 0), some (.int (nI f)), some (.int x), some (.int most), some (.int least), some (.int 1), y] [] (modW g G F) Q := by
  intro m
  induction m with
  | zero =>
    intro q most least g F y hm h25 hB hg hA hz hSt
    have := (row_bd ok0.2.2.1 ok0.2.2.2.1 (fun i hi => (h25 i hi).2)).1
    omega
  | succ m ih =>
    intro q most least g F y hm h25 hB hg hA hz hSt
    have hq0 : ∀ i, i < V → q i < 2 ^ N := fun i hi => (h25 i hi).2
    have ok := ok0.ag hA
    have pk := pk0.ag hA
    refine Ev.iload dX5_packNow_92 rfl ?_
    refine Ev.if_eq 181 dX5_packNow_94 (by decide) (fun hcst => ?_) (fun hcst => ?_)
    · exact absurd hcst (by decide)
    refine Ev.aload_0 dX5_packNow_97 rfl ?_
    refine Ev.callV 0 [] (m_isRow ok0.2.2.1 ok0.2.2.2.1 h25 (fun i hi => hSt i (q i) hi (h25 i hi).2) (ok.g (hg 1 (by omega) (by omega)) (hg 2 (by omega) (by omega))) pk) dX5_packNow_98 wl_X5_246 wi_X5_isRow we_X5_isRow ok_X5_isRow cf5 rfl rfl (by simp [ev_e, Value.category]) rfl (Nat.le_of_ble_eq_true rfl) rfl (fun rv w2 hq => ?_)
    obtain ⟨g1, rfl, hg1q, hq⟩ := hq
    have hgg : ∀ i, i ≠ 27 → i ≠ 28 → g1 i = g0 i := fun i h1 h2 => (hg1q i h1 h2).trans (hg i h1 h2)
    rcases hq with ⟨hva, rfl, e27, e28⟩ | ⟨hva, rfl⟩
    · refine Ev.if_eq 172 dX5_packNow_101 (by decide) (fun hcst => ?_) (fun hcst => ?_)
      · exact absurd hcst (by decide)
      refine Ev.aload_0 dX5_packNow_104 rfl ?_
      refine Ev.getf cf5 27 (by decide) wf_X5_237 dX5_packNow_105 rfl rfl ?_
      refine Ev.iload_3 dX5_packNow_108 rfl ?_
      refine Ev.icmp_gt 129 dX5_packNow_109 (by decide) (fun h109 => ?_) (fun h109 => ?_)
      · have hBB := fun R2 hR2 => BST.take (R' := R2) ok0.2.2.1 ok0.2.2.2.1 ho ⟨hva, hq0⟩ hR2 (Or.inl (by rw [← e27]; exact h109)) hB
        refine Ev.aload_0 dX5_packNow_129 rfl ?_
        refine Ev.getf cf5 27 (by decide) wf_X5_237 dX5_packNow_130 rfl rfl ?_
        rw [e27]
        refine Ev.ist3 dX5_packNow_133 rfl ?_
        refine Ev.aload_0 dX5_packNow_134 rfl ?_
        refine Ev.getf cf5 28 (by decide) wf_X5_240 dX5_packNow_135 rfl rfl ?_
        rw [e28]
        refine Ev.ist4 dX5_packNow_138 rfl ?_
        refine Ev.iconst (v := 0) dX5_packNow_140 (by decide) ?_
        refine Ev.ist6 dX5_packNow_141 rfl ?_
        refine m_pn_cp (F0 := F) ((hgg 1 (by omega) (by omega)).trans ok0.1) ok0.2.2.1 (q := q) V 0 F (by omega) (fun i hi => (h25 i hi).1) (fun i hi => absurd hi (by omega)) hz (Ax.refl 26 F) (fun F2 hA2 h26 hz2 => ?_)
        have hB1 := hBB (F2 26) h26
        have hAx := hA.trans (hA2.ag (by decide) (by decide))
        have hz1 := hz2
        have hS1 : ∀ v S, v < V → S < 2 ^ N → F2 23 (32 * v + S) = zb (std b r N f v S) := fun v S hv hS => by rw [hA2 23 (by decide)]; exact hSt v S hv hS
        have hq25 : ∀ i, i < V → F2 25 i = nI (q i) := fun i hi => by rw [hA2 25 (by decide)]; exact (h25 i hi).1
        have hg1 := hgg
        refine Ev.aload_0 dX5_packNow_172 rfl ?_
        refine Ev.callV 0 [] (m_nextRow ⟨(hg1 1 (by omega) (by omega)).trans ok0.1, (hg1 2 (by omega) (by omega)).trans ok0.2.1⟩ ok0.2.2.1 ok0.2.2.2.1 hq0 hq25) dX5_packNow_173 wl_X5_250 wi_X5_nextRow we_X5_nextRow ok_X5_nextRow cf5 rfl rfl (by simp [ev_e, Value.category]) rfl (Nat.le_of_ble_eq_true rfl) rfl (fun rv2 w3 hq2 => ?_)
        obtain ⟨F1, rfl, hA1, hq2⟩ := hq2
        rcases hq2 with ⟨rfl, hq2⟩ | ⟨rfl, hq2⟩
        rotate_left
        · obtain ⟨p, c, hc, hp, e1, e2, e3, e4⟩ := hq2
          obtain ⟨hlt, hB2⟩ := BST.next ok0.2.2.1 ok0.2.2.2.1 hq0 hc (fun i hi => (hp i hi).2) e1 e2 e3 e4 hB1
          refine Ev.ist5 dX5_packNow_176 rfl ?_
          refine Ev.goto 92 dX5_packNow_178 (by decide) ?_
          exact ih p _ _ _ (F1) _ (by have := (row_bd ok0.2.2.1 ok0.2.2.2.1 (fun i hi => (hp i hi).2)).1; omega) hp (by rw [hA1 26 (by decide)]; exact hB2) hg1 (hAx.trans (hA1.ag (by decide) (by decide))) (fun i h1 h2 => by rw [hA1 26 (by decide)]; exact hz1 i h1 h2) (fun v S hv hS => by rw [hA1 23 (by decide)]; exact hS1 v S hv hS)
        · refine Ev.ist5 dX5_packNow_176 rfl ?_
          refine Ev.goto 92 dX5_packNow_178 (by decide) ?_
          exact m_pn_end ok0 pk0 hf K hq2 (by rw [hA1 26 (by decide)]; exact hB1) hg1 (hAx.trans (hA1.ag (by decide) (by decide))) (fun i h1 h2 => by rw [hA1 26 (by decide)]; exact hz1 i h1 h2) _
      refine Ev.aload_0 dX5_packNow_112 rfl ?_
      refine Ev.getf cf5 27 (by decide) wf_X5_237 dX5_packNow_113 rfl rfl ?_
      refine Ev.iload_3 dX5_packNow_116 rfl ?_
      refine Ev.icmp_ne 172 dX5_packNow_117 (by decide) (fun h117 => ?_) (fun h117 => ?_)
      · have hBB := BST.skip ok0.2.2.1 ok0.2.2.2.1 ho ⟨hva, hq0⟩ (fun z => z.elim (fun z => h109 (by rw [e27]; exact z)) (fun z => h117 (by rw [e27]; exact z.1))) hB
        have hB1 := hBB
        have hAx := hA
        have hz1 := hz
        have hS1 := hSt
        have hq25 : ∀ i, i < V → F 25 i = nI (q i) := fun i hi => (h25 i hi).1
        have hg1 := hgg
        refine Ev.aload_0 dX5_packNow_172 rfl ?_
        refine Ev.callV 0 [] (m_nextRow ⟨(hg1 1 (by omega) (by omega)).trans ok0.1, (hg1 2 (by omega) (by omega)).trans ok0.2.1⟩ ok0.2.2.1 ok0.2.2.2.1 hq0 hq25) dX5_packNow_173 wl_X5_250 wi_X5_nextRow we_X5_nextRow ok_X5_nextRow cf5 rfl rfl (by simp [ev_e, Value.category]) rfl (Nat.le_of_ble_eq_true rfl) rfl (fun rv2 w3 hq2 => ?_)
        obtain ⟨F1, rfl, hA1, hq2⟩ := hq2
        rcases hq2 with ⟨rfl, hq2⟩ | ⟨rfl, hq2⟩
        rotate_left
        · obtain ⟨p, c, hc, hp, e1, e2, e3, e4⟩ := hq2
          obtain ⟨hlt, hB2⟩ := BST.next ok0.2.2.1 ok0.2.2.2.1 hq0 hc (fun i hi => (hp i hi).2) e1 e2 e3 e4 hB1
          refine Ev.ist5 dX5_packNow_176 rfl ?_
          refine Ev.goto 92 dX5_packNow_178 (by decide) ?_
          exact ih p _ _ _ (F1) _ (by have := (row_bd ok0.2.2.1 ok0.2.2.2.1 (fun i hi => (hp i hi).2)).1; omega) hp (by rw [hA1 26 (by decide)]; exact hB2) hg1 (hAx.trans (hA1.ag (by decide) (by decide))) (fun i h1 h2 => by rw [hA1 26 (by decide)]; exact hz1 i h1 h2) (fun v S hv hS => by rw [hA1 23 (by decide)]; exact hS1 v S hv hS)
        · refine Ev.ist5 dX5_packNow_176 rfl ?_
          refine Ev.goto 92 dX5_packNow_178 (by decide) ?_
          exact m_pn_end ok0 pk0 hf K hq2 (by rw [hA1 26 (by decide)]; exact hB1) hg1 (hAx.trans (hA1.ag (by decide) (by decide))) (fun i h1 h2 => by rw [hA1 26 (by decide)]; exact hz1 i h1 h2) _
      refine Ev.aload_0 dX5_packNow_120 rfl ?_
      refine Ev.getf cf5 28 (by decide) wf_X5_240 dX5_packNow_121 rfl rfl ?_
      refine Ev.iload dX5_packNow_124 rfl ?_
      refine Ev.icmp_ge 172 dX5_packNow_126 (by decide) (fun h126 => ?_) (fun h126 => ?_)
      · have hBB := BST.skip ok0.2.2.1 ok0.2.2.2.1 ho ⟨hva, hq0⟩ (fun z => z.elim (fun z => h109 (by rw [e27]; exact z)) (fun z => z.2 (by rw [← e28]; exact h126))) hB
        have hB1 := hBB
        have hAx := hA
        have hz1 := hz
        have hS1 := hSt
        have hq25 : ∀ i, i < V → F 25 i = nI (q i) := fun i hi => (h25 i hi).1
        have hg1 := hgg
        refine Ev.aload_0 dX5_packNow_172 rfl ?_
        refine Ev.callV 0 [] (m_nextRow ⟨(hg1 1 (by omega) (by omega)).trans ok0.1, (hg1 2 (by omega) (by omega)).trans ok0.2.1⟩ ok0.2.2.1 ok0.2.2.2.1 hq0 hq25) dX5_packNow_173 wl_X5_250 wi_X5_nextRow we_X5_nextRow ok_X5_nextRow cf5 rfl rfl (by simp [ev_e, Value.category]) rfl (Nat.le_of_ble_eq_true rfl) rfl (fun rv2 w3 hq2 => ?_)
        obtain ⟨F1, rfl, hA1, hq2⟩ := hq2
        rcases hq2 with ⟨rfl, hq2⟩ | ⟨rfl, hq2⟩
        rotate_left
        · obtain ⟨p, c, hc, hp, e1, e2, e3, e4⟩ := hq2
          obtain ⟨hlt, hB2⟩ := BST.next ok0.2.2.1 ok0.2.2.2.1 hq0 hc (fun i hi => (hp i hi).2) e1 e2 e3 e4 hB1
          refine Ev.ist5 dX5_packNow_176 rfl ?_
          refine Ev.goto 92 dX5_packNow_178 (by decide) ?_
          exact ih p _ _ _ (F1) _ (by have := (row_bd ok0.2.2.1 ok0.2.2.2.1 (fun i hi => (hp i hi).2)).1; omega) hp (by rw [hA1 26 (by decide)]; exact hB2) hg1 (hAx.trans (hA1.ag (by decide) (by decide))) (fun i h1 h2 => by rw [hA1 26 (by decide)]; exact hz1 i h1 h2) (fun v S hv hS => by rw [hA1 23 (by decide)]; exact hS1 v S hv hS)
        · refine Ev.ist5 dX5_packNow_176 rfl ?_
          refine Ev.goto 92 dX5_packNow_178 (by decide) ?_
          exact m_pn_end ok0 pk0 hf K hq2 (by rw [hA1 26 (by decide)]; exact hB1) hg1 (hAx.trans (hA1.ag (by decide) (by decide))) (fun i h1 h2 => by rw [hA1 26 (by decide)]; exact hz1 i h1 h2) _
      have hBB := fun R2 hR2 => BST.take (R' := R2) ok0.2.2.1 ok0.2.2.2.1 ho ⟨hva, hq0⟩ hR2 (Or.inr ⟨by rw [← e27]; exact h117, by rw [← e28]; exact h126⟩) hB
      refine Ev.aload_0 dX5_packNow_129 rfl ?_
      refine Ev.getf cf5 27 (by decide) wf_X5_237 dX5_packNow_130 rfl rfl ?_
      rw [e27]
      refine Ev.ist3 dX5_packNow_133 rfl ?_
      refine Ev.aload_0 dX5_packNow_134 rfl ?_
      refine Ev.getf cf5 28 (by decide) wf_X5_240 dX5_packNow_135 rfl rfl ?_
      rw [e28]
      refine Ev.ist4 dX5_packNow_138 rfl ?_
      refine Ev.iconst (v := 0) dX5_packNow_140 (by decide) ?_
      refine Ev.ist6 dX5_packNow_141 rfl ?_
      refine m_pn_cp (F0 := F) ((hgg 1 (by omega) (by omega)).trans ok0.1) ok0.2.2.1 (q := q) V 0 F (by omega) (fun i hi => (h25 i hi).1) (fun i hi => absurd hi (by omega)) hz (Ax.refl 26 F) (fun F2 hA2 h26 hz2 => ?_)
      have hB1 := hBB (F2 26) h26
      have hAx := hA.trans (hA2.ag (by decide) (by decide))
      have hz1 := hz2
      have hS1 : ∀ v S, v < V → S < 2 ^ N → F2 23 (32 * v + S) = zb (std b r N f v S) := fun v S hv hS => by rw [hA2 23 (by decide)]; exact hSt v S hv hS
      have hq25 : ∀ i, i < V → F2 25 i = nI (q i) := fun i hi => by rw [hA2 25 (by decide)]; exact (h25 i hi).1
      have hg1 := hgg
      refine Ev.aload_0 dX5_packNow_172 rfl ?_
      refine Ev.callV 0 [] (m_nextRow ⟨(hg1 1 (by omega) (by omega)).trans ok0.1, (hg1 2 (by omega) (by omega)).trans ok0.2.1⟩ ok0.2.2.1 ok0.2.2.2.1 hq0 hq25) dX5_packNow_173 wl_X5_250 wi_X5_nextRow we_X5_nextRow ok_X5_nextRow cf5 rfl rfl (by simp [ev_e, Value.category]) rfl (Nat.le_of_ble_eq_true rfl) rfl (fun rv2 w3 hq2 => ?_)
      obtain ⟨F1, rfl, hA1, hq2⟩ := hq2
      rcases hq2 with ⟨rfl, hq2⟩ | ⟨rfl, hq2⟩
      rotate_left
      · obtain ⟨p, c, hc, hp, e1, e2, e3, e4⟩ := hq2
        obtain ⟨hlt, hB2⟩ := BST.next ok0.2.2.1 ok0.2.2.2.1 hq0 hc (fun i hi => (hp i hi).2) e1 e2 e3 e4 hB1
        refine Ev.ist5 dX5_packNow_176 rfl ?_
        refine Ev.goto 92 dX5_packNow_178 (by decide) ?_
        exact ih p _ _ _ (F1) _ (by have := (row_bd ok0.2.2.1 ok0.2.2.2.1 (fun i hi => (hp i hi).2)).1; omega) hp (by rw [hA1 26 (by decide)]; exact hB2) hg1 (hAx.trans (hA1.ag (by decide) (by decide))) (fun i h1 h2 => by rw [hA1 26 (by decide)]; exact hz1 i h1 h2) (fun v S hv hS => by rw [hA1 23 (by decide)]; exact hS1 v S hv hS)
      · refine Ev.ist5 dX5_packNow_176 rfl ?_
        refine Ev.goto 92 dX5_packNow_178 (by decide) ?_
        exact m_pn_end ok0 pk0 hf K hq2 (by rw [hA1 26 (by decide)]; exact hB1) hg1 (hAx.trans (hA1.ag (by decide) (by decide))) (fun i h1 h2 => by rw [hA1 26 (by decide)]; exact hz1 i h1 h2) _
    · have hBB := BST.skip0 ok0.2.2.1 ok0.2.2.2.1 hq0 hva hB
      have hB1 := hBB
      have hAx := hA
      have hz1 := hz
      have hS1 := hSt
      have hq25 : ∀ i, i < V → F 25 i = nI (q i) := fun i hi => (h25 i hi).1
      have hg1 := hgg
      refine Ev.if_eq 172 dX5_packNow_101 (by decide) (fun hcst => ?_) (fun hcst => ?_)
      rotate_left
      · exact absurd hcst (by decide)
      refine Ev.aload_0 dX5_packNow_172 rfl ?_
      refine Ev.callV 0 [] (m_nextRow ⟨(hg1 1 (by omega) (by omega)).trans ok0.1, (hg1 2 (by omega) (by omega)).trans ok0.2.1⟩ ok0.2.2.1 ok0.2.2.2.1 hq0 hq25) dX5_packNow_173 wl_X5_250 wi_X5_nextRow we_X5_nextRow ok_X5_nextRow cf5 rfl rfl (by simp [ev_e, Value.category]) rfl (Nat.le_of_ble_eq_true rfl) rfl (fun rv2 w3 hq2 => ?_)
      obtain ⟨F1, rfl, hA1, hq2⟩ := hq2
      rcases hq2 with ⟨rfl, hq2⟩ | ⟨rfl, hq2⟩
      rotate_left
      · obtain ⟨p, c, hc, hp, e1, e2, e3, e4⟩ := hq2
        obtain ⟨hlt, hB2⟩ := BST.next ok0.2.2.1 ok0.2.2.2.1 hq0 hc (fun i hi => (hp i hi).2) e1 e2 e3 e4 hB1
        refine Ev.ist5 dX5_packNow_176 rfl ?_
        refine Ev.goto 92 dX5_packNow_178 (by decide) ?_
        exact ih p _ _ _ (F1) _ (by have := (row_bd ok0.2.2.1 ok0.2.2.2.1 (fun i hi => (hp i hi).2)).1; omega) hp (by rw [hA1 26 (by decide)]; exact hB2) hg1 (hAx.trans (hA1.ag (by decide) (by decide))) (fun i h1 h2 => by rw [hA1 26 (by decide)]; exact hz1 i h1 h2) (fun v S hv hS => by rw [hA1 23 (by decide)]; exact hS1 v S hv hS)
      · refine Ev.ist5 dX5_packNow_176 rfl ?_
        refine Ev.goto 92 dX5_packNow_178 (by decide) ?_
        exact m_pn_end ok0 pk0 hf K hq2 (by rw [hA1 26 (by decide)]; exact hB1) hg1 (hAx.trans (hA1.ag (by decide) (by decide))) (fun i h1 h2 => by rw [hA1 26 (by decide)]; exact hz1 i h1 h2) _

theorem st23 {F : Nat → Nat → Int32} {b r : Nat → Nat} {V N f v s : Nat} (h5 : N ≤ 5) (hs : s < 2 ^ N) (h : ∀ u S, u < V → S < 2 ^ N → (u < v ∨ (u = v ∧ S < s)) → F 23 (32 * u + S) = zb (std b r N f u S)) (u S : Nat) (hu : u < V) (hS : S < 2 ^ N) (hl : u < v ∨ (u = v ∧ S < s + 1)) : up2 F 23 (32 * v + s) (vp_nar .boolean (zb (std b r N f v s))) 23 (32 * u + S) = zb (std b r N f u S) := by
  have := p32 h5
  show upd (F 23) (32 * v + s) _ (32 * u + S) = _
  by_cases e : 32 * u + S = 32 * v + s
  · have e1 : u = v := by omega
    have e2 : S = s := by omega
    subst e1 e2
    rw [pk_us]
    by_cases z : std b r N f u S
    · rw [zb_t z]; rfl
    · rw [zb_f z]; rfl
  · rw [pk_un e]
    exact h u S hu hS (by omega)

theorem pow_ok2 {N : Nat} (h : N ≤ 5) : ((1 : Int32) <<< (nI N &&& 31)) = nI (2 ^ N) := by
  have q : ∀ a : Fin 6, ((1 : Int32) <<< (nI a.val &&& 31)) = nI (2 ^ a.val) := by decide +kernel
  exact q ⟨N, by omega⟩

set_option maxHeartbeats 4000000 in
set_option maxRecDepth 100000 in
theorem m_pf_in {d : Nat} {G : Nat → Int64} {F0 : Nat → Nat → Int32} {g0 : Nat → Int32} {V N : Nat} (ok0 : MOK g0 F0 V N) {b o r : Nat → Nat} (pk0 : PK (vM F0) V N b o r) {f : Nat} (hf : f ≤ 20) {x : Int32} {Q : Option Value → List Ce → Prop} {v : Nat} (hv : v < V) : ∀ (n s : Nat) (F : Nat → Nat → Int32), s + n = 2 ^ N → Ag F0 F → (∀ u S, u < V → S < 2 ^ N → (u < v ∨ (u = v ∧ S < s)) → F 23 (32 * u + S) = zb (std b r N f u S)) → (∀ F : Nat → Nat → Int32, Ag F0 F → (∀ u S, u < V → S < 2 ^ N → (u < v ∨ (u = v ∧ S < 2 ^ N)) → F 23 (32 * u + S) = zb (std b r N f u S)) → Ev (d + 3) yX5_packNow cX5_packNow (some .int) 50 [some (.ref 0), some (.int (nI f)), some (.int x), some (.int (nI v)), some (.int (nI (2 ^ N))), none, none] [] (modW g0 G F) Q) → Ev (d + 3) yX5_packNow cX5_packNow (some .int) 13 [some (.ref 0), some (.int (nI f)), some (.int x), some (.int (nI v)), some (.int (nI s)), none, none] [] (modW g0 G F) Q := by
  intro n
  induction n with
  | zero =>
    intro s F hs hA hF K
    have h32 := p32 ok0.2.2.2.1
    have hs : s = 2 ^ N := by omega
    subst hs
    refine Ev.iload dX5_packNow_13 rfl ?_
    refine Ev.iconst (v := 1) dX5_packNow_15 (by decide) ?_
    refine Ev.aload_0 dX5_packNow_16 rfl ?_
    refine Ev.getf cf5 2 (by decide) wf_X5_134 dX5_packNow_17 rfl rfl ?_
    refine Ev.ishl dX5_packNow_20 ?_
    refine ev_top (show nI (2 ^ N) = ((1 : Int32) <<< (g0 2 &&& 31)) from by rw [ok0.2.1]; exact (pow_ok2 ok0.2.2.2.1).symm) ?_
    refine Ev.icmp_ge 50 dX5_packNow_21 (by decide) (fun h21 => ?_) (fun h21 => ?_)
    · exact K F hA hF
    · exact absurd (nI_le (by omega) (by omega)) h21
  | succ n ih =>
    intro s F hs hA hF K
    have h32 := p32 ok0.2.2.2.1
    have h4 := ok0.2.2.1
    refine Ev.iload dX5_packNow_13 rfl ?_
    refine Ev.iconst (v := 1) dX5_packNow_15 (by decide) ?_
    refine Ev.aload_0 dX5_packNow_16 rfl ?_
    refine Ev.getf cf5 2 (by decide) wf_X5_134 dX5_packNow_17 rfl rfl ?_
    refine Ev.ishl dX5_packNow_20 ?_
    refine ev_top (show nI (2 ^ N) = ((1 : Int32) <<< (g0 2 &&& 31)) from by rw [ok0.2.1]; exact (pow_ok2 ok0.2.2.2.1).symm) ?_
    refine Ev.icmp_ge 50 dX5_packNow_21 (by decide) (fun h21 => ?_) (fun h21 => ?_)
    · exact absurd h21 (nI_ge (by omega) (by omega))
    refine Ev.aload_0 dX5_packNow_24 rfl ?_
    refine Ev.getf cf5 23 (by decide) wf_X5_44 dX5_packNow_25 rfl rfl ?_
    refine Ev.bipush (v := 32) dX5_packNow_28 (by decide) ?_
    refine Ev.iload_3 dX5_packNow_30 rfl ?_
    refine Ev.imul dX5_packNow_31 ?_
    refine Ev.iload dX5_packNow_32 rfl ?_
    refine Ev.iadd dX5_packNow_34 ?_
    refine Ev.aload_0 dX5_packNow_35 rfl ?_
    refine Ev.iload_3 dX5_packNow_36 rfl ?_
    refine Ev.iload dX5_packNow_37 rfl ?_
    refine Ev.iload_1 dX5_packNow_39 rfl ?_
    refine Ev.callV 0 [.int (nI v), .int (nI s), .int (nI f)] (m_canStand (ok0.ag hA) (pk0.ag hA) hv hf (by omega)) dX5_packNow_40 wl_X5_243 wi_X5_canStand we_X5_canStand ok_X5_canStand cf5 rfl rfl (by simp [ev_e, Value.category]) rfl (Nat.le_of_ble_eq_true rfl) rfl (fun rv w2 hq => ?_)
    obtain ⟨F1, rfl, hA1, rfl⟩ := hq
    show Ev _ _ _ _ _ _ [.int (zb (std b r N f v s)), .int (32 * nI v + nI s), .ref 12] _ _
    rw [show (32 : Int32) * nI v = nI (32 * v) from pk_mul 32 v, nI_add]
    refine aw_modW_12 dX5_packNow_43 (by omega) ?_
    first | refine Ev.incn4 dX5_packNow_44 rfl ?_ | refine Ev.inc4 dX5_packNow_44 rfl ?_
    refine Ev.goto 13 dX5_packNow_47 (by decide) ?_
    exact ih (s + 1) (up2 F1 23 (32 * v + s) (vp_nar .boolean (zb (std b r N f v s)))) (by omega) ((hA.trans (hA1.ag (by decide) (by decide))).up (by decide) (by decide) _ _) (fun u S hu hS hl => st23 ok0.2.2.2.1 (by omega) (fun u S hu hS hl => by rw [hA1 23 (by decide)]; exact hF u S hu hS hl) u S hu hS hl) K

set_option maxHeartbeats 4000000 in
set_option maxRecDepth 100000 in
theorem m_pf_out {d : Nat} {G : Nat → Int64} {F0 : Nat → Nat → Int32} {g0 : Nat → Int32} {V N : Nat} (ok0 : MOK g0 F0 V N) {b o r : Nat → Nat} (pk0 : PK (vM F0) V N b o r) {f : Nat} (hf : f ≤ 20) {x : Int32} {Q : Option Value → List Ce → Prop} : ∀ (n v : Nat) (F : Nat → Nat → Int32) (y : Option Value), v + n = V → Ag F0 F → (∀ u S, u < V → S < 2 ^ N → u < v → F 23 (32 * u + S) = zb (std b r N f u S)) → (∀ (F : Nat → Nat → Int32) (y : Option Value), Ag F0 F → (∀ u S, u < V → S < 2 ^ N → F 23 (32 * u + S) = zb (std b r N f u S)) → Ev (d + 3) yX5_packNow cX5_packNow (some .int) 56 [some (.ref 0), some (.int (nI f)), some (.int x), some (.int (nI V)), y, none, none] [] (modW g0 G F) Q) → Ev (d + 3) yX5_packNow cX5_packNow (some .int) 2 [some (.ref 0), some (.int (nI f)), some (.int x), some (.int (nI v)), y, none, none] [] (modW g0 G F) Q := by
  intro n
  induction n with
  | zero =>
    intro v F y hvn hA hF K
    have hvn : v = V := by omega
    subst hvn
    refine Ev.iload_3 dX5_packNow_2 rfl ?_
    refine Ev.aload_0 dX5_packNow_3 rfl ?_
    refine Ev.getf cf5 1 (by decide) wf_X5_131 dX5_packNow_4 rfl rfl ?_
    refine Ev.icmp_ge 56 dX5_packNow_7 (by decide) (fun h7 => ?_) (fun h7 => ?_)
    · exact K F y hA (fun u S hu hS => hF u S hu hS (by omega))
    · exact absurd (lp_le ok0.1 (by omega) (by have := ok0.2.2.1; omega)) h7
  | succ n ih =>
    intro v F y hvn hA hF K
    refine Ev.iload_3 dX5_packNow_2 rfl ?_
    refine Ev.aload_0 dX5_packNow_3 rfl ?_
    refine Ev.getf cf5 1 (by decide) wf_X5_131 dX5_packNow_4 rfl rfl ?_
    refine Ev.icmp_ge 56 dX5_packNow_7 (by decide) (fun h7 => ?_) (fun h7 => ?_)
    · exact absurd h7 (lp_ge ok0.1 (by omega) (by have := ok0.2.2.1; omega))
    refine Ev.iconst (v := 0) dX5_packNow_10 (by decide) ?_
    refine Ev.ist4 dX5_packNow_11 rfl ?_
    refine m_pf_in ok0 pk0 hf (v := v) (by omega) (2 ^ N) 0 F (by omega) hA (fun u S hu hS hl => hF u S hu hS (by omega)) (fun F1 hA1 hF1 => ?_)
    first | refine Ev.incn3 dX5_packNow_50 rfl ?_ | refine Ev.inc3 dX5_packNow_50 rfl ?_
    refine Ev.goto 2 dX5_packNow_53 (by decide) ?_
    exact ih (v + 1) F1 _ (by omega) hA1 (fun u S hu hS hl => hF1 u S hu hS (by omega)) K

set_option maxHeartbeats 4000000 in
set_option maxRecDepth 100000 in
theorem m_pz {d : Nat} {G : Nat → Int64} {F0 : Nat → Nat → Int32} {g0 : Nat → Int32} {f : Nat} {x : Int32} {y : Option Value} {Q : Option Value → List Ce → Prop} : ∀ (n k : Nat) (F : Nat → Nat → Int32), k + n = 4 → (∀ a, a ≠ 25 → a ≠ 26 → F a = F0 a) → (∀ i, i < k → F 25 i = nI 0 ∧ F 26 i = nI 0) → (∀ F : Nat → Nat → Int32, (∀ a, a ≠ 25 → a ≠ 26 → F a = F0 a) → (∀ i, i < 4 → F 25 i = nI 0 ∧ F 26 i = nI 0) → Ev (d + 3) yX5_packNow cX5_packNow (some .int) 83 [some (.ref 0), some (.int (nI f)), some (.int x), some (.int (nI 4)), y, none, none] [] (modW g0 G F) Q) → Ev (d + 3) yX5_packNow cX5_packNow (some .int) 58 [some (.ref 0), some (.int (nI f)), some (.int x), some (.int (nI k)), y, none, none] [] (modW g0 G F) Q := by
  intro n
  induction n with
  | zero =>
    intro k F hk hA h0 K
    have hk : k = 4 := by omega
    subst hk
    refine Ev.iload_3 dX5_packNow_58 rfl ?_
    refine Ev.iconst (v := 4) dX5_packNow_59 (by decide) ?_
    refine Ev.icmp_ge 83 dX5_packNow_60 (by decide) (fun h60 => ?_) (fun h60 => ?_)
    · exact K F hA (fun i hi => h0 i (by omega))
    · exact absurd (lp_le (x := 4) (N := 4) rfl (by omega) (by omega)) h60
  | succ n ih =>
    intro k F hk hA h0 K
    refine Ev.iload_3 dX5_packNow_58 rfl ?_
    refine Ev.iconst (v := 4) dX5_packNow_59 (by decide) ?_
    refine Ev.icmp_ge 83 dX5_packNow_60 (by decide) (fun h60 => ?_) (fun h60 => ?_)
    · exact absurd h60 (lp_ge (x := 4) (N := 4) rfl (by omega) (by omega))
    refine Ev.aload_0 dX5_packNow_63 rfl ?_
    refine Ev.getf cf5 25 (by decide) wf_X5_51 dX5_packNow_64 rfl rfl ?_
    refine Ev.iload_3 dX5_packNow_67 rfl ?_
    refine Ev.iconst (v := 0) dX5_packNow_68 (by decide) ?_
    refine aw_modW_14 dX5_packNow_69 (by omega) ?_
    refine Ev.aload_0 dX5_packNow_70 rfl ?_
    refine Ev.getf cf5 26 (by decide) wf_X5_54 dX5_packNow_71 rfl rfl ?_
    refine Ev.iload_3 dX5_packNow_74 rfl ?_
    refine Ev.iconst (v := 0) dX5_packNow_75 (by decide) ?_
    refine aw_modW_15 dX5_packNow_76 (by omega) ?_
    first | refine Ev.incn3 dX5_packNow_77 rfl ?_ | refine Ev.inc3 dX5_packNow_77 rfl ?_
    refine Ev.goto 58 dX5_packNow_80 (by decide) ?_
    exact ih (k + 1) (up2 (up2 F 25 k 0) 26 k 0) (by omega) (fun a h1 h2 => by rw [← hA a h1 h2]; unfold up2; rw [if_neg h2, if_neg h1]) (fun i hi => ⟨(up0 (F := F) (c := 25) (fun j hj => (h0 j hj).1) i hi), (up0 (F := up2 F 25 k 0) (c := 26) (fun j hj => (h0 j hj).2) i hi)⟩) K

theorem cod_0 : ∀ (n s : Nat), cod (fun _ => 0) n s = 0
  | 0, _ => rfl
  | n + 1, s => by rw [cod, cod_0 n]; simp

set_option maxHeartbeats 4000000 in
set_option maxRecDepth 100000 in
theorem m_pn_all {d : Nat} {G : Nat → Int64} {F0 : Nat → Nat → Int32} {g0 : Nat → Int32} {V N : Nat} (ok0 : MOK g0 F0 V N) {b o r : Nat → Nat} (pk0 : PK (vM F0) V N b o r) {f : Nat} (hf : f ≤ 20) (ho : ∀ k, k < N → o k ≤ 9) {x : Int32} {Q : Option Value → List Ce → Prop} (K : (∀ (p : Nat → Nat) (g F) (y : Option Value), FO b o r V N f p → (∀ i, i ≠ 27 → i ≠ 28 → g i = g0 i) → Ag F0 F → (∀ i, i < V → F 26 i = nI (p i)) → (∀ i, V ≤ i → i < 4 → F 26 i = 0) → Ev (d + 3) yX5_packNow cX5_packNow (some .int) 181 [some (.ref 0), some (.int (nI f)), some (.int x), some (.int (nI (mn b r N f p V 0))), some (.int (nI (ozr o N V p))), some (.int 0), y] [] (modW g G F) Q)) : Ev (d + 3) yX5_packNow cX5_packNow (some .int) 0 [some (.ref 0), some (.int (nI f)), some (.int x), none, none, none, none] [] (modW g0 G F0) Q := by
  refine Ev.iconst (v := 0) dX5_packNow_0 (by decide) ?_
  refine Ev.ist3 dX5_packNow_1 rfl ?_
  refine m_pf_out ok0 pk0 hf V 0 F0 none (by omega) (Ag.refl F0) (fun u S hu hS hl => absurd hl (by omega)) (fun F1 y hA1 hF1 => ?_)
  refine Ev.iconst (v := 0) dX5_packNow_56 (by decide) ?_
  refine Ev.ist3 dX5_packNow_57 rfl ?_
  refine m_pz (F0 := F1) 4 0 F1 (by omega) (fun a _ _ => rfl) (fun i hi => absurd hi (by omega)) (fun F2 hA2 h0 => ?_)
  refine Ev.iconst (v := -1) dX5_packNow_83 (by decide) ?_
  refine Ev.ist3 dX5_packNow_84 rfl ?_
  refine Ev.ldc wk_X5_168 dX5_packNow_85 ?_
  refine Ev.ist4 dX5_packNow_87 rfl ?_
  refine Ev.iconst (v := 1) dX5_packNow_89 (by decide) ?_
  refine Ev.ist5 dX5_packNow_90 rfl ?_
  exact m_pn_loop ok0 pk0 hf ho K _ (fun _ => 0) (-1) _ g0 F2 none (Nat.le_refl _) (fun i hi => ⟨(h0 i (by have := ok0.2.2.1; omega)).1, pow_pos5 N⟩) (Or.inl ⟨fun p _ => by rw [cod_0]; omega, rfl⟩) (fun i _ _ => rfl) (fun a ha => (hA2 a (by omega) (by omega)).trans (hA1 a ha)) (fun i _ h2 => (h0 i h2).2) (fun v S hv hS => by rw [hA2 23 (by decide) (by decide)]; exact hF1 v S hv hS)

set_option maxHeartbeats 4000000 in
set_option maxRecDepth 100000 in
theorem m_packNow_0 {d : Nat} {G : Nat → Int64} {F0 : Nat → Nat → Int32} {g0 : Nat → Int32} {V N : Nat} (ok0 : MOK g0 F0 V N) {b o r : Nat → Nat} (pk0 : PK (vM F0) V N b o r) {f : Nat} (hf : f ≤ 20) (ho : ∀ k, k < N → o k ≤ 9) : Ev (d + 3) yX5_packNow cX5_packNow (some .int) 0 [some (.ref 0), some (.int (nI f)), some (.int 0), none, none, none, none] [] (modW g0 G F0) (fun rv w => ∃ (p : Nat → Nat) (g F : _), FO b o r V N f p ∧ (∀ i, i ≠ 27 → i ≠ 28 → g i = g0 i) ∧ Ag F0 F ∧ w = modW g G F ∧ rv = some (.int (nI (mn b r N f p V 0)))) := by
  refine m_pn_all ok0 pk0 hf ho (fun p g F y hp hg hA h26 hz => ?_)
  refine Ev.iload_2 dX5_packNow_181 rfl ?_
  refine Ev.if_ne 189 dX5_packNow_182 (by decide) (fun h182 => ?_) (fun h182 => ?_)
  · exact absurd rfl h182
  refine Ev.iload_3 dX5_packNow_185 rfl ?_
  refine Ev.goto 208 dX5_packNow_186 (by decide) ?_
  refine Ev.iret dX5_packNow_208 ?_
  exact ⟨p, g, F, hp, hg, hA, rfl, rfl⟩

set_option maxHeartbeats 4000000 in
set_option maxRecDepth 100000 in
theorem m_packNow_1 {d : Nat} {G : Nat → Int64} {F0 : Nat → Nat → Int32} {g0 : Nat → Int32} {V N : Nat} (ok0 : MOK g0 F0 V N) {b o r : Nat → Nat} (pk0 : PK (vM F0) V N b o r) {f : Nat} (hf : f ≤ 20) (ho : ∀ k, k < N → o k ≤ 9) : Ev (d + 3) yX5_packNow cX5_packNow (some .int) 0 [some (.ref 0), some (.int (nI f)), some (.int 1), none, none, none, none] [] (modW g0 G F0) (fun rv w => ∃ (p : Nat → Nat) (g F : _), FO b o r V N f p ∧ (∀ i, i ≠ 27 → i ≠ 28 → g i = g0 i) ∧ Ag F0 F ∧ w = modW g G F ∧ rv = some (.int (nI (ozr o N V p)))) := by
  refine m_pn_all ok0 pk0 hf ho (fun p g F y hp hg hA h26 hz => ?_)
  refine Ev.iload_2 dX5_packNow_181 rfl ?_
  refine Ev.if_ne 189 dX5_packNow_182 (by decide) (fun h182 => ?_) (fun h182 => ?_)
  · refine Ev.iload_2 dX5_packNow_189 rfl ?_
    refine Ev.iconst (v := 1) dX5_packNow_190 (by decide) ?_
    refine Ev.icmp_ne 199 dX5_packNow_191 (by decide) (fun h191 => ?_) (fun h191 => ?_)
    · exact absurd rfl h191
    refine Ev.iload dX5_packNow_194 rfl ?_
    refine Ev.goto 208 dX5_packNow_196 (by decide) ?_
    refine Ev.iret dX5_packNow_208 ?_
    exact ⟨p, g, F, hp, hg, hA, rfl, rfl⟩
  · exact absurd h182 (by decide)

set_option maxHeartbeats 4000000 in
set_option maxRecDepth 100000 in
theorem m_packNow_b {d : Nat} {G : Nat → Int64} {F0 : Nat → Nat → Int32} {g0 : Nat → Int32} {V N : Nat} (ok0 : MOK g0 F0 V N) {b o r : Nat → Nat} (pk0 : PK (vM F0) V N b o r) {f : Nat} (hf : f ≤ 20) (ho : ∀ k, k < N → o k ≤ 9) {j : Nat} (hj : j < 4) : Ev (d + 3) yX5_packNow cX5_packNow (some .int) 0 [some (.ref 0), some (.int (nI f)), some (.int (nI (10 + j))), none, none, none, none] [] (modW g0 G F0) (fun rv w => ∃ (p : Nat → Nat) (g F : _), FO b o r V N f p ∧ (∀ i, i ≠ 27 → i ≠ 28 → g i = g0 i) ∧ Ag F0 F ∧ w = modW g G F ∧ rv = some (.int (if j < V then nI (p j) else 0))) := by
  refine m_pn_all ok0 pk0 hf ho (fun p g F y hp hg hA h26 hz => ?_)
  refine Ev.iload_2 dX5_packNow_181 rfl ?_
  refine Ev.if_ne 189 dX5_packNow_182 (by decide) (fun h182 => ?_) (fun h182 => ?_)
  · refine Ev.iload_2 dX5_packNow_189 rfl ?_
    refine Ev.iconst (v := 1) dX5_packNow_190 (by decide) ?_
    refine Ev.icmp_ne 199 dX5_packNow_191 (by decide) (fun h191 => ?_) (fun h191 => ?_)
    · refine Ev.aload_0 dX5_packNow_199 rfl ?_
      refine Ev.getf cf5 26 (by decide) wf_X5_54 dX5_packNow_200 rfl rfl ?_
      refine Ev.iload_2 dX5_packNow_203 rfl ?_
      refine Ev.bipush (v := 10) dX5_packNow_204 (by decide) ?_
      refine Ev.isub dX5_packNow_206 ?_
      rw [show nI (10 + j) - 10 = nI j from (pack_y hj).2.2.2]
      refine Ev.aldn dX5_packNow_207 rfl (by omega) (by decide) ?_
      refine Ev.iret dX5_packNow_208 ?_
      refine ⟨p, g, F, hp, hg, hA, rfl, ?_⟩
      by_cases hjV : j < V
      · rw [if_pos hjV]; exact congrArg (fun z => some (Value.int z)) (h26 j hjV)
      · rw [if_neg hjV]; exact congrArg (fun z => some (Value.int z)) (hz j (by omega) hj)
    · exact absurd h191 (pack_y hj).2.2.1
  · exact absurd h182 (pack_y hj).2.1

theorem wtn_b {j : Nat} (hj : j < 4) : ¬ wtn (nI (10 + j)) 10 13 = 0 := by
  have q : ∀ a : Fin 4, ¬ wtn (nI (10 + a.val)) 10 13 = 0 := by decide +kernel
  exact q ⟨j, hj⟩
theorem wtn_f20 {f : Nat} (h1 : 1 ≤ f) (h2 : f ≤ 20) : ¬ wtn (nI f) 1 20 = 0 := by
  have q : ∀ a : Fin 20, ¬ wtn (nI (a.val + 1)) 1 20 = 0 := by decide +kernel
  have := q ⟨f - 1, by omega⟩
  rw [show f = f - 1 + 1 from by omega]
  exact this

set_option maxHeartbeats 4000000 in
set_option maxRecDepth 100000 in
theorem m_pack_o1 {d : Nat} {g : Nat → Int32} {G : Nat → Int64} {F : Nat → Nat → Int32} {x y : Int32} (hx : wtn x 1 20 = 0) : Ev (d + 1) yX5_pack cX5_pack (some .int) 0 [some (.ref 0), some (.int x), some (.int y)] [] (modW g G F) (Is (some (.int (-102))) (modW g G F)) := by
  refine Ev.iload_1 dX5_pack_0 rfl ?_
  refine Ev.iconst (v := 1) dX5_pack_1 (by decide) ?_
  refine Ev.bipush (v := 20) dX5_pack_2 (by decide) ?_
  refine k_X5_within (m_within _ _ _) dX5_pack_4 wl_X5_96 (Nat.le_of_ble_eq_true rfl) ?_
  refine Ev.if_eq 30 dX5_pack_7 (by decide) (fun h7 => ?_) (fun h7 => ?_)
  · refine Ev.bipush (v := -102) dX5_pack_30 (by decide) ?_
    refine Ev.iret dX5_pack_32 ?_
    exact ⟨rfl, rfl⟩
  · exact absurd hx h7

set_option maxHeartbeats 4000000 in
set_option maxRecDepth 100000 in
theorem m_pack_o2 {d : Nat} {g : Nat → Int32} {G : Nat → Int64} {F : Nat → Nat → Int32} {x y : Int32} (hx : ¬ wtn x 1 20 = 0) (hy : wtn y 0 1 = 0) (hy2 : wtn y 10 13 = 0) : Ev (d + 1) yX5_pack cX5_pack (some .int) 0 [some (.ref 0), some (.int x), some (.int y)] [] (modW g G F) (Is (some (.int (-102))) (modW g G F)) := by
  refine Ev.iload_1 dX5_pack_0 rfl ?_
  refine Ev.iconst (v := 1) dX5_pack_1 (by decide) ?_
  refine Ev.bipush (v := 20) dX5_pack_2 (by decide) ?_
  refine k_X5_within (m_within _ _ _) dX5_pack_4 wl_X5_96 (Nat.le_of_ble_eq_true rfl) ?_
  refine Ev.if_eq 30 dX5_pack_7 (by decide) (fun h7 => ?_) (fun h7 => ?_)
  · exact absurd h7 hx
  refine Ev.iload_2 dX5_pack_10 rfl ?_
  refine Ev.iconst (v := 0) dX5_pack_11 (by decide) ?_
  refine Ev.iconst (v := 1) dX5_pack_12 (by decide) ?_
  refine k_X5_within (m_within _ _ _) dX5_pack_13 wl_X5_96 (Nat.le_of_ble_eq_true rfl) ?_
  refine Ev.if_ne 33 dX5_pack_16 (by decide) (fun h16 => ?_) (fun h16 => ?_)
  · exact absurd hy h16
  refine Ev.iload_2 dX5_pack_19 rfl ?_
  refine Ev.bipush (v := 10) dX5_pack_20 (by decide) ?_
  refine Ev.bipush (v := 13) dX5_pack_22 (by decide) ?_
  refine k_X5_within (m_within _ _ _) dX5_pack_24 wl_X5_96 (Nat.le_of_ble_eq_true rfl) ?_
  refine Ev.if_ne 33 dX5_pack_27 (by decide) (fun h27 => ?_) (fun h27 => ?_)
  · exact absurd hy2 h27
  refine Ev.bipush (v := -102) dX5_pack_30 (by decide) ?_
  refine Ev.iret dX5_pack_32 ?_
  exact ⟨rfl, rfl⟩

set_option maxHeartbeats 4000000 in
set_option maxRecDepth 100000 in
theorem m_pack_s1 {d : Nat} {g : Nat → Int32} {G : Nat → Int64} {F : Nat → Nat → Int32} {x y : Int32} (hx : ¬ wtn x 1 20 = 0) (hy : ¬ wtn y 0 1 = 0 ∨ ¬ wtn y 10 13 = 0) (h0 : g 1 = 0) : Ev (d + 1) yX5_pack cX5_pack (some .int) 0 [some (.ref 0), some (.int x), some (.int y)] [] (modW g G F) (Is (some (.int (-103))) (modW g G F)) := by
  refine Ev.iload_1 dX5_pack_0 rfl ?_
  refine Ev.iconst (v := 1) dX5_pack_1 (by decide) ?_
  refine Ev.bipush (v := 20) dX5_pack_2 (by decide) ?_
  refine k_X5_within (m_within _ _ _) dX5_pack_4 wl_X5_96 (Nat.le_of_ble_eq_true rfl) ?_
  refine Ev.if_eq 30 dX5_pack_7 (by decide) (fun h7 => ?_) (fun h7 => ?_)
  · exact absurd h7 hx
  refine Ev.iload_2 dX5_pack_10 rfl ?_
  refine Ev.iconst (v := 0) dX5_pack_11 (by decide) ?_
  refine Ev.iconst (v := 1) dX5_pack_12 (by decide) ?_
  refine k_X5_within (m_within _ _ _) dX5_pack_13 wl_X5_96 (Nat.le_of_ble_eq_true rfl) ?_
  refine Ev.if_ne 33 dX5_pack_16 (by decide) (fun h16 => ?_) (fun h16 => ?_)
  · refine Ev.aload_0 dX5_pack_33 rfl ?_
    refine Ev.getf cf5 1 (by decide) wf_X5_131 dX5_pack_34 rfl rfl ?_
    refine Ev.if_eq 49 dX5_pack_37 (by decide) (fun h37 => ?_) (fun h37 => ?_)
    · refine Ev.bipush (v := -103) dX5_pack_49 (by decide) ?_
      refine Ev.iret dX5_pack_51 ?_
      exact ⟨rfl, rfl⟩
    · exact absurd h0 h37
  refine Ev.iload_2 dX5_pack_19 rfl ?_
  refine Ev.bipush (v := 10) dX5_pack_20 (by decide) ?_
  refine Ev.bipush (v := 13) dX5_pack_22 (by decide) ?_
  refine k_X5_within (m_within _ _ _) dX5_pack_24 wl_X5_96 (Nat.le_of_ble_eq_true rfl) ?_
  refine Ev.if_ne 33 dX5_pack_27 (by decide) (fun h27 => ?_) (fun h27 => ?_)
  · refine Ev.aload_0 dX5_pack_33 rfl ?_
    refine Ev.getf cf5 1 (by decide) wf_X5_131 dX5_pack_34 rfl rfl ?_
    refine Ev.if_eq 49 dX5_pack_37 (by decide) (fun h37 => ?_) (fun h37 => ?_)
    · refine Ev.bipush (v := -103) dX5_pack_49 (by decide) ?_
      refine Ev.iret dX5_pack_51 ?_
      exact ⟨rfl, rfl⟩
    · exact absurd h0 h37
  · exact (hy.elim (fun z => z h16) (fun z => z h27)).elim

set_option maxHeartbeats 4000000 in
set_option maxRecDepth 100000 in
theorem m_pack_s2 {d : Nat} {g : Nat → Int32} {G : Nat → Int64} {F : Nat → Nat → Int32} {x y : Int32} (hx : ¬ wtn x 1 20 = 0) (hy : ¬ wtn y 0 1 = 0 ∨ ¬ wtn y 10 13 = 0) (h0 : ¬ g 1 = 0) (h12 : g 12 = 20) : Ev (d + 1) yX5_pack cX5_pack (some .int) 0 [some (.ref 0), some (.int x), some (.int y)] [] (modW g G F) (Is (some (.int (-103))) (modW g G F)) := by
  refine Ev.iload_1 dX5_pack_0 rfl ?_
  refine Ev.iconst (v := 1) dX5_pack_1 (by decide) ?_
  refine Ev.bipush (v := 20) dX5_pack_2 (by decide) ?_
  refine k_X5_within (m_within _ _ _) dX5_pack_4 wl_X5_96 (Nat.le_of_ble_eq_true rfl) ?_
  refine Ev.if_eq 30 dX5_pack_7 (by decide) (fun h7 => ?_) (fun h7 => ?_)
  · exact absurd h7 hx
  refine Ev.iload_2 dX5_pack_10 rfl ?_
  refine Ev.iconst (v := 0) dX5_pack_11 (by decide) ?_
  refine Ev.iconst (v := 1) dX5_pack_12 (by decide) ?_
  refine k_X5_within (m_within _ _ _) dX5_pack_13 wl_X5_96 (Nat.le_of_ble_eq_true rfl) ?_
  refine Ev.if_ne 33 dX5_pack_16 (by decide) (fun h16 => ?_) (fun h16 => ?_)
  · refine Ev.aload_0 dX5_pack_33 rfl ?_
    refine Ev.getf cf5 1 (by decide) wf_X5_131 dX5_pack_34 rfl rfl ?_
    refine Ev.if_eq 49 dX5_pack_37 (by decide) (fun h37 => ?_) (fun h37 => ?_)
    · exact absurd h37 h0
    refine Ev.aload_0 dX5_pack_40 rfl ?_
    refine Ev.getf cf5 12 (by decide) wf_X5_253 dX5_pack_41 rfl rfl ?_
    refine Ev.bipush (v := 20) dX5_pack_44 (by decide) ?_
    refine Ev.icmp_ne 52 dX5_pack_46 (by decide) (fun h46 => ?_) (fun h46 => ?_)
    · exact absurd h12 h46
    refine Ev.bipush (v := -103) dX5_pack_49 (by decide) ?_
    refine Ev.iret dX5_pack_51 ?_
    exact ⟨rfl, rfl⟩
  refine Ev.iload_2 dX5_pack_19 rfl ?_
  refine Ev.bipush (v := 10) dX5_pack_20 (by decide) ?_
  refine Ev.bipush (v := 13) dX5_pack_22 (by decide) ?_
  refine k_X5_within (m_within _ _ _) dX5_pack_24 wl_X5_96 (Nat.le_of_ble_eq_true rfl) ?_
  refine Ev.if_ne 33 dX5_pack_27 (by decide) (fun h27 => ?_) (fun h27 => ?_)
  · refine Ev.aload_0 dX5_pack_33 rfl ?_
    refine Ev.getf cf5 1 (by decide) wf_X5_131 dX5_pack_34 rfl rfl ?_
    refine Ev.if_eq 49 dX5_pack_37 (by decide) (fun h37 => ?_) (fun h37 => ?_)
    · exact absurd h37 h0
    refine Ev.aload_0 dX5_pack_40 rfl ?_
    refine Ev.getf cf5 12 (by decide) wf_X5_253 dX5_pack_41 rfl rfl ?_
    refine Ev.bipush (v := 20) dX5_pack_44 (by decide) ?_
    refine Ev.icmp_ne 52 dX5_pack_46 (by decide) (fun h46 => ?_) (fun h46 => ?_)
    · exact absurd h12 h46
    refine Ev.bipush (v := -103) dX5_pack_49 (by decide) ?_
    refine Ev.iret dX5_pack_51 ?_
    exact ⟨rfl, rfl⟩
  · exact (hy.elim (fun z => z h16) (fun z => z h27)).elim

set_option maxHeartbeats 4000000 in
set_option maxRecDepth 100000 in
theorem m_pack_0 {d : Nat} {g : Nat → Int32} {G : Nat → Int64} {F : Nat → Nat → Int32} {V N : Nat} (ok : MOK g F V N) {b o r : Nat → Nat} (pk : PK (vM F) V N b o r) {f : Nat} (hf1 : 1 ≤ f) (hf : f ≤ 20) (hV : 0 < V) (h12 : ¬ g 12 = 20)  : Ev (d + 4) yX5_pack cX5_pack (some .int) 0 [some (.ref 0), some (.int (nI f)), some (.int 0)] [] (modW g G F) (fun rv w => ∃ (p : Nat → Nat) (g1 F1 : _), FO b o r V N f p ∧ (∀ i, i ≠ 12 → i ≠ 27 → i ≠ 28 → g1 i = g i) ∧ g1 12 = g 12 + 1 ∧ Ag F F1 ∧ w = modW g1 G F1 ∧ rv = some (.int (nI (mn b r N f p V 0)))) := by
  have hx : ¬ wtn (nI f) 1 20 = 0 := wtn_f20 hf1 hf
  have hy : ¬ wtn 0 0 1 = 0 ∨ ¬ wtn 0 10 13 = 0 := (Or.inl (by decide))
  refine Ev.iload_1 dX5_pack_0 rfl ?_
  refine Ev.iconst (v := 1) dX5_pack_1 (by decide) ?_
  refine Ev.bipush (v := 20) dX5_pack_2 (by decide) ?_
  refine k_X5_within (m_within _ _ _) dX5_pack_4 wl_X5_96 (Nat.le_of_ble_eq_true rfl) ?_
  refine Ev.if_eq 30 dX5_pack_7 (by decide) (fun h7 => ?_) (fun h7 => ?_)
  · exact absurd h7 hx
  refine Ev.iload_2 dX5_pack_10 rfl ?_
  refine Ev.iconst (v := 0) dX5_pack_11 (by decide) ?_
  refine Ev.iconst (v := 1) dX5_pack_12 (by decide) ?_
  refine k_X5_within (m_within _ _ _) dX5_pack_13 wl_X5_96 (Nat.le_of_ble_eq_true rfl) ?_
  refine Ev.if_ne 33 dX5_pack_16 (by decide) (fun h16 => ?_) (fun h16 => ?_)
  · refine Ev.aload_0 dX5_pack_33 rfl ?_
    refine Ev.getf cf5 1 (by decide) wf_X5_131 dX5_pack_34 rfl rfl ?_
    refine Ev.if_eq 49 dX5_pack_37 (by decide) (fun h37 => ?_) (fun h37 => ?_)
    · exact absurd h37 (by rw [ok.1]; exact nI_ne0 hV (by have := ok.2.2.1; omega))
    refine Ev.aload_0 dX5_pack_40 rfl ?_
    refine Ev.getf cf5 12 (by decide) wf_X5_253 dX5_pack_41 rfl rfl ?_
    refine Ev.bipush (v := 20) dX5_pack_44 (by decide) ?_
    refine Ev.icmp_ne 52 dX5_pack_46 (by decide) (fun h46 => ?_) (fun h46 => ?_)
    · refine Ev.aload_0 dX5_pack_52 rfl ?_
      refine Ev.dup dX5_pack_53 rfl ?_
      refine Ev.getf cf5 12 (by decide) wf_X5_253 dX5_pack_54 rfl rfl ?_
      refine Ev.iconst (v := 1) dX5_pack_57 (by decide) ?_
      refine Ev.iadd dX5_pack_58 ?_
      refine pw_modW_0_12 dX5_pack_59 wf_X5_253 ?_
      refine Ev.aload_0 dX5_pack_62 rfl ?_
      refine Ev.iload_1 dX5_pack_63 rfl ?_
      refine Ev.iload_2 dX5_pack_64 rfl ?_
      refine Ev.callV 0 [.int (nI f), .int 0] (m_packNow_0 (g0 := upd g 12 (g 12 + 1)) (ok.g rfl rfl) pk hf (fun k hk => (pk.2.1 k hk).2.1)) dX5_pack_65 wl_X5_256 wi_X5_packNow we_X5_packNow ok_X5_packNow cf5 rfl rfl (by simp [ev_e, Value.category]) rfl (Nat.le_of_ble_eq_true rfl) rfl (fun rv w2 hq => ?_)
      obtain ⟨p, g1, F1, hp, hg1, hA1, rfl, rfl⟩ := hq
      show Ev _ _ _ _ _ _ [.int _] _ _
      refine Ev.iret dX5_pack_68 ?_
      exact ⟨p, g1, F1, hp, fun i h1 h2 h3 => (hg1 i h2 h3).trans (upd_ne _ h1), (hg1 12 (by decide) (by decide)).trans pk_us, hA1, rfl, rfl⟩
    · exact absurd h46 h12
  refine Ev.iload_2 dX5_pack_19 rfl ?_
  refine Ev.bipush (v := 10) dX5_pack_20 (by decide) ?_
  refine Ev.bipush (v := 13) dX5_pack_22 (by decide) ?_
  refine k_X5_within (m_within _ _ _) dX5_pack_24 wl_X5_96 (Nat.le_of_ble_eq_true rfl) ?_
  refine Ev.if_ne 33 dX5_pack_27 (by decide) (fun h27 => ?_) (fun h27 => ?_)
  · refine Ev.aload_0 dX5_pack_33 rfl ?_
    refine Ev.getf cf5 1 (by decide) wf_X5_131 dX5_pack_34 rfl rfl ?_
    refine Ev.if_eq 49 dX5_pack_37 (by decide) (fun h37 => ?_) (fun h37 => ?_)
    · exact absurd h37 (by rw [ok.1]; exact nI_ne0 hV (by have := ok.2.2.1; omega))
    refine Ev.aload_0 dX5_pack_40 rfl ?_
    refine Ev.getf cf5 12 (by decide) wf_X5_253 dX5_pack_41 rfl rfl ?_
    refine Ev.bipush (v := 20) dX5_pack_44 (by decide) ?_
    refine Ev.icmp_ne 52 dX5_pack_46 (by decide) (fun h46 => ?_) (fun h46 => ?_)
    · refine Ev.aload_0 dX5_pack_52 rfl ?_
      refine Ev.dup dX5_pack_53 rfl ?_
      refine Ev.getf cf5 12 (by decide) wf_X5_253 dX5_pack_54 rfl rfl ?_
      refine Ev.iconst (v := 1) dX5_pack_57 (by decide) ?_
      refine Ev.iadd dX5_pack_58 ?_
      refine pw_modW_0_12 dX5_pack_59 wf_X5_253 ?_
      refine Ev.aload_0 dX5_pack_62 rfl ?_
      refine Ev.iload_1 dX5_pack_63 rfl ?_
      refine Ev.iload_2 dX5_pack_64 rfl ?_
      refine Ev.callV 0 [.int (nI f), .int 0] (m_packNow_0 (g0 := upd g 12 (g 12 + 1)) (ok.g rfl rfl) pk hf (fun k hk => (pk.2.1 k hk).2.1)) dX5_pack_65 wl_X5_256 wi_X5_packNow we_X5_packNow ok_X5_packNow cf5 rfl rfl (by simp [ev_e, Value.category]) rfl (Nat.le_of_ble_eq_true rfl) rfl (fun rv w2 hq => ?_)
      obtain ⟨p, g1, F1, hp, hg1, hA1, rfl, rfl⟩ := hq
      show Ev _ _ _ _ _ _ [.int _] _ _
      refine Ev.iret dX5_pack_68 ?_
      exact ⟨p, g1, F1, hp, fun i h1 h2 h3 => (hg1 i h2 h3).trans (upd_ne _ h1), (hg1 12 (by decide) (by decide)).trans pk_us, hA1, rfl, rfl⟩
    · exact absurd h46 h12
  · exact (hy.elim (fun z => z h16) (fun z => z h27)).elim

set_option maxHeartbeats 4000000 in
set_option maxRecDepth 100000 in
theorem m_pack_1 {d : Nat} {g : Nat → Int32} {G : Nat → Int64} {F : Nat → Nat → Int32} {V N : Nat} (ok : MOK g F V N) {b o r : Nat → Nat} (pk : PK (vM F) V N b o r) {f : Nat} (hf1 : 1 ≤ f) (hf : f ≤ 20) (hV : 0 < V) (h12 : ¬ g 12 = 20)  : Ev (d + 4) yX5_pack cX5_pack (some .int) 0 [some (.ref 0), some (.int (nI f)), some (.int 1)] [] (modW g G F) (fun rv w => ∃ (p : Nat → Nat) (g1 F1 : _), FO b o r V N f p ∧ (∀ i, i ≠ 12 → i ≠ 27 → i ≠ 28 → g1 i = g i) ∧ g1 12 = g 12 + 1 ∧ Ag F F1 ∧ w = modW g1 G F1 ∧ rv = some (.int (nI (ozr o N V p)))) := by
  have hx : ¬ wtn (nI f) 1 20 = 0 := wtn_f20 hf1 hf
  have hy : ¬ wtn 1 0 1 = 0 ∨ ¬ wtn 1 10 13 = 0 := (Or.inl (by decide))
  refine Ev.iload_1 dX5_pack_0 rfl ?_
  refine Ev.iconst (v := 1) dX5_pack_1 (by decide) ?_
  refine Ev.bipush (v := 20) dX5_pack_2 (by decide) ?_
  refine k_X5_within (m_within _ _ _) dX5_pack_4 wl_X5_96 (Nat.le_of_ble_eq_true rfl) ?_
  refine Ev.if_eq 30 dX5_pack_7 (by decide) (fun h7 => ?_) (fun h7 => ?_)
  · exact absurd h7 hx
  refine Ev.iload_2 dX5_pack_10 rfl ?_
  refine Ev.iconst (v := 0) dX5_pack_11 (by decide) ?_
  refine Ev.iconst (v := 1) dX5_pack_12 (by decide) ?_
  refine k_X5_within (m_within _ _ _) dX5_pack_13 wl_X5_96 (Nat.le_of_ble_eq_true rfl) ?_
  refine Ev.if_ne 33 dX5_pack_16 (by decide) (fun h16 => ?_) (fun h16 => ?_)
  · refine Ev.aload_0 dX5_pack_33 rfl ?_
    refine Ev.getf cf5 1 (by decide) wf_X5_131 dX5_pack_34 rfl rfl ?_
    refine Ev.if_eq 49 dX5_pack_37 (by decide) (fun h37 => ?_) (fun h37 => ?_)
    · exact absurd h37 (by rw [ok.1]; exact nI_ne0 hV (by have := ok.2.2.1; omega))
    refine Ev.aload_0 dX5_pack_40 rfl ?_
    refine Ev.getf cf5 12 (by decide) wf_X5_253 dX5_pack_41 rfl rfl ?_
    refine Ev.bipush (v := 20) dX5_pack_44 (by decide) ?_
    refine Ev.icmp_ne 52 dX5_pack_46 (by decide) (fun h46 => ?_) (fun h46 => ?_)
    · refine Ev.aload_0 dX5_pack_52 rfl ?_
      refine Ev.dup dX5_pack_53 rfl ?_
      refine Ev.getf cf5 12 (by decide) wf_X5_253 dX5_pack_54 rfl rfl ?_
      refine Ev.iconst (v := 1) dX5_pack_57 (by decide) ?_
      refine Ev.iadd dX5_pack_58 ?_
      refine pw_modW_0_12 dX5_pack_59 wf_X5_253 ?_
      refine Ev.aload_0 dX5_pack_62 rfl ?_
      refine Ev.iload_1 dX5_pack_63 rfl ?_
      refine Ev.iload_2 dX5_pack_64 rfl ?_
      refine Ev.callV 0 [.int (nI f), .int 1] (m_packNow_1 (g0 := upd g 12 (g 12 + 1)) (ok.g rfl rfl) pk hf (fun k hk => (pk.2.1 k hk).2.1)) dX5_pack_65 wl_X5_256 wi_X5_packNow we_X5_packNow ok_X5_packNow cf5 rfl rfl (by simp [ev_e, Value.category]) rfl (Nat.le_of_ble_eq_true rfl) rfl (fun rv w2 hq => ?_)
      obtain ⟨p, g1, F1, hp, hg1, hA1, rfl, rfl⟩ := hq
      show Ev _ _ _ _ _ _ [.int _] _ _
      refine Ev.iret dX5_pack_68 ?_
      exact ⟨p, g1, F1, hp, fun i h1 h2 h3 => (hg1 i h2 h3).trans (upd_ne _ h1), (hg1 12 (by decide) (by decide)).trans pk_us, hA1, rfl, rfl⟩
    · exact absurd h46 h12
  refine Ev.iload_2 dX5_pack_19 rfl ?_
  refine Ev.bipush (v := 10) dX5_pack_20 (by decide) ?_
  refine Ev.bipush (v := 13) dX5_pack_22 (by decide) ?_
  refine k_X5_within (m_within _ _ _) dX5_pack_24 wl_X5_96 (Nat.le_of_ble_eq_true rfl) ?_
  refine Ev.if_ne 33 dX5_pack_27 (by decide) (fun h27 => ?_) (fun h27 => ?_)
  · refine Ev.aload_0 dX5_pack_33 rfl ?_
    refine Ev.getf cf5 1 (by decide) wf_X5_131 dX5_pack_34 rfl rfl ?_
    refine Ev.if_eq 49 dX5_pack_37 (by decide) (fun h37 => ?_) (fun h37 => ?_)
    · exact absurd h37 (by rw [ok.1]; exact nI_ne0 hV (by have := ok.2.2.1; omega))
    refine Ev.aload_0 dX5_pack_40 rfl ?_
    refine Ev.getf cf5 12 (by decide) wf_X5_253 dX5_pack_41 rfl rfl ?_
    refine Ev.bipush (v := 20) dX5_pack_44 (by decide) ?_
    refine Ev.icmp_ne 52 dX5_pack_46 (by decide) (fun h46 => ?_) (fun h46 => ?_)
    · refine Ev.aload_0 dX5_pack_52 rfl ?_
      refine Ev.dup dX5_pack_53 rfl ?_
      refine Ev.getf cf5 12 (by decide) wf_X5_253 dX5_pack_54 rfl rfl ?_
      refine Ev.iconst (v := 1) dX5_pack_57 (by decide) ?_
      refine Ev.iadd dX5_pack_58 ?_
      refine pw_modW_0_12 dX5_pack_59 wf_X5_253 ?_
      refine Ev.aload_0 dX5_pack_62 rfl ?_
      refine Ev.iload_1 dX5_pack_63 rfl ?_
      refine Ev.iload_2 dX5_pack_64 rfl ?_
      refine Ev.callV 0 [.int (nI f), .int 1] (m_packNow_1 (g0 := upd g 12 (g 12 + 1)) (ok.g rfl rfl) pk hf (fun k hk => (pk.2.1 k hk).2.1)) dX5_pack_65 wl_X5_256 wi_X5_packNow we_X5_packNow ok_X5_packNow cf5 rfl rfl (by simp [ev_e, Value.category]) rfl (Nat.le_of_ble_eq_true rfl) rfl (fun rv w2 hq => ?_)
      obtain ⟨p, g1, F1, hp, hg1, hA1, rfl, rfl⟩ := hq
      show Ev _ _ _ _ _ _ [.int _] _ _
      refine Ev.iret dX5_pack_68 ?_
      exact ⟨p, g1, F1, hp, fun i h1 h2 h3 => (hg1 i h2 h3).trans (upd_ne _ h1), (hg1 12 (by decide) (by decide)).trans pk_us, hA1, rfl, rfl⟩
    · exact absurd h46 h12
  · exact (hy.elim (fun z => z h16) (fun z => z h27)).elim

set_option maxHeartbeats 4000000 in
set_option maxRecDepth 100000 in
theorem m_pack_b {d : Nat} {g : Nat → Int32} {G : Nat → Int64} {F : Nat → Nat → Int32} {V N : Nat} (ok : MOK g F V N) {b o r : Nat → Nat} (pk : PK (vM F) V N b o r) {f : Nat} (hf1 : 1 ≤ f) (hf : f ≤ 20) (hV : 0 < V) (h12 : ¬ g 12 = 20) {j : Nat} (hj : j < 4)  : Ev (d + 4) yX5_pack cX5_pack (some .int) 0 [some (.ref 0), some (.int (nI f)), some (.int (nI (10 + j)))] [] (modW g G F) (fun rv w => ∃ (p : Nat → Nat) (g1 F1 : _), FO b o r V N f p ∧ (∀ i, i ≠ 12 → i ≠ 27 → i ≠ 28 → g1 i = g i) ∧ g1 12 = g 12 + 1 ∧ Ag F F1 ∧ w = modW g1 G F1 ∧ rv = some (.int (if j < V then nI (p j) else 0))) := by
  have hx : ¬ wtn (nI f) 1 20 = 0 := wtn_f20 hf1 hf
  have hy : ¬ wtn (nI (10 + j)) 0 1 = 0 ∨ ¬ wtn (nI (10 + j)) 10 13 = 0 := (Or.inr (wtn_b hj))
  refine Ev.iload_1 dX5_pack_0 rfl ?_
  refine Ev.iconst (v := 1) dX5_pack_1 (by decide) ?_
  refine Ev.bipush (v := 20) dX5_pack_2 (by decide) ?_
  refine k_X5_within (m_within _ _ _) dX5_pack_4 wl_X5_96 (Nat.le_of_ble_eq_true rfl) ?_
  refine Ev.if_eq 30 dX5_pack_7 (by decide) (fun h7 => ?_) (fun h7 => ?_)
  · exact absurd h7 hx
  refine Ev.iload_2 dX5_pack_10 rfl ?_
  refine Ev.iconst (v := 0) dX5_pack_11 (by decide) ?_
  refine Ev.iconst (v := 1) dX5_pack_12 (by decide) ?_
  refine k_X5_within (m_within _ _ _) dX5_pack_13 wl_X5_96 (Nat.le_of_ble_eq_true rfl) ?_
  refine Ev.if_ne 33 dX5_pack_16 (by decide) (fun h16 => ?_) (fun h16 => ?_)
  · refine Ev.aload_0 dX5_pack_33 rfl ?_
    refine Ev.getf cf5 1 (by decide) wf_X5_131 dX5_pack_34 rfl rfl ?_
    refine Ev.if_eq 49 dX5_pack_37 (by decide) (fun h37 => ?_) (fun h37 => ?_)
    · exact absurd h37 (by rw [ok.1]; exact nI_ne0 hV (by have := ok.2.2.1; omega))
    refine Ev.aload_0 dX5_pack_40 rfl ?_
    refine Ev.getf cf5 12 (by decide) wf_X5_253 dX5_pack_41 rfl rfl ?_
    refine Ev.bipush (v := 20) dX5_pack_44 (by decide) ?_
    refine Ev.icmp_ne 52 dX5_pack_46 (by decide) (fun h46 => ?_) (fun h46 => ?_)
    · refine Ev.aload_0 dX5_pack_52 rfl ?_
      refine Ev.dup dX5_pack_53 rfl ?_
      refine Ev.getf cf5 12 (by decide) wf_X5_253 dX5_pack_54 rfl rfl ?_
      refine Ev.iconst (v := 1) dX5_pack_57 (by decide) ?_
      refine Ev.iadd dX5_pack_58 ?_
      refine pw_modW_0_12 dX5_pack_59 wf_X5_253 ?_
      refine Ev.aload_0 dX5_pack_62 rfl ?_
      refine Ev.iload_1 dX5_pack_63 rfl ?_
      refine Ev.iload_2 dX5_pack_64 rfl ?_
      refine Ev.callV 0 [.int (nI f), .int (nI (10 + j))] (m_packNow_b (g0 := upd g 12 (g 12 + 1)) (ok.g rfl rfl) pk hf (fun k hk => (pk.2.1 k hk).2.1) hj) dX5_pack_65 wl_X5_256 wi_X5_packNow we_X5_packNow ok_X5_packNow cf5 rfl rfl (by simp [ev_e, Value.category]) rfl (Nat.le_of_ble_eq_true rfl) rfl (fun rv w2 hq => ?_)
      obtain ⟨p, g1, F1, hp, hg1, hA1, rfl, rfl⟩ := hq
      show Ev _ _ _ _ _ _ [.int _] _ _
      refine Ev.iret dX5_pack_68 ?_
      exact ⟨p, g1, F1, hp, fun i h1 h2 h3 => (hg1 i h2 h3).trans (upd_ne _ h1), (hg1 12 (by decide) (by decide)).trans pk_us, hA1, rfl, rfl⟩
    · exact absurd h46 h12
  refine Ev.iload_2 dX5_pack_19 rfl ?_
  refine Ev.bipush (v := 10) dX5_pack_20 (by decide) ?_
  refine Ev.bipush (v := 13) dX5_pack_22 (by decide) ?_
  refine k_X5_within (m_within _ _ _) dX5_pack_24 wl_X5_96 (Nat.le_of_ble_eq_true rfl) ?_
  refine Ev.if_ne 33 dX5_pack_27 (by decide) (fun h27 => ?_) (fun h27 => ?_)
  · refine Ev.aload_0 dX5_pack_33 rfl ?_
    refine Ev.getf cf5 1 (by decide) wf_X5_131 dX5_pack_34 rfl rfl ?_
    refine Ev.if_eq 49 dX5_pack_37 (by decide) (fun h37 => ?_) (fun h37 => ?_)
    · exact absurd h37 (by rw [ok.1]; exact nI_ne0 hV (by have := ok.2.2.1; omega))
    refine Ev.aload_0 dX5_pack_40 rfl ?_
    refine Ev.getf cf5 12 (by decide) wf_X5_253 dX5_pack_41 rfl rfl ?_
    refine Ev.bipush (v := 20) dX5_pack_44 (by decide) ?_
    refine Ev.icmp_ne 52 dX5_pack_46 (by decide) (fun h46 => ?_) (fun h46 => ?_)
    · refine Ev.aload_0 dX5_pack_52 rfl ?_
      refine Ev.dup dX5_pack_53 rfl ?_
      refine Ev.getf cf5 12 (by decide) wf_X5_253 dX5_pack_54 rfl rfl ?_
      refine Ev.iconst (v := 1) dX5_pack_57 (by decide) ?_
      refine Ev.iadd dX5_pack_58 ?_
      refine pw_modW_0_12 dX5_pack_59 wf_X5_253 ?_
      refine Ev.aload_0 dX5_pack_62 rfl ?_
      refine Ev.iload_1 dX5_pack_63 rfl ?_
      refine Ev.iload_2 dX5_pack_64 rfl ?_
      refine Ev.callV 0 [.int (nI f), .int (nI (10 + j))] (m_packNow_b (g0 := upd g 12 (g 12 + 1)) (ok.g rfl rfl) pk hf (fun k hk => (pk.2.1 k hk).2.1) hj) dX5_pack_65 wl_X5_256 wi_X5_packNow we_X5_packNow ok_X5_packNow cf5 rfl rfl (by simp [ev_e, Value.category]) rfl (Nat.le_of_ble_eq_true rfl) rfl (fun rv w2 hq => ?_)
      obtain ⟨p, g1, F1, hp, hg1, hA1, rfl, rfl⟩ := hq
      show Ev _ _ _ _ _ _ [.int _] _ _
      refine Ev.iret dX5_pack_68 ?_
      exact ⟨p, g1, F1, hp, fun i h1 h2 h3 => (hg1 i h2 h3).trans (upd_ne _ h1), (hg1 12 (by decide) (by decide)).trans pk_us, hA1, rfl, rfl⟩
    · exact absurd h46 h12
  · exact (hy.elim (fun z => z h16) (fun z => z h27)).elim
