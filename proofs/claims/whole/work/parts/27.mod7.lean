theorem pp25 {F : Nat → Nat → Int32} {V N c x : Nat} {q : Nat → Nat} (hx : F 25 c = nI x) (hlo : ∀ i, i < c → F 25 i = nI (q i)) (hhi : ∀ i, c < i → i < V → F 25 i = nI 0 ∧ q i + 1 = 2 ^ N) (hxN : x < 2 ^ N) (hq : ∀ i, i < V → q i < 2 ^ N) (hc : c < V) (i : Nat) (hi : i < V) : F 25 i = nI (if i < c then q i else if i = c then x else 0) ∧ (if i < c then q i else if i = c then x else 0) < 2 ^ N := by
  by_cases h1 : i < c
  · rw [if_pos h1]; exact ⟨hlo i h1, hq i hi⟩
  · rw [if_neg h1]
    by_cases h2 : i = c
    · rw [if_pos h2, h2]; exact ⟨hx, hxN⟩
    · rw [if_neg h2]
      exact ⟨(hhi i (by omega) hi).1, by have := hq c hc; omega⟩

set_option maxHeartbeats 4000000 in
set_option maxRecDepth 100000 in
theorem m_nr3 {d : Nat} {g : Nat → Int32} {G : Nat → Int64} {F0 : Nat → Nat → Int32} {V N : Nat} {q : Nat → Nat} (hg : g 1 = nI V ∧ g 2 = nI N) (h4 : V ≤ 4) (h5 : N ≤ 5) (hq : ∀ i, i < V → q i < 2 ^ N) {c : Nat} (hc : c < V) : ∀ (n x : Nat) (F : Nat → Nat → Int32), 2 ^ N - x ≤ n → q c < x → x < 2 ^ N → F 25 c = nI x → (∀ i, i < c → F 25 i = nI (q i)) → (∀ i, c < i → i < V → F 25 i = nI 0 ∧ q i + 1 = 2 ^ N) → (∀ y, q c < y → y < x → ¬ us q c 0 0 &&& y = 0) → Ax 25 F0 F → Ev (d + 1) yX5_nextRow cX5_nextRow (some .boolean) 81 [some (.ref 0), some (.int (nI c)), some (.int (nI (us q c 0 0))), some (.int (nI c))] [] (modW g G F) (fun rv w => ∃ F1 : Nat → Nat → Int32, w = modW g G F1 ∧ Ax 25 F0 F1 ∧ ((rv = some (.int 0) ∧ ∀ i, i < V → q i + 1 = 2 ^ N) ∨ (rv = some (.int 1) ∧ ∃ (p : Nat → Nat) (c : Nat), c < V ∧ (∀ i, i < V → F1 25 i = nI (p i) ∧ p i < 2 ^ N) ∧ (∀ i, i < c → p i = q i) ∧ q c < p c ∧ (∀ i, c < i → i < V → p i = 0 ∧ q i + 1 = 2 ^ N) ∧ ∀ x, q c < x → x < p c → ¬ us q c 0 0 &&& x = 0))) := by
  intro n
  induction n with
  | zero =>
    intro x F hn hqx hxN hx hlo hhi hy hA
    omega
  | succ n ih =>
    intro x F hn hqx hxN hx hlo hhi hy hA
    have h32 := p32 h5
    have hx32 : x < 32 := by omega
    have hU : us q c 0 0 < 32 := us_lt c 0 0 (by decide) (fun i _ h => by have := hq i (by omega); omega)
    refine Ev.aload_0 dX5_nextRow_81 rfl ?_
    refine Ev.getf cf5 25 (by decide) wf_X5_51 dX5_nextRow_82 rfl rfl ?_
    refine Ev.iload_1 dX5_nextRow_85 rfl ?_
    refine Ev.aldn dX5_nextRow_86 rfl (by omega) (by decide) ?_
    refine Ev.iload_2 dX5_nextRow_87 rfl ?_
    refine Ev.iand dX5_nextRow_88 ?_
    refine ev_top (show nI (x &&& (us q c 0 0)) = F 25 c &&& nI (us q c 0 0) from by rw [hx]; exact (and32 hx32 hU).1.symm) ?_
    refine Ev.if_eq 122 dX5_nextRow_89 (by decide) (fun h89 => ?_) (fun h89 => ?_)
    · have hz : (us q c 0 0) &&& x = 0 := by rw [Nat.and_comm]; exact (nI_eq (b := 0) (by have := (and32 hx32 hU).2.2.1; omega) (by decide)).mp h89
      refine Ev.iconst (v := 1) dX5_nextRow_122 (by decide) ?_
      refine Ev.zret dX5_nextRow_123 (by decide) ?_
      exact ⟨F, rfl, hA, Or.inr ⟨rfl, (fun i => if i < c then q i else if i = c then x else 0), c, hc, fun i hi => pp25 hx hlo hhi hxN hq hc i hi, fun i hi => if_pos hi, by show q c < (if c < c then q c else if c = c then x else 0); rw [if_neg (Nat.lt_irrefl _), if_pos rfl]; exact hqx, fun i h1 h2 => ⟨by show (if i < c then q i else if i = c then x else 0) = 0; rw [if_neg (by omega), if_neg (by omega)], (hhi i h1 h2).2⟩, fun y h1 h2 => hy y h1 (by have h2 : y < (if c < c then q c else if c = c then x else 0) := h2; rw [if_neg (Nat.lt_irrefl _), if_pos rfl] at h2; exact h2)⟩⟩
    have hz : ¬ (us q c 0 0) &&& x = 0 := fun z => h89 (by rw [Nat.and_comm, z]; rfl)
    refine Ev.aload_0 dX5_nextRow_92 rfl ?_
    refine Ev.getf cf5 25 (by decide) wf_X5_51 dX5_nextRow_93 rfl rfl ?_
    refine Ev.iload_1 dX5_nextRow_96 rfl ?_
    refine Ev.aldn dX5_nextRow_97 rfl (by omega) (by decide) ?_
    refine Ev.iconst (v := 1) dX5_nextRow_98 (by decide) ?_
    refine Ev.aload_0 dX5_nextRow_99 rfl ?_
    refine Ev.getf cf5 2 (by decide) wf_X5_134 dX5_nextRow_100 rfl rfl ?_
    refine Ev.ishl dX5_nextRow_103 ?_
    refine Ev.iconst (v := 1) dX5_nextRow_104 (by decide) ?_
    refine Ev.isub dX5_nextRow_105 ?_
    refine ev_top (show nI (2 ^ N - 1) = ((1 : Int32) <<< (g 2 &&& 31)) - 1 from by rw [hg.2]; exact (pow_ok h5).1.symm) ?_
    rw [hx]
    refine Ev.icmp_ge 122 dX5_nextRow_106 (by decide) (fun h106 => ?_) (fun h106 => ?_)
    · have hx1 : 2 ^ N - 1 ≤ x := (nI_leI (by omega) (by omega)).mp h106
      refine Ev.iconst (v := 1) dX5_nextRow_122 (by decide) ?_
      refine Ev.zret dX5_nextRow_123 (by decide) ?_
      exact ⟨F, rfl, hA, Or.inr ⟨rfl, (fun i => if i < c then q i else if i = c then x else 0), c, hc, fun i hi => pp25 hx hlo hhi hxN hq hc i hi, fun i hi => if_pos hi, by show q c < (if c < c then q c else if c = c then x else 0); rw [if_neg (Nat.lt_irrefl _), if_pos rfl]; exact hqx, fun i h1 h2 => ⟨by show (if i < c then q i else if i = c then x else 0) = 0; rw [if_neg (by omega), if_neg (by omega)], (hhi i h1 h2).2⟩, fun y h1 h2 => hy y h1 (by have h2 : y < (if c < c then q c else if c = c then x else 0) := h2; rw [if_neg (Nat.lt_irrefl _), if_pos rfl] at h2; exact h2)⟩⟩
    have hx1 : ¬ 2 ^ N - 1 ≤ x := fun z => h106 ((nI_leI (by omega) (by omega)).mpr z)
    refine Ev.aload_0 dX5_nextRow_109 rfl ?_
    refine Ev.getf cf5 25 (by decide) wf_X5_51 dX5_nextRow_110 rfl rfl ?_
    refine Ev.iload_1 dX5_nextRow_113 rfl ?_
    refine Ev.dup2 dX5_nextRow_114 rfl rfl ?_
    refine Ev.aldn dX5_nextRow_115 rfl (by omega) (by decide) ?_
    refine Ev.iconst (v := 1) dX5_nextRow_116 (by decide) ?_
    refine Ev.iadd dX5_nextRow_117 ?_
    refine ev_top (show nI (x + 1) = F 25 c + 1 from by rw [hx, nI_1]) ?_
    refine aw_modW_14 dX5_nextRow_118 (by omega) ?_
    refine Ev.goto 81 dX5_nextRow_119 (by decide) ?_
    exact ih (x + 1) (up2 F 25 c (nI (x + 1))) (by omega) (by omega) (by omega) (by show upd (F 25) c _ c = _; rw [pk_us]) (fun i hi => by show upd (F 25) c _ i = _; rw [pk_un (by omega)]; exact hlo i hi) (fun i h1 h2 => ⟨by show upd (F 25) c _ i = _; rw [pk_un (by omega)]; exact (hhi i h1 h2).1, (hhi i h1 h2).2⟩) (fun y h1 h2 => (Nat.lt_or_ge y x).elim (hy y h1) (fun l => by rw [show y = x from by omega]; exact hz)) (hA.up c _)

set_option maxHeartbeats 4000000 in
set_option maxRecDepth 100000 in
theorem m_nr2 {d : Nat} {g : Nat → Int32} {G : Nat → Int64} {F0 : Nat → Nat → Int32} {V N : Nat} {q : Nat → Nat} (hg : g 1 = nI V ∧ g 2 = nI N) (h4 : V ≤ 4) (h5 : N ≤ 5) (hq : ∀ i, i < V → q i < 2 ^ N) {F : Nat → Nat → Int32} {c : Nat} (hc : c < V) (hlo : ∀ i, i < c → F 25 i = nI (q i)) {Q : Option Value → List Ce → Prop} : ∀ (n k u U : Nat), k + n = c → u < 32 → us q n k u = U → Ev (d + 1) yX5_nextRow cX5_nextRow (some .boolean) 71 [some (.ref 0), some (.int (nI c)), some (.int (nI U)), some (.int (nI c))] [] (modW g G F) Q → Ev (d + 1) yX5_nextRow cX5_nextRow (some .boolean) 51 [some (.ref 0), some (.int (nI c)), some (.int (nI u)), some (.int (nI k))] [] (modW g G F) Q := by
  intro n
  induction n with
  | zero =>
    intro k u U hk hu hU K
    have hk : k = c := by omega
    subst hk
    have hU : u = U := hU
    subst hU
    refine Ev.iload_3 dX5_nextRow_51 rfl ?_
    refine Ev.iload_1 dX5_nextRow_52 rfl ?_
    refine Ev.icmp_ge 71 dX5_nextRow_53 (by decide) (fun h53 => ?_) (fun h53 => ?_)
    · exact K
    · exact absurd (nI_le (by omega) (by omega)) h53
  | succ n ih =>
    intro k u U hk hu hU K
    refine Ev.iload_3 dX5_nextRow_51 rfl ?_
    refine Ev.iload_1 dX5_nextRow_52 rfl ?_
    refine Ev.icmp_ge 71 dX5_nextRow_53 (by decide) (fun h53 => ?_) (fun h53 => ?_)
    · exact absurd h53 (nI_ge (by omega) (by omega))
    refine Ev.iload_2 dX5_nextRow_56 rfl ?_
    refine Ev.aload_0 dX5_nextRow_57 rfl ?_
    refine Ev.getf cf5 25 (by decide) wf_X5_51 dX5_nextRow_58 rfl rfl ?_
    refine Ev.iload_3 dX5_nextRow_61 rfl ?_
    refine Ev.aldn dX5_nextRow_62 rfl (by omega) (by decide) ?_
    refine Ev.ior dX5_nextRow_63 ?_
    refine ev_top (show nI (u ||| q k) = nI u ||| F 25 k from by rw [hlo k (by omega)]; exact (and32 hu (by have := hq k (by omega); have := p32 h5; omega)).2.1) ?_
    refine Ev.ist2 dX5_nextRow_64 rfl ?_
    first | refine Ev.incn3 dX5_nextRow_65 rfl ?_ | refine Ev.inc3 dX5_nextRow_65 rfl ?_
    refine Ev.goto 51 dX5_nextRow_68 (by decide) ?_
    exact ih (k + 1) (u ||| q k) U (by omega) (and32 hu (by have := hq k (by omega); have := p32 h5; omega)).2.2.2 hU K

theorem pow_pos5 (N : Nat) : 1 ≤ 2 ^ N := Nat.pos_of_ne_zero (by simp)
theorem nr1_hi {F : Nat → Nat → Int32} {V N n : Nat} {q : Nat → Nat} (hx1 : q n = 2 ^ N - 1) (hhi : ∀ i, n + 1 ≤ i → i < V → F 25 i = nI 0 ∧ q i + 1 = 2 ^ N) (i : Nat) (h1 : n ≤ i) (h2 : i < V) : up2 F 25 n 0 25 i = nI 0 ∧ q i + 1 = 2 ^ N := by
  by_cases e : i = n
  · subst e
    exact ⟨by show upd (F 25) i 0 i = _; rw [pk_us]; rfl, by have := pow_pos5 N; omega⟩
  · exact ⟨by show upd (F 25) n _ i = _; rw [pk_un e]; exact (hhi i (by omega) h2).1, (hhi i (by omega) h2).2⟩

set_option maxHeartbeats 4000000 in
set_option maxRecDepth 100000 in
theorem m_nr1 {d : Nat} {g : Nat → Int32} {G : Nat → Int64} {F0 : Nat → Nat → Int32} {V N : Nat} {q : Nat → Nat} (hg : g 1 = nI V ∧ g 2 = nI N) (h4 : V ≤ 4) (h5 : N ≤ 5) (hq : ∀ i, i < V → q i < 2 ^ N) : ∀ (n : Nat) (F : Nat → Nat → Int32), n ≤ V → (∀ i, i < n → F 25 i = nI (q i)) → (∀ i, n ≤ i → i < V → F 25 i = nI 0 ∧ q i + 1 = 2 ^ N) → Ax 25 F0 F → Ev (d + 1) yX5_nextRow cX5_nextRow (some .boolean) 7 [some (.ref 0), some (.int (nI n - 1)), none, none] [] (modW g G F) (fun rv w => ∃ F1 : Nat → Nat → Int32, w = modW g G F1 ∧ Ax 25 F0 F1 ∧ ((rv = some (.int 0) ∧ ∀ i, i < V → q i + 1 = 2 ^ N) ∨ (rv = some (.int 1) ∧ ∃ (p : Nat → Nat) (c : Nat), c < V ∧ (∀ i, i < V → F1 25 i = nI (p i) ∧ p i < 2 ^ N) ∧ (∀ i, i < c → p i = q i) ∧ q c < p c ∧ (∀ i, c < i → i < V → p i = 0 ∧ q i + 1 = 2 ^ N) ∧ ∀ x, q c < x → x < p c → ¬ us q c 0 0 &&& x = 0))) := by
  intro n
  induction n with
  | zero =>
    intro F hn hlo hhi hA
    refine Ev.iload_1 dX5_nextRow_7 rfl ?_
    refine Ev.if_lt 41 dX5_nextRow_8 (by decide) (fun h8 => ?_) (fun h8 => ?_)
    · refine Ev.iload_1 dX5_nextRow_41 rfl ?_
      refine Ev.if_ge 47 dX5_nextRow_42 (by decide) (fun h42 => ?_) (fun h42 => ?_)
      · exact absurd h42 (by decide)
      refine Ev.iconst (v := 0) dX5_nextRow_45 (by decide) ?_
      refine Ev.zret dX5_nextRow_46 (by decide) ?_
      exact ⟨F, rfl, hA, Or.inl ⟨rfl, fun i hi => (hhi i (by omega) hi).2⟩⟩
    · exact absurd (show nI 0 - 1 < 0 from by decide) h8
  | succ n ih =>
    intro F hn hlo hhi hA
    rw [show nI (n + 1) - 1 = nI n from nI_pred n]
    have h32 := p32 h5
    have hqn := hq n (by omega)
    refine Ev.iload_1 dX5_nextRow_7 rfl ?_
    refine Ev.if_lt 41 dX5_nextRow_8 (by decide) (fun h8 => ?_) (fun h8 => ?_)
    · exact absurd h8 (nI_pos (by omega))
    refine Ev.aload_0 dX5_nextRow_11 rfl ?_
    refine Ev.getf cf5 25 (by decide) wf_X5_51 dX5_nextRow_12 rfl rfl ?_
    refine Ev.iload_1 dX5_nextRow_15 rfl ?_
    refine Ev.aldn dX5_nextRow_16 rfl (by omega) (by decide) ?_
    refine Ev.iconst (v := 1) dX5_nextRow_17 (by decide) ?_
    refine Ev.aload_0 dX5_nextRow_18 rfl ?_
    refine Ev.getf cf5 2 (by decide) wf_X5_134 dX5_nextRow_19 rfl rfl ?_
    refine Ev.ishl dX5_nextRow_22 ?_
    refine Ev.iconst (v := 1) dX5_nextRow_23 (by decide) ?_
    refine Ev.isub dX5_nextRow_24 ?_
    refine ev_top (show nI (2 ^ N - 1) = ((1 : Int32) <<< (g 2 &&& 31)) - 1 from by rw [hg.2]; exact (pow_ok h5).1.symm) ?_
    rw [hlo n (by omega)]
    refine Ev.icmp_ne 41 dX5_nextRow_25 (by decide) (fun h25 => ?_) (fun h25 => ?_)
    · have hx1 : ¬ q n = 2 ^ N - 1 := fun z => h25 (by rw [z])
      refine Ev.iload_1 dX5_nextRow_41 rfl ?_
      refine Ev.if_ge 47 dX5_nextRow_42 (by decide) (fun h42 => ?_) (fun h42 => ?_)
      · refine Ev.iconst (v := 0) dX5_nextRow_47 (by decide) ?_
        refine Ev.ist2 dX5_nextRow_48 rfl ?_
        refine Ev.iconst (v := 0) dX5_nextRow_49 (by decide) ?_
        refine Ev.ist3 dX5_nextRow_50 rfl ?_
        refine m_nr2 (F0 := F0) hg h4 h5 hq (c := n) (by omega) (fun i hi => hlo i (by omega)) n 0 0 _ (by omega) (by decide) rfl ?_
        refine Ev.aload_0 dX5_nextRow_71 rfl ?_
        refine Ev.getf cf5 25 (by decide) wf_X5_51 dX5_nextRow_72 rfl rfl ?_
        refine Ev.iload_1 dX5_nextRow_75 rfl ?_
        refine Ev.dup2 dX5_nextRow_76 rfl rfl ?_
        refine Ev.aldn dX5_nextRow_77 rfl (by omega) (by decide) ?_
        refine Ev.iconst (v := 1) dX5_nextRow_78 (by decide) ?_
        refine Ev.iadd dX5_nextRow_79 ?_
        refine ev_top (show nI (q n + 1) = F 25 n + 1 from by rw [hlo n (by omega), nI_1]) ?_
        refine aw_modW_14 dX5_nextRow_80 (by omega) ?_
        exact m_nr3 hg h4 h5 hq (c := n) (by omega) _ (q n + 1) (up2 F 25 n (nI (q n + 1))) (Nat.le_refl _) (by omega) (by omega) (by show upd (F 25) n _ n = _; rw [pk_us]) (fun i hi => by show upd (F 25) n _ i = _; rw [pk_un (by omega)]; exact hlo i (by omega)) (fun i h1 h2 => ⟨by show upd (F 25) n _ i = _; rw [pk_un (by omega)]; exact (hhi i (by omega) h2).1, (hhi i (by omega) h2).2⟩) (fun y h1 h2 => absurd h1 (by omega)) (hA.up n _)
      · exact absurd (nI_pos' (by omega)) h42
    have hx1 : q n = 2 ^ N - 1 := (nI_eq (by omega) (by omega)).mp h25
    refine Ev.aload_0 dX5_nextRow_28 rfl ?_
    refine Ev.getf cf5 25 (by decide) wf_X5_51 dX5_nextRow_29 rfl rfl ?_
    refine Ev.iload_1 dX5_nextRow_32 rfl ?_
    refine Ev.iconst (v := 0) dX5_nextRow_33 (by decide) ?_
    refine aw_modW_14 dX5_nextRow_34 (by omega) ?_
    refine Ev.iincI (v := nI n - 1) (ls2 := [some (.ref 0), some (.int (nI n - 1)), none, none]) dX5_nextRow_35 rfl (by rw [Int32.sub_eq_add_neg]; rfl) rfl rfl ?_
    refine Ev.goto 7 dX5_nextRow_38 (by decide) ?_
    exact ih (up2 F 25 n 0) (by omega) (fun i hi => by show upd (F 25) n _ i = _; rw [pk_un (by omega)]; exact hlo i (by omega)) (fun i h1 h2 => nr1_hi hx1 hhi i h1 h2) (hA.up n 0)

set_option maxHeartbeats 4000000 in
set_option maxRecDepth 100000 in
theorem m_nextRow {d : Nat} {g : Nat → Int32} {G : Nat → Int64} {F : Nat → Nat → Int32} {V N : Nat} {q : Nat → Nat} (hg : g 1 = nI V ∧ g 2 = nI N) (h4 : V ≤ 4) (h5 : N ≤ 5) (hq : ∀ i, i < V → q i < 2 ^ N) (h25 : ∀ i, i < V → F 25 i = nI (q i))  : Ev (d + 1) yX5_nextRow cX5_nextRow (some .boolean) 0 [some (.ref 0), none, none, none] [] (modW g G F) (fun rv w => ∃ F1 : Nat → Nat → Int32, w = modW g G F1 ∧ Ax 25 F F1 ∧ ((rv = some (.int 0) ∧ ∀ i, i < V → q i + 1 = 2 ^ N) ∨ (rv = some (.int 1) ∧ ∃ (p : Nat → Nat) (c : Nat), c < V ∧ (∀ i, i < V → F1 25 i = nI (p i) ∧ p i < 2 ^ N) ∧ (∀ i, i < c → p i = q i) ∧ q c < p c ∧ (∀ i, c < i → i < V → p i = 0 ∧ q i + 1 = 2 ^ N) ∧ ∀ x, q c < x → x < p c → ¬ us q c 0 0 &&& x = 0))) := by
  refine Ev.aload_0 dX5_nextRow_0 rfl ?_
  refine Ev.getf cf5 1 (by decide) wf_X5_131 dX5_nextRow_1 rfl rfl ?_
  refine Ev.iconst (v := 1) dX5_nextRow_4 (by decide) ?_
  refine Ev.isub dX5_nextRow_5 ?_
  rw [hg.1]
  refine Ev.ist1 dX5_nextRow_6 rfl ?_
  exact m_nr1 hg h4 h5 hq V F (Nat.le_refl _) h25 (fun i h1 h2 => absurd h1 (by omega)) (Ax.refl 25 F)
