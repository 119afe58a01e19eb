/-! the class's pack -/
theorem or_disj {u y k : Nat} (hu : u < 32) (hy : y < 32) (hk : k < 5) (h : u &&& y = 0) : bi (u ||| y) k = bi u k + bi y k := by
  have q : ∀ u y : Fin 32, u.val &&& y.val = 0 → ∀ k : Fin 5, bi (u.val ||| y.val) k.val = bi u.val k.val + bi y.val k.val := by decide +kernel
  exact q ⟨u, hu⟩ ⟨y, hy⟩ h ⟨k, hk⟩
theorem sm_or {f : Nat → Nat} {u y : Nat} (hu : u < 32) (hy : y < 32) (h : u &&& y = 0) : ∀ (n k : Nat), k + n ≤ 5 → sm f (u ||| y) n k = sm f u n k + sm f y n k
  | 0, _, _ => rfl
  | n + 1, k, hk => by
    have e := or_disj (k := k) hu hy (by omega) h
    have b1 : bi u k < 2 := Nat.mod_lt _ (by decide)
    have b2 : bi y k < 2 := Nat.mod_lt _ (by decide)
    have b3 : bi (u ||| y) k < 2 := Nat.mod_lt _ (by decide)
    have ih := sm_or (f := f) hu hy h n (k + 1) (by omega)
    simp only [sm]
    repeat' split
    all_goals omega
def sq (o : Nat → Nat) (N : Nat) (q : Nat → Nat) : Nat → Nat → Nat
  | 0, _ => 0
  | n + 1, s => sm o (q s) N 0 + sq o N q n (s + 1)
theorem us_sm {o : Nat → Nat} {N : Nat} {q : Nat → Nat} (hN : N ≤ 5) : ∀ (n s u : Nat), va q n s u → u < 32 → (∀ i, s ≤ i → i < s + n → q i < 32) → sm o (us q n s u) N 0 = sm o u N 0 + sq o N q n s
  | 0, _, _, _, _, _ => rfl
  | n + 1, s, u, hv, hu, hq => by
    have h1 := hq s (by omega) (by omega)
    rw [us, us_sm hN n (s + 1) _ hv.2 (and32 hu h1).2.2.2 (fun i a b => hq i (by omega) (by omega)), sm_or hu h1 hv.1 N 0 (by omega), sq]
    omega
theorem sm_z {f : Nat → Nat} : ∀ (n k : Nat), sm f 0 n k = 0
  | 0, _ => rfl
  | n + 1, k => by
    have : bi 0 k = 0 := by unfold bi; simp
    rw [sm, this, if_neg (by decide), sm_z n]
theorem ozr_sq {o : Nat → Nat} {N V : Nat} {q : Nat → Nat} (hN : N ≤ 5) (h : rowOk V N q) : ozr o N V q = sq o N q V 0 := by
  rw [ozr, us_sm hN V 0 0 h.1 (by decide) (fun i _ hi => by have := h.2 i (by omega); have := p32 hN; omega), sm_z, Nat.zero_add]
theorem sm3 {r : Nat → Nat} {S : Nat} : ∀ (n k : Nat), sm (fun k => r k * 3) S n k = 3 * sm r S n k
  | 0, _ => rfl
  | n + 1, k => by
    rw [sm, sm, sm3 n]
    split <;> omega
/-! rows, one village more at the end -/
theorem va_snoc {q : Nat → Nat} : ∀ (n s u : Nat), va q (n + 1) s u ↔ (va q n s u ∧ us q n s u &&& q (s + n) = 0)
  | 0, s, u => ⟨fun h => ⟨trivial, h.1⟩, fun h => ⟨h.2, trivial⟩⟩
  | n + 1, s, u => by
    have ih := va_snoc (q := q) n (s + 1) (u ||| q s)
    rw [show s + (n + 1) = s + 1 + n from by omega]
    constructor
    · intro h
      have := ih.mp h.2
      exact ⟨⟨h.1, this.1⟩, this.2⟩
    · intro h
      exact ⟨h.1.1, ih.mpr ⟨h.1.2, h.2⟩⟩
theorem us_snoc {q : Nat → Nat} : ∀ (n s u : Nat), us q (n + 1) s u = us q n s u ||| q (s + n)
  | 0, s, u => rfl
  | n + 1, s, u => by
    rw [us, us_snoc n (s + 1), show s + (n + 1) = s + 1 + n from by omega]
    rfl
theorem mn_snoc {b r : Nat → Nat} {N f : Nat} {q : Nat → Nat} : ∀ (n s : Nat), mn b r N f q (n + 1) s = mn b r N f q n s + (if 5 * f ≤ 3 * b (s + n) + sm (fun k => r k * 3) (q (s + n)) N 0 then 1 else 0)
  | 0, s => by simp [mn]
  | n + 1, s => by
    rw [mn, mn_snoc n (s + 1), mn, show s + (n + 1) = s + 1 + n from by omega]
    omega
theorem sq_snoc {o : Nat → Nat} {N : Nat} {q : Nat → Nat} : ∀ (n s : Nat), sq o N q (n + 1) s = sq o N q n s + sm o (q (s + n)) N 0
  | 0, s => by simp [sq]
  | n + 1, s => by
    rw [sq, sq_snoc n (s + 1), sq, show s + (n + 1) = s + 1 + n from by omega]
    omega
theorem cod_split {q : Nat → Nat} : ∀ (a b s : Nat), cod q (a + b) s = cod q a s * 32 ^ b + cod q b (s + a)
  | 0, b, s => by rw [Nat.zero_add, cod, Nat.zero_mul, Nat.zero_add, Nat.add_zero]
  | a + 1, b, s => by
    rw [show a + 1 + b = a + b + 1 from by omega, cod, cod_split a b (s + 1), cod, Nat.pow_add, Nat.add_mul, show s + 1 + a = s + (a + 1) from by omega, Nat.mul_assoc, Nat.add_assoc]
/-! the best of what was tried -/
section BP
variable {b o r : Nat → Nat} {V N f : Nat} {Pd : (Nat → Nat) → Prop}
def BSP (b o r : Nat → Nat) (V N f : Nat) (Pd : (Nat → Nat) → Prop) (B : Nat) (most least : Int32) (R : Nat → Int32) : Prop :=
  ((∀ p, Pd p → B ≤ cod p V 0) ∧ most = -1) ∨ ∃ p, Pd p ∧ cod p V 0 < B ∧ most = nI (mn b r N f p V 0) ∧ least = nI (ozr o N V p) ∧ (∀ i, i < V → R i = nI (p i)) ∧ ∀ p2, Pd p2 → cod p2 V 0 < B → key b o r V N f p ≤ key b o r V N f p2
theorem BSP.ext {B B' : Nat} {most least : Int32} {R : Nat → Int32} (h : BSP b o r V N f Pd B most least R) (hB : B ≤ B') (hn : ∀ p, Pd p → B ≤ cod p V 0 → ¬ cod p V 0 < B') : BSP b o r V N f Pd B' most least R := by
  rcases h with ⟨h1, h2⟩ | ⟨p, h1, h2, h3, h4, h5, h6⟩
  · exact Or.inl ⟨fun p hp => Nat.le_of_not_lt (hn p hp (h1 p hp)), h2⟩
  · refine Or.inr ⟨p, h1, by omega, h3, h4, h5, fun p2 hp2 hl => h6 p2 hp2 ?_⟩
    rcases Nat.lt_or_ge (cod p2 V 0) B with z | z
    · exact z
    · exact absurd hl (hn p2 hp2 z)
theorem bcpF_at : ∀ (n k : Nat) (KF : Nat → Nat → Int32) (a j : Nat), bcpF n k KF a j = if a = 0 ∧ k ≤ j ∧ j < k + n then KF 3 j else KF a j
  | 0, k, KF, a, j => by rw [bcpF, if_neg (by omega)]
  | n + 1, k, KF, a, j => by
    rw [bcpF, bcpF_at n (k + 1)]
    by_cases h : a = 0 ∧ k + 1 ≤ j ∧ j < k + 1 + n
    · rw [if_pos h, if_pos (by omega), up2_ne (by omega)]
    · rw [if_neg h]
      by_cases e : a = 0 ∧ j = k
      · rw [e.1, e.2, up2_at, if_pos (by omega)]
      · rw [up2_ne e, if_neg (by omega)]
theorem BSP.keep (hV : V ≤ 4) (hN : N ≤ 5) (ho : ∀ k, k < N → o k ≤ 9) (hP : ∀ p, Pd p → rowOk V N p) {q : Nat → Nat} (hq : Pd q) {S : PSt} (h3 : ∀ i, i < V → S.2 3 i = nI (q i)) (h : BSP b o r V N f Pd (cod q V 0) (S.1 1) (S.1 2) (S.2 0)) : BSP b o r V N f Pd (cod q V 0 + 1) ((kib S (nI (mn b r N f q V 0)) (nI (ozr o N V q))).1 1) ((kib S (nI (mn b r N f q V 0)) (nI (ozr o N V q))).1 2) ((kib S (nI (mn b r N f q V 0)) (nI (ozr o N V q))).2 0) := by
  have m2 := mn_le (b := b) (r := r) (N := N) (f := f) (q := q) V 0
  have o2 := ozr_bd (V := V) (p := q) hN ho
  have c2 := (row_bd hV hN (hP q hq).2).1
  have same : ∀ p2, Pd p2 → cod p2 V 0 = cod q V 0 → ∀ i, i < V → p2 i = q i := fun p2 hp2 e i hi => cod_inj V 0 (row_bd hV hN (hP p2 hp2).2).2 (row_bd hV hN (hP q hq).2).2 e i (by omega) (by omega)
  by_cases hb : S.1 1 < nI (mn b r N f q V 0) ∨ (nI (mn b r N f q V 0) = S.1 1 ∧ ¬ S.1 2 ≤ nI (ozr o N V q))
  · have e : kib S (nI (mn b r N f q V 0)) (nI (ozr o N V q)) = (upd (upd S.1 1 (nI (mn b r N f q V 0))) 2 (nI (ozr o N V q)), bcpF 4 0 S.2) := if_pos hb
    rw [e]
    refine Or.inr ⟨q, hq, by omega, ?_, pk_us (f := upd S.1 1 (nI (mn b r N f q V 0))) (k := 2) (x := nI (ozr o N V q)), fun i hi => ?_, fun p2 hp2 hl => ?_⟩
    · show upd (upd S.1 1 (nI (mn b r N f q V 0))) 2 (nI (ozr o N V q)) 1 = _
      rw [pk_un (by decide), pk_us]
    · show bcpF 4 0 S.2 0 i = _
      rw [bcpF_at, if_pos (by omega), h3 i hi]
    · by_cases e : cod p2 V 0 = cod q V 0
      · rw [key_congr (p := q) (q := p2) (fun i hi => (same p2 hp2 e i hi).symm)]
        exact Nat.le_refl _
      · rcases h with ⟨h1, h2⟩ | ⟨p, h1, h2, h3, h4, h5, h6⟩
        · have := h1 p2 hp2; omega
        · refine Nat.le_trans ?_ (h6 p2 hp2 (by omega))
          have m1 := mn_le (b := b) (r := r) (N := N) (f := f) (q := p) V 0
          have o1 := ozr_bd (V := V) (p := p) hN ho
          have c1 := (row_bd hV hN (hP p h1).2).1
          rw [h3, h4, nI_ltI (by omega) (by omega), nI_eq (by omega) (by omega), nI_leI (by omega) (by omega)] at hb
          unfold key
          omega
  · have e : kib S (nI (mn b r N f q V 0)) (nI (ozr o N V q)) = S := if_neg hb
    rw [e]
    rcases h with ⟨h1, h2⟩ | ⟨p, h1, h2, h3, h4, h5, h6⟩
    · exfalso
      refine hb (Or.inl ?_)
      rw [h2, Int32.lt_iff_toInt_lt, nI_toInt (by omega)]
      have : (-1 : Int32).toInt = -1 := by decide
      omega
    · refine Or.inr ⟨p, h1, by omega, h3, h4, h5, fun p2 hp2 hl => ?_⟩
      by_cases e : cod p2 V 0 = cod q V 0
      · rw [key_congr (p := p2) (q := q) (same p2 hp2 e)]
        have m1 := mn_le (b := b) (r := r) (N := N) (f := f) (q := p) V 0
        have o1 := ozr_bd (V := V) (p := p) hN ho
        have c1 := (row_bd hV hN (hP p h1).2).1
        rw [h3, h4, nI_ltI (by omega) (by omega), nI_eq (by omega) (by omega), nI_leI (by omega) (by omega)] at hb
        unfold key
        omega
      · exact h6 p2 hp2 (by omega)
end BP
/-! the search -/
theorem set_ok {N u s : Nat} (hN : N ≤ 5) (hu : u < 2 ^ N) (hs : s < 32) : (nI s &&& (nI (2 ^ N - 1 - u) ^^^ (-1)) = 0 ↔ (u &&& s = 0 ∧ s < 2 ^ N)) ∧ (u &&& s = 0 → s < 2 ^ N → dif (2 ^ N - 1 - u) s = 2 ^ N - 1 - (u ||| s) ∧ u ||| s < 2 ^ N ∧ s ≤ 2 ^ N - 1 - u) := by
  have q : ∀ N : Fin 6, ∀ u : Fin 32, u.val < 2 ^ N.val → ∀ s : Fin 32, (nI s.val &&& (nI (2 ^ N.val - 1 - u.val) ^^^ (-1)) = 0 ↔ (u.val &&& s.val = 0 ∧ s.val < 2 ^ N.val)) ∧ (u.val &&& s.val = 0 → s.val < 2 ^ N.val → dif (2 ^ N.val - 1 - u.val) s.val = 2 ^ N.val - 1 - (u.val ||| s.val) ∧ u.val ||| s.val < 2 ^ N.val ∧ s.val ≤ 2 ^ N.val - 1 - u.val) := by decide +kernel
  have := p32 hN
  exact q ⟨N, by omega⟩ ⟨u, by omega⟩ hu ⟨s, hs⟩
theorem us_ltN {N : Nat} {q : Nat → Nat} (hN : N ≤ 5) : ∀ (n s u : Nat), va q n s u → u < 2 ^ N → (∀ i, s ≤ i → i < s + n → q i < 2 ^ N) → us q n s u < 2 ^ N
  | 0, _, _, _, h, _ => h
  | n + 1, s, u, hv, h, hq => us_ltN hN n (s + 1) _ hv.2 ((set_ok hN h (by have := hq s (by omega) (by omega); have := p32 hN; omega)).2 hv.1 (hq s (by omega) (by omega))).2.1 (fun i a b => hq i (by omega) (by omega))
def alw (b r : Nat → Nat) (V N f : Nat) (p : Nat → Nat) : Prop := rowOk V N p ∧ ∀ i, i < V → p i = 0 ∨ 5 * f ≤ 3 * b i + sm (fun k => r k * 3) (p i) N 0
def KT (o r : Nat → Nat) (N : Nat) (KF : Nat → Nat → Int32) : Prop := ∀ S, S < 32 → KF 4 S = nI (sm o S N 0) ∧ KF 5 S = nI (3 * sm r S N 0)
def INV (o r : Nat → Nat) (V N : Nat) (q : Nat → Nat) (v : Nat) (S : PSt) : Prop := KT o r N S.2 ∧ (∀ i, i < v → S.2 3 i = nI (q i)) ∧ (∀ i, V ≤ i → i < 4 → S.2 3 i = 0) ∧ ∀ i, V ≤ i → i < 4 → S.2 0 i = 0
section CH
variable {X : Nat → Nat → Int32} {b o r : Nat → Nat} {V N f : Nat}
/-- rows that begin as q does -/
theorem blk {p q : Nat → Nat} {v m s : Nat} (hV : v + (m + 1) = V) (hp : ∀ i, i < V → p i < 32) (hq : ∀ i, i < v → q i < 32) (h1 : cod q v 0 * 32 ^ (m + 1) + s * 32 ^ m ≤ cod p V 0) (h2 : cod p V 0 < (cod q v 0 + 1) * 32 ^ (m + 1)) : (∀ i, i < v → p i = q i) ∧ s ≤ p v ∧ cod p V 0 = cod q v 0 * 32 ^ (m + 1) + (p v * 32 ^ m + cod p m (v + 1)) ∧ cod p m (v + 1) < 32 ^ m := by
  have e : cod p V 0 = cod p v 0 * 32 ^ (m + 1) + (p v * 32 ^ m + cod p m (v + 1)) := by
    rw [← hV, cod_split v (m + 1) 0, Nat.zero_add, cod]
  have c1 := cod_lt (q := p) m (v + 1) (fun i a b => hp i (by omega))
  have c2 : p v * 32 ^ m + cod p m (v + 1) < 32 ^ (m + 1) := cod_lt (q := p) (m + 1) v (fun i a b => hp i (by omega))
  have e2 : cod p v 0 = cod q v 0 := by
    rcases Nat.lt_trichotomy (cod p v 0) (cod q v 0) with l | l | l
    · have : (cod p v 0 + 1) * 32 ^ (m + 1) ≤ cod q v 0 * 32 ^ (m + 1) := Nat.mul_le_mul_right _ l
      rw [Nat.succ_mul] at this
      omega
    · exact l
    · have : (cod q v 0 + 1) * 32 ^ (m + 1) ≤ cod p v 0 * 32 ^ (m + 1) := Nat.mul_le_mul_right _ l
      omega
  rw [e2] at e
  refine ⟨fun i hi => cod_inj v 0 (fun i _ h => hp i (by omega)) (fun i _ h => hq i (by omega)) e2 i (by omega) (by omega), ?_, e, c1⟩
  rcases Nat.lt_or_ge (p v) s with l | l
  · have : (p v + 1) * 32 ^ m ≤ s * 32 ^ m := Nat.mul_le_mul_right _ l
    rw [Nat.succ_mul] at this
    omega
  · exact l
theorem chR_ok (pk : PK X V N b o r) (hV : V ≤ 4) (hN : N ≤ 5) (hf : f ≤ 20) : ∀ (m v : Nat) (q : Nat → Nat) (S : PSt), v + m = V → va q v 0 0 → (∀ i, i < v → q i < 2 ^ N ∧ (q i = 0 ∨ 5 * f ≤ 3 * b i + sm (fun k => r k * 3) (q i) N 0)) → INV o r V N q v S → BSP b o r V N f (alw b r V N f) (cod q v 0 * 32 ^ m) (S.1 1) (S.1 2) (S.2 0) → INV o r V N q v (chR X (nI f) m v (2 ^ N - 1 - us q v 0 0) (nI (mn b r N f q v 0)) (nI (sq o N q v 0)) S) ∧ BSP b o r V N f (alw b r V N f) ((cod q v 0 + 1) * 32 ^ m) ((chR X (nI f) m v (2 ^ N - 1 - us q v 0 0) (nI (mn b r N f q v 0)) (nI (sq o N q v 0)) S).1 1) ((chR X (nI f) m v (2 ^ N - 1 - us q v 0 0) (nI (mn b r N f q v 0)) (nI (sq o N q v 0)) S).1 2) ((chR X (nI f) m v (2 ^ N - 1 - us q v 0 0) (nI (mn b r N f q v 0)) (nI (sq o N q v 0)) S).2 0) := by
  have ho : ∀ k, k < N → o k ≤ 9 := fun k hk => (pk.2.1 k hk).2.1
  have h32 := p32 hN
  intro m
  induction m with
  | zero =>
    intro v q S hv hva hq hI hB
    have hv : v = V := by omega
    subst hv
    have hrow : rowOk v N q := ⟨hva, fun i hi => (hq i hi).1⟩
    have hal : alw b r v N f q := ⟨hrow, fun i hi => (hq i hi).2⟩
    rw [chR, ← ozr_sq hN hrow]
    rw [Nat.pow_zero, Nat.mul_one] at hB ⊢
    refine ⟨?_, BSP.keep hV hN ho (fun p hp => hp.1) hal hI.2.1 hB⟩
    unfold kib
    split
    · refine ⟨fun T hT => ?_, fun i hi => ?_, fun i h1 h2 => ?_, fun i h1 h2 => ?_⟩
      · show bcpF 4 0 S.2 4 T = _ ∧ bcpF 4 0 S.2 5 T = _
        rw [bcpF_at, if_neg (by omega), bcpF_at, if_neg (by omega)]
        exact hI.1 T hT
      · show bcpF 4 0 S.2 3 i = _
        rw [bcpF_at, if_neg (by omega)]
        exact hI.2.1 i hi
      · show bcpF 4 0 S.2 3 i = _
        rw [bcpF_at, if_neg (by omega)]
        exact hI.2.2.1 i h1 h2
      · show bcpF 4 0 S.2 0 i = _
        rw [bcpF_at, if_pos (by omega)]
        exact hI.2.2.1 i h1 h2
    · exact hI
  | succ m ihm =>
    intro v q S hv hva hq hI hB
    have hu : us q v 0 0 < 2 ^ N := us_ltN hN v 0 0 hva (pow_pos5 N) (fun i _ hi => (hq i (by omega)).1)
    have hvV : v < V := by omega
    have hb3 : (3 : Int32) * X 0 v = nI (3 * b v) := by rw [(pk.1 v hvV).1]; exact pk_mul 3 _
    have hb9 := (pk.1 v hvV).2
    have hq32 : ∀ i, i < v → q i < 32 := fun i hi => by have := (hq i hi).1; omega
    rw [chR]
    have loop : ∀ (n s : Nat) (S : PSt), s + n = 2 ^ N - 1 - us q v 0 0 + 1 → INV o r V N q v S → BSP b o r V N f (alw b r V N f) (cod q v 0 * 32 ^ (m + 1) + s * 32 ^ m) (S.1 1) (S.1 2) (S.2 0) → ∀ Z, Z = chL (fun set S => chB (fun fr' st' oz' S' => chR X (nI f) m (v + 1) fr' st' oz' S') (3 * X 0 v) (nI f) v (2 ^ N - 1 - us q v 0 0) (nI (mn b r N f q v 0)) (nI (sq o N q v 0)) set S) n s S → INV o r V N q v Z ∧ BSP b o r V N f (alw b r V N f) (cod q v 0 * 32 ^ (m + 1) + (2 ^ N - 1 - us q v 0 0 + 1) * 32 ^ m) (Z.1 1) (Z.1 2) (Z.2 0) := by
      intro n
      induction n with
      | zero =>
        intro s S hs hI hB Z hZ
        rw [chL] at hZ
        subst hZ
        rw [← hs, Nat.add_zero]
        exact ⟨hI, hB⟩
      | succ n ihn =>
        intro s S hs hI hB Z hZ
        rw [chL] at hZ
        have hs32 : s < 32 := by omega
        obtain ⟨k1, k2⟩ := set_ok hN hu hs32
        obtain ⟨t4, t5⟩ := hI.1 s hs32
        have hbd := sm_le (f := r) (S := s) (c := 100) N 0 (fun j _ hj => (pk.2.2 j (by omega)).2)
        have hlif : lifs (3 * X 0 v + S.2 5 s) (nI f) = 0 ↔ 5 * f ≤ 3 * b v + sm (fun k => r k * 3) s N 0 := by
          rw [hb3, t5, nI_add, lifs_0 (by omega) (by omega), sm3]
        by_cases hc : nI s &&& (nI (2 ^ N - 1 - us q v 0 0) ^^^ (-1)) = 0 ∧ (lifs (3 * X 0 v + S.2 5 s) (nI f) = 0 ∨ nI s = 0)
        · -- tried
          obtain ⟨hd, hsN⟩ := k1.mp hc.1
          obtain ⟨d1, d2, d3⟩ := k2 hd hsN
          have hz : s = 0 ∨ 5 * f ≤ 3 * b v + sm (fun k => r k * 3) s N 0 := hc.2.elim (fun z => Or.inr (hlif.mp z)) (fun z => Or.inl ((nI_eq (b := 0) (by omega) (by decide)).mp z))
          have e0 : chB (fun fr' st' oz' S' => chR X (nI f) m (v + 1) fr' st' oz' S') (3 * X 0 v) (nI f) v (2 ^ N - 1 - us q v 0 0) (nI (mn b r N f q v 0)) (nI (sq o N q v 0)) s S = chR X (nI f) m (v + 1) (dif (2 ^ N - 1 - us q v 0 0) s) (nI (mn b r N f q v 0) + (if lifs (3 * X 0 v + S.2 5 s) (nI f) = 0 then 1 else 0)) (nI (sq o N q v 0) + S.2 4 s) (S.1, up2 S.2 3 v (nI s)) := if_pos hc
          rw [e0] at hZ
          -- the row with s
          have qv : ∀ i, i < v → (fun i => if i = v then s else q i) i = q i := fun i hi => if_neg (by omega)
          have qs : (fun i => if i = v then s else q i) v = s := if_pos rfl
          generalize (fun i => if i = v then s else q i) = q2 at qv qs
          have eva : va q2 v 0 0 := (va_congr v 0 0 (fun i _ hi => qv i (by omega))).mpr hva
          have eus : us q2 v 0 0 = us q v 0 0 := us_congr v 0 0 (fun i _ hi => qv i (by omega))
          have emn : mn b r N f q2 v 0 = mn b r N f q v 0 := mn_congr v 0 (fun i _ hi => qv i (by omega))
          have ecd : cod q2 v 0 = cod q v 0 := cod_congr v 0 (fun i _ hi => qv i (by omega))
          have esq : sq o N q2 v 0 = sq o N q v 0 := by
            have : ∀ (n s : Nat), s + n ≤ v → sq o N q2 n s = sq o N q n s := by
              intro n
              induction n with
              | zero => intro s _; rfl
              | succ n ih => intro s h; rw [sq, sq, qv s (by omega), ih (s + 1) (by omega)]
            exact this v 0 (by omega)
          have hva2 : va q2 (v + 1) 0 0 := (va_snoc v 0 0).mpr ⟨eva, by rw [eus, Nat.zero_add, qs]; exact hd⟩
          have f1 : dif (2 ^ N - 1 - us q v 0 0) s = 2 ^ N - 1 - us q2 (v + 1) 0 0 := by rw [d1, us_snoc, eus, Nat.zero_add, qs]
          have f2 : nI (mn b r N f q v 0) + (if lifs (3 * X 0 v + S.2 5 s) (nI f) = 0 then 1 else 0) = nI (mn b r N f q2 (v + 1) 0) := by
            rw [mn_snoc, emn, Nat.zero_add, qs]
            by_cases z : 5 * f ≤ 3 * b v + sm (fun k => r k * 3) s N 0
            · rw [if_pos (hlif.mpr z), if_pos z, nI_1]
            · rw [if_neg (fun y => z (hlif.mp y)), if_neg z]; simp
          have f3 : nI (sq o N q v 0) + S.2 4 s = nI (sq o N q2 (v + 1) 0) := by rw [t4, nI_add, sq_snoc, esq, Nat.zero_add, qs]
          have f4 : cod q2 (v + 1) 0 = cod q v 0 * 32 + s := by
            rw [cod_split v 1 0, ecd, Nat.zero_add, cod, cod, qs, Nat.pow_zero, Nat.mul_one, Nat.add_zero, Nat.pow_one]
          rw [f1, f2, f3] at hZ
          have hI2 : INV o r V N q2 (v + 1) (S.1, up2 S.2 3 v (nI s)) := by
            refine ⟨fun T hT => ?_, fun i hi => ?_, fun i h1 h2 => ?_, fun i h1 h2 => ?_⟩
            · show up2 S.2 3 v (nI s) 4 T = _ ∧ up2 S.2 3 v (nI s) 5 T = _
              rw [up2_ne (by omega), up2_ne (by omega)]
              exact hI.1 T hT
            · show up2 S.2 3 v (nI s) 3 i = _
              by_cases e : i = v
              · rw [e, up2_at, qs]
              · rw [up2_ne (by omega), qv i (by omega)]
                exact hI.2.1 i (by omega)
            · show up2 S.2 3 v (nI s) 3 i = _
              rw [up2_ne (by omega)]
              exact hI.2.2.1 i h1 h2
            · show up2 S.2 3 v (nI s) 0 i = _
              rw [up2_ne (by omega)]
              exact hI.2.2.2 i h1 h2
          have p1 : cod q2 (v + 1) 0 * 32 ^ m = cod q v 0 * 32 ^ (m + 1) + s * 32 ^ m := by
            rw [f4, Nat.add_mul, Nat.pow_succ, Nat.mul_assoc, Nat.mul_comm 32 (32 ^ m)]
          have p2 : (cod q2 (v + 1) 0 + 1) * 32 ^ m = cod q v 0 * 32 ^ (m + 1) + (s + 1) * 32 ^ m := by
            rw [Nat.succ_mul, p1, Nat.succ_mul]; omega
          obtain ⟨r1, r2⟩ := ihm (v + 1) q2 (S.1, up2 S.2 3 v (nI s)) (by omega) hva2 (fun i hi => by
            by_cases e : i = v
            · rw [e, qs]; exact ⟨hsN, hz⟩
            · rw [qv i (by omega)]; exact hq i (by omega)) hI2 (by
              rw [p1]
              have e00 : up2 S.2 3 v (nI s) 0 = S.2 0 := if_neg (by decide)
              show BSP b o r V N f (alw b r V N f) _ (S.1 1) (S.1 2) (up2 S.2 3 v (nI s) 0)
              rw [e00]
              exact hB)
          rw [p2] at r2
          refine ihn (s + 1) _ (by omega) ⟨r1.1, fun i hi => ?_, r1.2.2.1, r1.2.2.2⟩ r2 Z hZ
          rw [← qv i hi]
          exact r1.2.1 i (by omega)
        · -- passed over
          have e0 : chB (fun fr' st' oz' S' => chR X (nI f) m (v + 1) fr' st' oz' S') (3 * X 0 v) (nI f) v (2 ^ N - 1 - us q v 0 0) (nI (mn b r N f q v 0)) (nI (sq o N q v 0)) s S = S := if_neg hc
          rw [e0] at hZ
          refine ihn (s + 1) S (by omega) hI (BSP.ext hB (Nat.add_le_add_left (Nat.mul_le_mul_right _ (Nat.le_succ s)) _) (fun p hp h1 h2 => ?_)) Z hZ
          have hp32 : ∀ i, i < V → p i < 32 := fun i hi => by have := hp.1.2 i hi; omega
          have hle : (s + 1) * 32 ^ m ≤ 32 * 32 ^ m := Nat.mul_le_mul_right _ (by omega)
          obtain ⟨b1, b2, b3, b4⟩ := blk (p := p) (q := q) hv hp32 hq32 h1 (by rw [Nat.succ_mul, Nat.pow_succ] ; rw [Nat.pow_succ] at h2; omega)
          have hps : p v = s := by
            rcases Nat.lt_or_ge s (p v) with l | l
            · have : (s + 1) * 32 ^ m ≤ p v * 32 ^ m := Nat.mul_le_mul_right _ l
              omega
            · omega
          have hvp : va p (v + 1) 0 0 := by
            have : ∀ (a b s u : Nat), va p (a + b) s u → va p a s u := by
              intro a
              induction a with
              | zero => intro b s u _; exact trivial
              | succ a ih => intro b s u h; rw [show a + 1 + b = a + b + 1 from by omega] at h; exact ⟨h.1, ih b _ _ h.2⟩
            exact this (v + 1) m 0 0 (by rw [show v + 1 + m = V from by omega]; exact hp.1.1)
          have hd := ((va_snoc v 0 0).mp hvp).2
          rw [us_congr v 0 0 (fun i _ hi => b1 i (by omega)), Nat.zero_add, hps] at hd
          have hsN : s < 2 ^ N := by have := hp.1.2 v hvV; rw [hps] at this; exact this
          refine hc ⟨k1.mpr ⟨hd, hsN⟩, ?_⟩
          rcases hp.2 v hvV with z | z
          · exact Or.inr (by rw [← hps, z]; rfl)
          · rw [hps] at z; exact Or.inl (hlif.mpr z)
    obtain ⟨r1, r2⟩ := loop (2 ^ N - 1 - us q v 0 0 + 1) 0 S (by omega) hI (by rw [Nat.zero_mul, Nat.add_zero]; exact hB) _ rfl
    refine ⟨r1, BSP.ext r2 ?_ (fun p hp h1 h2 => ?_)⟩
    · have : (2 ^ N - 1 - us q v 0 0 + 1) * 32 ^ m ≤ 32 * 32 ^ m := Nat.mul_le_mul_right _ (by omega)
      have e : (cod q v 0 + 1) * 32 ^ (m + 1) = cod q v 0 * 32 ^ (m + 1) + 32 * 32 ^ m := by rw [Nat.succ_mul, Nat.pow_succ, Nat.mul_comm 32]
      rw [e]
      exact Nat.add_le_add_left this _
    · have hp32 : ∀ i, i < V → p i < 32 := fun i hi => by have := hp.1.2 i hi; omega
      obtain ⟨b1, b2, b3, b4⟩ := blk (p := p) (q := q) hv hp32 hq32 h1 h2
      have hvp : va p (v + 1) 0 0 := by
        have : ∀ (a b s u : Nat), va p (a + b) s u → va p a s u := by
          intro a
          induction a with
          | zero => intro b s u _; exact trivial
          | succ a ih => intro b s u h; rw [show a + 1 + b = a + b + 1 from by omega] at h; exact ⟨h.1, ih b _ _ h.2⟩
        exact this (v + 1) m 0 0 (by rw [show v + 1 + m = V from by omega]; exact hp.1.1)
      have hd := ((va_snoc v 0 0).mp hvp).2
      rw [us_congr v 0 0 (fun i _ hi => b1 i (by omega)), Nat.zero_add] at hd
      have := ((set_ok hN hu (hp32 v hvV)).2 hd (hp.1.2 v hvV)).2.2
      omega
theorem bit_is {S k : Nat} (hS : S < 32) (hk : k < 5) : (nI S >>> (nI k &&& 31)) &&& 1 = 1 ↔ bi S k = 1 := by
  have q : ∀ a : Fin 32, ∀ b : Fin 5, (nI a.val >>> (nI b.val &&& 31)) &&& 1 = 1 ↔ bi a.val b.val = 1 := by decide +kernel
  exact q ⟨S, hS⟩ ⟨k, hk⟩
theorem wgF_sm {S : Nat} (pk : PK X V N b o r) (hN : N ≤ 5) (hS : S < 32) : ∀ (n k x y : Nat), k + n ≤ N → wgF X (nI S) n k (nI x) (nI y) = (nI (x + sm o S n k), nI (y + sm r S n k))
  | 0, _, _, _, _ => rfl
  | n + 1, k, x, y, h => by
    rw [wgF, sm, sm]
    by_cases hb : bi S k = 1
    · rw [if_pos ((bit_is hS (by omega)).mpr hb), if_pos hb, if_pos hb, (pk.2.2 k (by omega)).1, (pk.2.1 k (by omega)).1, nI_add, nI_add, wgF_sm pk hN hS n (k + 1) _ _ (by omega), Nat.add_assoc, Nat.add_assoc]
    · rw [if_neg (fun z => hb ((bit_is hS (by omega)).mp z)), if_neg hb, if_neg hb, wgF_sm pk hN hS n (k + 1) _ _ (by omega), Nat.zero_add, Nat.zero_add]
theorem wgA_at (pk : PK X V N b o r) (hN : N ≤ 5) : ∀ (n k : Nat) (KF : Nat → Nat → Int32), k + n ≤ 32 → (∀ S, k ≤ S → S < k + n → wgA X N n k KF 4 S = nI (sm o S N 0) ∧ wgA X N n k KF 5 S = nI (3 * sm r S N 0)) ∧ ∀ a j, (j < k ∨ (¬ a = 4 ∧ ¬ a = 5)) → wgA X N n k KF a j = KF a j
  | 0, k, KF, _ => ⟨fun S h1 h2 => absurd h2 (by omega), fun _ _ _ => rfl⟩
  | n + 1, k, KF, h => by
    obtain ⟨h1, h2⟩ := wgA_at pk hN n (k + 1) (wg X N KF k) (by omega)
    have e := wgF_sm pk hN (S := k) (by omega) N 0 0 0 (by omega)
    have e : wgF X (nI k) N 0 0 0 = (nI (0 + sm o k N 0), nI (0 + sm r k N 0)) := e
    rw [Nat.zero_add, Nat.zero_add] at e
    refine ⟨fun S s1 s2 => ?_, fun a j hj => ?_⟩
    · rw [wgA]
      by_cases q : S = k
      · subst q
        rw [h2 4 S (by omega), h2 5 S (by omega), wg, e]
        refine ⟨?_, ?_⟩
        · rw [up2_ne (by omega), up2_at]
        · rw [up2_at]
          show nI (sm r S N 0) * nI 3 = _
          rw [pk_mul, Nat.mul_comm]
      · exact h1 S (by omega) (by omega)
    · rw [wgA, h2 a j (by omega), wg, up2_ne (by omega), up2_ne (by omega)]
theorem z4_at : ∀ (n k : Nat) (KF : Nat → Nat → Int32) (a j : Nat), z4 n k KF a j = if (a = 3 ∨ a = 0) ∧ k ≤ j ∧ j < k + n then 0 else KF a j
  | 0, k, KF, a, j => by rw [z4, if_neg (by omega)]
  | n + 1, k, KF, a, j => by
    rw [z4, z4_at n (k + 1)]
    by_cases h : (a = 3 ∨ a = 0) ∧ k + 1 ≤ j ∧ j < k + 1 + n
    · rw [if_pos h, if_pos (by omega)]
    · rw [if_neg h]
      by_cases e : (a = 3 ∨ a = 0) ∧ j = k
      · rw [if_pos (by omega), e.2]
        rcases e.1 with q | q
        · rw [q, up2_ne (by omega), up2_at]
        · rw [q, up2_at]
      · rw [up2_ne (by omega), up2_ne (by omega), if_neg (by omega)]
/-- rows where nothing stands by a set are never better -/
theorem alw_of {x : Nat → Nat} (hV : V ≤ 4) (hN : N ≤ 5) (ho : ∀ k, k < N → o k ≤ 9) (hx : rowOk V N x) : ∃ y, alw b r V N f y ∧ key b o r V N f y ≤ key b o r V N f x := by
  refine ⟨fun i => if x i = 0 ∨ 5 * f ≤ 3 * b i + sm (fun k => r k * 3) (x i) N 0 then x i else 0, ?_⟩
  have hy : ∀ i, (fun i => if x i = 0 ∨ 5 * f ≤ 3 * b i + sm (fun k => r k * 3) (x i) N 0 then x i else 0) i = x i ∨ ((fun i => if x i = 0 ∨ 5 * f ≤ 3 * b i + sm (fun k => r k * 3) (x i) N 0 then x i else 0) i = 0 ∧ ¬ 5 * f ≤ 3 * b i + sm (fun k => r k * 3) (x i) N 0) := fun i => by
    by_cases h : x i = 0 ∨ 5 * f ≤ 3 * b i + sm (fun k => r k * 3) (x i) N 0
    · exact Or.inl (if_pos h)
    · exact Or.inr ⟨if_neg h, fun z => h (Or.inr z)⟩
  have hz : ∀ i, (fun i => if x i = 0 ∨ 5 * f ≤ 3 * b i + sm (fun k => r k * 3) (x i) N 0 then x i else 0) i = 0 ∨ 5 * f ≤ 3 * b i + sm (fun k => r k * 3) ((fun i => if x i = 0 ∨ 5 * f ≤ 3 * b i + sm (fun k => r k * 3) (x i) N 0 then x i else 0) i) N 0 := fun i => by
    by_cases h : x i = 0 ∨ 5 * f ≤ 3 * b i + sm (fun k => r k * 3) (x i) N 0
    · show (if x i = 0 ∨ 5 * f ≤ 3 * b i + sm (fun k => r k * 3) (x i) N 0 then x i else 0) = 0 ∨ 5 * f ≤ 3 * b i + sm (fun k => r k * 3) (if x i = 0 ∨ 5 * f ≤ 3 * b i + sm (fun k => r k * 3) (x i) N 0 then x i else 0) N 0
      rw [if_pos h]; exact h
    · exact Or.inl (if_neg h)
  generalize (fun i => if x i = 0 ∨ 5 * f ≤ 3 * b i + sm (fun k => r k * 3) (x i) N 0 then x i else 0) = y at hy hz
  have h32 := p32 hN
  have hva : ∀ (n s u u' : Nat), u' ||| u = u → va x n s u → va y n s u' := by
    intro n
    induction n with
    | zero => intro s u u' _ _; exact trivial
    | succ n ih =>
      intro s u u' hu h
      have hd : u' &&& x s = 0 := by
        have e := Nat.and_or_distrib_right u' u (x s)
        rw [hu, h.1] at e
        have : u' &&& x s ||| 0 = u' &&& x s := Nat.or_zero _
        omega
      rcases hy s with q | q
      · refine ⟨by rw [q]; exact hd, ih (s + 1) _ _ ?_ h.2⟩
        rw [q, Nat.or_assoc, ← Nat.or_assoc (x s) u (x s), Nat.or_comm (x s) u, Nat.or_assoc u (x s) (x s), Nat.or_self, ← Nat.or_assoc, hu]
      · refine ⟨by rw [q.1]; exact Nat.and_zero _, ih (s + 1) _ _ ?_ h.2⟩
        rw [q.1, Nat.or_zero, ← Nat.or_assoc, hu]
  have hyx : ∀ i, i < V → y i ≤ x i := fun i _ => by
    rcases hy i with q | q
    · rw [q]; exact Nat.le_refl _
    · rw [q.1]; exact Nat.zero_le _
  have hrow : rowOk V N y := ⟨hva V 0 0 0 (Nat.or_zero 0) hx.1, fun i hi => Nat.lt_of_le_of_lt (hyx i hi) (hx.2 i hi)⟩
  refine ⟨⟨hrow, fun i _ => hz i⟩, ?_⟩
  have hmn : ∀ (n s : Nat), mn b r N f x n s ≤ mn b r N f y n s := by
    intro n
    induction n with
    | zero => intro s; exact Nat.le_refl _
    | succ n ih =>
      intro s
      have := ih (s + 1)
      rw [mn, mn]
      rcases hy s with q | q
      · rw [q]; omega
      · rw [if_neg q.2]; omega
  have hsq : ∀ (n s : Nat), sq o N y n s ≤ sq o N x n s := by
    intro n
    induction n with
    | zero => intro s; exact Nat.le_refl _
    | succ n ih =>
      intro s
      have := ih (s + 1)
      rw [sq, sq]
      rcases hy s with q | q
      · rw [q]; omega
      · rw [q.1, sm_z]; omega
  have c := cod_le (q := y) (p := x) V 0 (fun i _ hi => hyx i (by omega))
  have m1 := hmn V 0
  have m2 := mn_le (b := b) (r := r) (N := N) (f := f) (q := y) V 0
  have s1 := hsq V 0
  unfold key
  rw [ozr_sq hN hrow, ozr_sq hN hx]
  omega
theorem srch_FO (pk : PK X V N b o r) (hV : V ≤ 4) (hN : N ≤ 5) (hf : f ≤ 20) (S : PSt) : ∃ p, FO b o r V N f p ∧ (srch X V N (nI f) S).1 1 = nI (mn b r N f p V 0) ∧ (srch X V N (nI f) S).1 2 = nI (ozr o N V p) ∧ ∀ j, j < 4 → (srch X V N (nI f) S).2 0 j = if j < V then nI (p j) else 0 := by
  have ho : ∀ k, k < N → o k ≤ 9 := fun k hk => (pk.2.1 k hk).2.1
  obtain ⟨w1, w2⟩ := wgA_at pk hN 32 0 S.2 (by omega)
  have hI : INV o r V N (fun _ => 0) 0 (upd (upd S.1 1 (-1)) 2 0, z4 4 0 (wgA X N 32 0 S.2)) := by
    refine ⟨fun T hT => ?_, fun i hi => absurd hi (by omega), fun i h1 h2 => ?_, fun i h1 h2 => ?_⟩
    · show z4 4 0 (wgA X N 32 0 S.2) 4 T = _ ∧ z4 4 0 (wgA X N 32 0 S.2) 5 T = _
      rw [z4_at, if_neg (by omega), z4_at, if_neg (by omega)]
      exact w1 T (by omega) (by omega)
    · show z4 4 0 (wgA X N 32 0 S.2) 3 i = _
      rw [z4_at, if_pos (by omega)]
    · show z4 4 0 (wgA X N 32 0 S.2) 0 i = _
      rw [z4_at, if_pos (by omega)]
  have hm : upd (upd S.1 1 (-1)) 2 0 1 = -1 := by rw [pk_un (by decide), pk_us]
  obtain ⟨r1, r2⟩ := chR_ok (f := f) pk hV hN hf V 0 (fun _ => 0) (upd (upd S.1 1 (-1)) 2 0, z4 4 0 (wgA X N 32 0 S.2)) (by omega) trivial (fun i hi => absurd hi (by omega)) hI (Or.inl ⟨fun p _ => by rw [cod, Nat.zero_mul]; exact Nat.zero_le _, hm⟩)
  have e : srch X V N (nI f) S = chR X (nI f) V 0 (2 ^ N - 1 - us (fun _ => 0) 0 0 0) (nI (mn b r N f (fun _ => 0) 0 0)) (nI (sq o N (fun _ => 0) 0 0)) (upd (upd S.1 1 (-1)) 2 0, z4 4 0 (wgA X N 32 0 S.2)) := rfl
  rw [e]
  generalize chR X (nI f) V 0 (2 ^ N - 1 - us (fun _ => 0) 0 0 0) (nI (mn b r N f (fun _ => 0) 0 0)) (nI (sq o N (fun _ => 0) 0 0)) (upd (upd S.1 1 (-1)) 2 0, z4 4 0 (wgA X N 32 0 S.2)) = Z at r1 r2
  rw [cod, Nat.zero_add, Nat.one_mul] at r2
  have hall : ∀ p, rowOk V N p → cod p V 0 < 32 ^ V := fun p hp => cod_lt V 0 (row_bd hV hN hp.2).2
  rcases r2 with ⟨k1, _⟩ | ⟨p, k1, k2, k3, k4, k5, k6⟩
  · have z : rowOk V N (fun _ => 0) := ⟨row_0 (N := N) V 0, fun i _ => pow_pos5 N⟩
    have := k1 (fun _ => 0) ⟨z, fun i _ => Or.inl rfl⟩
    have := hall _ z
    omega
  · refine ⟨p, ⟨k1.1, fun x hx => ?_⟩, k3, k4, fun j hj => ?_⟩
    · obtain ⟨y, y1, y2⟩ := alw_of (b := b) (r := r) (f := f) hV hN ho hx
      exact Nat.le_trans (k6 y y1 (hall y y1.1)) y2
    · by_cases q : j < V
      · rw [if_pos q]; exact k5 j q
      · rw [if_neg q]; exact r1.2.2.2 j (by omega) hj
end CH
