/-! pack: the numbers -/
def bi (S k : Nat) : Nat := S / 2 ^ k % 2
theorem isin_b {S k : Nat} (hS : S < 32) (hk : k < 5) : isin (nI S) (nI k) = if bi S k = 1 then 1 else 0 := by
  have q : ∀ a : Fin 32, ∀ b : Fin 5, isin (nI a.val) (nI b.val) = if bi a.val b.val = 1 then 1 else 0 := by decide +kernel
  exact q ⟨S, hS⟩ ⟨k, hk⟩
/-- the sum of f over the weights of a set, n weights from k on -/
def sm (f : Nat → Nat) (S : Nat) : Nat → Nat → Nat
  | 0, _ => 0
  | n + 1, k => (if bi S k = 1 then f k else 0) + sm f S n (k + 1)
theorem sm_add {f g h : Nat → Nat} {S : Nat} : ∀ (n k : Nat), (∀ j, k ≤ j → j < k + n → f j + g j = h j) → sm f S n k + sm g S n k = sm h S n k
  | 0, _, _ => rfl
  | n + 1, k, hh => by
    have ih := sm_add (f := f) (g := g) (h := h) (S := S) n (k + 1) (fun j h1 h2 => hh j (by omega) (by omega))
    have h0 := hh k (by omega) (by omega)
    simp only [sm]
    split <;> omega
theorem sm_congr {f g : Nat → Nat} {S : Nat} : ∀ (n k : Nat), (∀ j, k ≤ j → j < k + n → bi S j = 1 → f j = g j) → sm f S n k = sm g S n k
  | 0, _, _ => rfl
  | n + 1, k, hh => by
    have ih := sm_congr (f := f) (g := g) (S := S) n (k + 1) (fun j h1 h2 => hh j (by omega) (by omega))
    simp only [sm]
    split
    · rename_i hb
      rw [hh k (by omega) (by omega) hb]; omega
    · omega
theorem sm_le {f : Nat → Nat} {S c : Nat} : ∀ (n k : Nat), (∀ j, k ≤ j → j < k + n → f j ≤ c) → sm f S n k ≤ n * c
  | 0, _, _ => by simp [sm]
  | n + 1, k, hh => by
    have ih := sm_le (f := f) (S := S) (c := c) n (k + 1) (fun j h1 h2 => hh j (by omega) (by omega))
    have h0 := hh k (by omega) (by omega)
    simp only [sm, Nat.succ_mul]
    split <;> omega
/-- the places of a set's weights, as a number -/
def vl (S : Nat) (a : Nat → Nat) : Nat → Nat → Nat
  | 0, _ => 0
  | n + 1, k => (if bi S k = 1 then a k else 0) + 5 * vl S a n (k + 1)
def nx (S : Nat) : Nat → Nat → (Nat → Nat) → Nat × (Nat → Nat)
  | 0, k, a => (k, a)
  | n + 1, k, a => if bi S k = 1 ∧ ¬ a k = 4 then (k, a) else nx S n (k + 1) (fun j => if j = k then 0 else a j)
def inc (p : Nat × (Nat → Nat)) : Nat → Nat := fun i => if i = p.1 then p.2 i + 1 else p.2 i
theorem vl_congr {S : Nat} {a b : Nat → Nat} : ∀ (n k : Nat), (∀ i, k ≤ i → i < k + n → a i = b i) → vl S a n k = vl S b n k
  | 0, _, _ => rfl
  | n + 1, k, hh => by
    rw [vl, vl, hh k (by omega) (by omega), vl_congr n (k + 1) (fun i h1 h2 => hh i (by omega) (by omega))]
theorem nx_low {S : Nat} : ∀ (n k : Nat) (a : Nat → Nat), k ≤ (nx S n k a).1 ∧ (nx S n k a).1 ≤ k + n ∧ ∀ i, i < k → (nx S n k a).2 i = a i
  | 0, k, a => ⟨Nat.le_refl _, Nat.le_refl _, fun _ _ => rfl⟩
  | n + 1, k, a => by
    by_cases h : bi S k = 1 ∧ ¬ a k = 4
    · rw [nx, if_pos h]
      exact ⟨Nat.le_refl _, by omega, fun _ _ => rfl⟩
    · rw [nx, if_neg h]
      obtain ⟨h1, h2, h3⟩ := nx_low (S := S) n (k + 1) (fun j => if j = k then 0 else a j)
      refine ⟨by omega, by omega, fun i hi => ?_⟩
      rw [h3 i (by omega)]
      exact if_neg (by omega)
theorem dig0 {a : Nat → Nat} {k : Nat} (h : ∀ i, a i ≤ 4) : ∀ i, (fun j => if j = k then 0 else a j) i ≤ 4 := by
  intro i
  show (if i = k then 0 else a i) ≤ 4
  have := h i
  split <;> omega
theorem nx_dig {S : Nat} : ∀ (n k : Nat) (a : Nat → Nat), (∀ i, a i ≤ 4) → (∀ i, (nx S n k a).2 i ≤ 4) ∧ ((nx S n k a).1 < k + n → (nx S n k a).2 (nx S n k a).1 ≤ 3)
  | 0, k, a, h => ⟨h, fun q => absurd q (Nat.lt_irrefl _)⟩
  | n + 1, k, a, h => by
    by_cases h0 : bi S k = 1 ∧ ¬ a k = 4
    · rw [nx, if_pos h0]
      refine ⟨h, fun _ => ?_⟩
      have := h k
      show a k ≤ 3
      omega
    · rw [nx, if_neg h0]
      obtain ⟨h1, h2⟩ := nx_dig (S := S) n (k + 1) (fun j => if j = k then 0 else a j) (dig0 h)
      exact ⟨h1, fun q => h2 (by omega)⟩
theorem inc_dig {S n k : Nat} {a : Nat → Nat} (h : ∀ i, a i ≤ 4) (hj : (nx S n k a).1 < k + n) (i : Nat) : inc (nx S n k a) i ≤ 4 := by
  obtain ⟨h1, h2⟩ := nx_dig n k a h
  unfold inc
  split
  · rename_i e
    subst e
    have := h2 hj
    omega
  · exact h1 i
theorem inc_low {S n k : Nat} {a : Nat → Nat} {i : Nat} (hi : i < k) : inc (nx S n k a) i = a i := by
  obtain ⟨h1, _, h3⟩ := nx_low (S := S) n k a
  unfold inc
  rw [if_neg (by omega), h3 i hi]
theorem nx_step {S : Nat} : ∀ (n k : Nat) (a : Nat → Nat), (∀ i, a i ≤ 4) → (nx S n k a).1 < k + n → vl S a n k < vl S (inc (nx S n k a)) n k
  | 0, k, a, _, h => absurd h (Nat.lt_irrefl _)
  | n + 1, k, a, h, hj => by
    by_cases h0 : bi S k = 1 ∧ ¬ a k = 4
    · rw [nx, if_pos h0]
      rw [vl, vl, if_pos h0.1, if_pos h0.1, vl_congr (a := inc (k, a)) (b := a) n (k + 1) (fun i h1 _ => if_neg (by show ¬ i = k; omega))]
      have : inc (k, a) k = a k + 1 := if_pos rfl
      omega
    · rw [nx, if_neg h0] at hj ⊢
      have ih := nx_step (S := S) n (k + 1) (fun j => if j = k then 0 else a j) (dig0 h) (by omega)
      rw [vl_congr (a := fun j => if j = k then 0 else a j) (b := a) n (k + 1) (fun i h1 _ => if_neg (by omega))] at ih
      rw [vl, vl]
      have := h k
      split <;> omega
theorem nx_lt {S : Nat} {m : Nat → Nat} (hm : ∀ i, m i ≤ 4) : ∀ (n k : Nat) (a : Nat → Nat), (∀ i, a i ≤ 4) → vl S a n k < vl S m n k → (nx S n k a).1 < k + n ∧ vl S (inc (nx S n k a)) n k ≤ vl S m n k
  | 0, k, a, _, h => absurd h (Nat.lt_irrefl _)
  | n + 1, k, a, h, hlt => by
    by_cases h0 : bi S k = 1 ∧ ¬ a k = 4
    · rw [nx, if_pos h0]
      refine ⟨by show k < k + (n + 1); omega, ?_⟩
      rw [vl, vl, if_pos h0.1, if_pos h0.1] at hlt ⊢
      rw [vl_congr (a := inc (k, a)) (b := a) n (k + 1) (fun i h1 _ => if_neg (by show ¬ i = k; omega))]
      have : inc (k, a) k = a k + 1 := if_pos rfl
      omega
    · rw [nx, if_neg h0]
      have ih := nx_lt (S := S) hm n (k + 1) (fun j => if j = k then 0 else a j) (dig0 h)
      rw [vl_congr (a := fun j => if j = k then 0 else a j) (b := a) n (k + 1) (fun i h1 _ => if_neg (by omega))] at ih
      rw [vl, vl] at hlt
      have hmk := hm k
      have h1 : vl S a n (k + 1) < vl S m n (k + 1) := by
        by_cases hb : bi S k = 1
        · have : a k = 4 := by
            by_cases q : a k = 4
            · exact q
            · exact absurd ⟨hb, q⟩ h0
          rw [if_pos hb, if_pos hb] at hlt
          omega
        · rw [if_neg hb, if_neg hb] at hlt
          omega
      obtain ⟨i1, i2⟩ := ih h1
      refine ⟨by omega, ?_⟩
      rw [vl, vl, inc_low (i := k) (by omega)]
      have e : (if k = k then 0 else a k) = 0 := if_pos rfl
      show (if bi S k = 1 then (if k = k then 0 else a k) else 0) + _ ≤ _
      rw [e]
      split <;> omega
theorem vl_inj {S : Nat} {a b : Nat → Nat} (ha : ∀ i, a i ≤ 4) (hb : ∀ i, b i ≤ 4) : ∀ (n k : Nat), vl S a n k = vl S b n k → ∀ i, k ≤ i → i < k + n → bi S i = 1 → a i = b i
  | 0, k, _, i, h1, h2, _ => absurd h2 (by omega)
  | n + 1, k, h, i, h1, h2, h3 => by
    rw [vl, vl] at h
    have q1 := ha k
    have q2 := hb k
    by_cases hk : i = k
    · subst hk
      rw [if_pos h3, if_pos h3] at h
      omega
    · refine vl_inj ha hb n (k + 1) ?_ i (by omega) (by omega) h3
      split at h <;> omega
theorem vl_bd {S : Nat} {a : Nat → Nat} (ha : ∀ i, a i ≤ 4) : ∀ (n k : Nat), vl S a n k < 5 ^ n
  | 0, _ => by simp [vl]
  | n + 1, k => by
    have ih := vl_bd (S := S) ha n (k + 1)
    have := ha k
    rw [vl, Nat.pow_succ]
    split <;> omega
/-- what stands, with all in the middle -/
abbrev std (b r : Nat → Nat) (N f v S : Nat) : Prop := 5 * f ≤ 3 * b v + sm (fun k => r k * 3) S N 0
abbrev stw (b r : Nat → Nat) (N f v S : Nat) (a : Nat → Nat) : Prop := 5 * f ≤ 3 * b v + sm (fun k => r k * (5 - a k)) S N 0 ∧ 5 * f ≤ 3 * b v + sm (fun k => r k * (a k + 1)) S N 0
theorem stw_std {b r : Nat → Nat} {N f v S : Nat} {a : Nat → Nat} (ha : ∀ i, a i ≤ 4) (h : stw b r N f v S a) : std b r N f v S := by
  have e1 := sm_add (f := fun k => r k * (5 - a k)) (g := fun k => r k * (a k + 1)) (h := fun k => r k * 6) (S := S) N 0 (fun j _ _ => by
    show r j * (5 - a j) + r j * (a j + 1) = r j * 6
    rw [← Nat.mul_add]
    have := ha j
    congr 1; omega)
  have e2 := sm_add (f := fun k => r k * 3) (g := fun k => r k * 3) (h := fun k => r k * 6) (S := S) N 0 (fun j _ _ => by show r j * 3 + r j * 3 = r j * 6; omega)
  obtain ⟨h1, h2⟩ := h
  unfold std
  omega
theorem std_stw {b r : Nat → Nat} {N f v S : Nat} {a : Nat → Nat} (ha : ∀ i, i < N → bi S i = 1 → a i = 2) (h : std b r N f v S) : stw b r N f v S a := by
  unfold std at h
  unfold stw
  rw [sm_congr (f := fun k => r k * (5 - a k)) (g := fun k => r k * 3) N 0 (fun j _ h2 hb => by show r j * (5 - a j) = r j * 3; rw [ha j (by omega) hb]), sm_congr (f := fun k => r k * (a k + 1)) (g := fun k => r k * 3) N 0 (fun j _ h2 hb => by show r j * (a j + 1) = r j * 3; rw [ha j (by omega) hb])]
  exact ⟨h, h⟩
/-- rows: who goes where -/
def va (q : Nat → Nat) : Nat → Nat → Nat → Prop
  | 0, _, _ => True
  | n + 1, s, u => u &&& q s = 0 ∧ va q n (s + 1) (u ||| q s)
def us (q : Nat → Nat) : Nat → Nat → Nat → Nat
  | 0, _, u => u
  | n + 1, s, u => us q n (s + 1) (u ||| q s)
def mn (b r : Nat → Nat) (N f : Nat) (q : Nat → Nat) : Nat → Nat → Nat
  | 0, _ => 0
  | n + 1, s => (if 5 * f ≤ 3 * b s + sm (fun k => r k * 3) (q s) N 0 then 1 else 0) + mn b r N f q n (s + 1)
def cod (q : Nat → Nat) : Nat → Nat → Nat
  | 0, _ => 0
  | n + 1, s => q s * 32 ^ n + cod q n (s + 1)
theorem cod_lt {q : Nat → Nat} : ∀ (n s : Nat), (∀ i, s ≤ i → i < s + n → q i < 32) → cod q n s < 32 ^ n
  | 0, _, _ => by simp [cod]
  | n + 1, s, h => by
    have ih := cod_lt (q := q) n (s + 1) (fun i h1 h2 => h i (by omega) (by omega))
    have h0 := h s (by omega) (by omega)
    have h1 : q s * 32 ^ n ≤ 31 * 32 ^ n := Nat.mul_le_mul_right _ (by omega)
    rw [cod, Nat.pow_succ]
    omega
theorem cod_congr {q p : Nat → Nat} : ∀ (n s : Nat), (∀ i, s ≤ i → i < s + n → q i = p i) → cod q n s = cod p n s
  | 0, _, _ => rfl
  | n + 1, s, h => by
    rw [cod, cod, h s (by omega) (by omega), cod_congr n (s + 1) (fun i h1 h2 => h i (by omega) (by omega))]
theorem cod_le {q p : Nat → Nat} : ∀ (n s : Nat), (∀ i, s ≤ i → i < s + n → q i ≤ p i) → cod q n s ≤ cod p n s
  | 0, _, _ => Nat.le_refl _
  | n + 1, s, h => by
    have h1 : q s * 32 ^ n ≤ p s * 32 ^ n := Nat.mul_le_mul_right _ (h s (by omega) (by omega))
    have h2 := cod_le n (s + 1) (fun i h1 h2 => h i (by omega) (by omega))
    rw [cod, cod]; omega
theorem cod_inj {q p : Nat → Nat} : ∀ (n s : Nat), (∀ i, s ≤ i → i < s + n → q i < 32) → (∀ i, s ≤ i → i < s + n → p i < 32) → cod q n s = cod p n s → ∀ i, s ≤ i → i < s + n → q i = p i
  | 0, s, _, _, _, i, h1, h2 => absurd h2 (by omega)
  | n + 1, s, hq, hp, h, i, h1, h2 => by
    have c1 := cod_lt (q := q) n (s + 1) (fun i h1 h2 => hq i (by omega) (by omega))
    have c2 := cod_lt (q := p) n (s + 1) (fun i h1 h2 => hp i (by omega) (by omega))
    rw [cod, cod] at h
    have e : q s = p s := by
      rcases Nat.lt_trichotomy (q s) (p s) with l | l | l
      · have : (q s + 1) * 32 ^ n ≤ p s * 32 ^ n := Nat.mul_le_mul_right _ l
        rw [Nat.succ_mul] at this
        omega
      · exact l
      · have : (p s + 1) * 32 ^ n ≤ q s * 32 ^ n := Nat.mul_le_mul_right _ l
        rw [Nat.succ_mul] at this
        omega
    by_cases hi : i = s
    · subst hi; exact e
    · rw [e] at h
      exact cod_inj n (s + 1) (fun i h1 h2 => hq i (by omega) (by omega)) (fun i h1 h2 => hp i (by omega) (by omega)) (by omega) i (by omega) (by omega)
/-- the row behind q: what lies between is no row. The pivot is c places on. -/
theorem cod_next {M : Nat} {q q' p : Nat → Nat} : ∀ (c n s u : Nat), c < n → (∀ i, s ≤ i → i < s + n → q i < 32 ∧ q' i < 32 ∧ p i < 32 ∧ p i < M) → (∀ i, s ≤ i → i < s + c → q' i = q i) → q (s + c) < q' (s + c) → (∀ i, s + c < i → i < s + n → q' i = 0 ∧ q i + 1 = M) → va p n s u → (∀ x, q (s + c) < x → x < q' (s + c) → ¬ us q c s u &&& x = 0) → cod q n s < cod p n s → cod q' n s ≤ cod p n s
  | _, 0, _, _, hc, _, _, _, _, _, _, _ => absurd hc (Nat.not_lt_zero _)
  | 0, n + 1, s, u, _, hb, _, hp, hz, hv, hx, hlt => by
    rw [cod, cod] at hlt ⊢
    have c1 : cod q' n (s + 1) = 0 := by
      have := cod_le (q := q') (p := fun _ => 0) n (s + 1) (fun i h1 h2 => by rw [(hz i (by omega) (by omega)).1]; exact Nat.le_refl _)
      have e : ∀ m t, cod (fun _ => 0) m t = 0 := by
        intro m
        induction m with
        | zero => intro t; rfl
        | succ m ih => intro t; rw [cod, ih]; simp
      rw [e] at this
      omega
    have c2 : cod p n (s + 1) ≤ cod q n (s + 1) := cod_le n (s + 1) (fun i h1 h2 => by
      have := (hz i (by omega) (by omega)).2
      have := (hb i (by omega) (by omega)).2.2.2
      omega)
    have c3 := cod_lt (q := p) n (s + 1) (fun i h1 h2 => (hb i (by omega) (by omega)).2.2.1)
    rw [c1]
    have hp : q s < q' s := hp
    rcases Nat.lt_or_ge (q s) (p s) with l | l
    · have : q' s ≤ p s := by
        rcases Nat.lt_or_ge (p s) (q' s) with l2 | l2
        · exact absurd hv.1 (hx (p s) l l2)
        · exact l2
      have : q' s * 32 ^ n ≤ p s * 32 ^ n := Nat.mul_le_mul_right _ this
      omega
    · rcases Nat.lt_or_ge (p s) (q s) with l2 | l2
      · have : (p s + 1) * 32 ^ n ≤ q s * 32 ^ n := Nat.mul_le_mul_right _ l2
        rw [Nat.succ_mul] at this
        omega
      · have e : p s = q s := by omega
        rw [e] at hlt
        omega
  | c + 1, n + 1, s, u, hc, hb, he, hp, hz, hv, hx, hlt => by
    have e0 : q' s = q s := he s (by omega) (by omega)
    rw [cod, cod] at hlt ⊢
    rw [e0]
    have c1 := cod_lt (q := q') n (s + 1) (fun i h1 h2 => (hb i (by omega) (by omega)).2.1)
    have c3 := cod_lt (q := p) n (s + 1) (fun i h1 h2 => (hb i (by omega) (by omega)).2.2.1)
    rcases Nat.lt_trichotomy (p s) (q s) with l | l | l
    · have : (p s + 1) * 32 ^ n ≤ q s * 32 ^ n := Nat.mul_le_mul_right _ l
      rw [Nat.succ_mul] at this
      omega
    · have e1 : s + (c + 1) = s + 1 + c := by omega
      rw [e1] at hp hz hx
      have ih := cod_next (M := M) (q := q) (q' := q') (p := p) c n (s + 1) (u ||| q s) (by omega) (fun i h1 h2 => hb i (by omega) (by omega)) (fun i h1 h2 => he i (by omega) (by omega)) hp (fun i h1 h2 => hz i h1 (by omega)) (by rw [← l]; exact hv.2) hx (by rw [l] at hlt; omega)
      rw [l]
      omega
    · have : (q s + 1) * 32 ^ n ≤ p s * 32 ^ n := Nat.mul_le_mul_right _ l
      rw [Nat.succ_mul] at this
      omega
/-- the least of it is the first of the best -/
def ozr (o : Nat → Nat) (N V : Nat) (q : Nat → Nat) : Nat := sm o (us q V 0 0) N 0
def key (b o r : Nat → Nat) (V N f : Nat) (q : Nat → Nat) : Nat := ((4 - mn b r N f q V 0) * 64 + ozr o N V q) * 1048576 + cod q V 0
def rowOk (V N : Nat) (q : Nat → Nat) : Prop := va q V 0 0 ∧ ∀ i, i < V → q i < 2 ^ N
def FO (b o r : Nat → Nat) (V N f : Nat) (q : Nat → Nat) : Prop := rowOk V N q ∧ ∀ p, rowOk V N p → key b o r V N f q ≤ key b o r V N f p
theorem mn_le {b r : Nat → Nat} {N f : Nat} {q : Nat → Nat} : ∀ (n s : Nat), mn b r N f q n s ≤ n
  | 0, _ => Nat.le_refl _
  | n + 1, s => by
    have := mn_le (b := b) (r := r) (N := N) (f := f) (q := q) n (s + 1)
    rw [mn]; split <;> omega
theorem FO_uniq {b o r : Nat → Nat} {V N f : Nat} {p q : Nat → Nat} (hV : V ≤ 4) (hN : N ≤ 5) (ho : ∀ k, k < N → o k ≤ 9) (hp : FO b o r V N f p) (hq : FO b o r V N f q) : mn b r N f p V 0 = mn b r N f q V 0 ∧ ozr o N V p = ozr o N V q ∧ ∀ i, i < V → p i = q i := by
  have h1 := hp.2 q hq.1
  have h2 := hq.2 p hp.1
  have e : 2 ^ N ≤ 32 := Nat.le_trans (Nat.pow_le_pow_right (by omega) hN) (by decide)
  have e4 : 32 ^ V ≤ 1048576 := Nat.le_trans (Nat.pow_le_pow_right (by omega) hV) (by decide)
  have dp : ∀ i, 0 ≤ i → i < 0 + V → p i < 32 := fun i _ h => by have := hp.1.2 i (by omega); omega
  have dq : ∀ i, 0 ≤ i → i < 0 + V → q i < 32 := fun i _ h => by have := hq.1.2 i (by omega); omega
  have c1 := cod_lt V 0 dp
  have c2 := cod_lt V 0 dq
  have m1 := mn_le (b := b) (r := r) (N := N) (f := f) (q := p) V 0
  have m2 := mn_le (b := b) (r := r) (N := N) (f := f) (q := q) V 0
  have o1 : ozr o N V p < 64 := by
    have := sm_le (f := o) (S := us p V 0 0) (c := 9) N 0 (fun j _ h => ho j (by omega))
    show sm o (us p V 0 0) N 0 < 64
    omega
  have o2 : ozr o N V q < 64 := by
    have := sm_le (f := o) (S := us q V 0 0) (c := 9) N 0 (fun j _ h => ho j (by omega))
    show sm o (us q V 0 0) N 0 < 64
    omega
  unfold key at h1 h2
  refine ⟨by omega, by omega, fun i hi => cod_inj V 0 dp dq (by omega) i (by omega) (by omega)⟩
