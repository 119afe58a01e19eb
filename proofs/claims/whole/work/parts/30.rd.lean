/-! what the table's numbers may be -/
def RNG (X : Nat → Nat → Int32) (V N : Nat) : Prop := (∀ v, v < V → ∃ b, b ≤ 9 ∧ X 0 v = nI b) ∧ ∀ k, k < N → (∃ c, c ≤ 4 ∧ X 1 k = nI c) ∧ (∃ o, 1 ≤ o ∧ o ≤ 9 ∧ X 2 k = nI o) ∧ ((X 3 k = -1 ∧ X 4 k = -1) ∨ ∃ v p, v < V ∧ p ≤ 4 ∧ X 3 k = nI v ∧ X 4 k = nI p) ∧ ∃ s, s ≤ 3 ∧ X 5 k = nI s ∧ (¬ X 1 k = 3 → s = 0)
theorem RNG.hom {X : Nat → Nat → Int32} {V N : Nat} (R : RNG X V N) : HOM X V N := fun k hk => by
  rcases (R.2 k hk).2.2.1 with h | ⟨v, p, h1, _, h3, _⟩
  · exact Or.inl h.1
  · exact Or.inr ⟨v, h1, h3⟩
theorem bear_nn {c o s : Nat} (ho : o ≤ 10) (hs : s ≤ 3) : ∃ b, b ≤ 100 ∧ bear (nI c) (nI o) (nI s) = nI b := by
  unfold bear
  by_cases h1 : nI c = 1
  · rw [if_pos h1]; exact ⟨2 * o, by omega, pk_mul 2 o⟩
  · rw [if_neg h1]
    by_cases h3 : nI c = 3
    · rw [if_pos h3]; exact ⟨o + s, by omega, nI_add o s⟩
    · rw [if_neg h3]
      by_cases h4 : nI c = 4
      · rw [if_pos h4]; exact ⟨100, by omega, rfl⟩
      · rw [if_neg h4]; exact ⟨o, by omega, rfl⟩
theorem lev_nn {p : Nat} (hp : p ≤ 4) (side : Int32) : ∃ l, l ≤ 5 ∧ lev (nI p) side = nI l := by
  unfold lev
  by_cases h : side = 0
  · rw [if_pos h]
    exact ⟨5 - p, by omega, pk_sub (a := 5) (by omega)⟩
  · rw [if_neg h]
    exact ⟨p + 1, by omega, nI_1 p⟩
theorem mul_nn {a b : Int32} {x y : Nat} (hx : ∃ l, l ≤ x ∧ a = nI l) (hy : ∃ l, l ≤ y ∧ b = nI l) : ∃ l, l ≤ x * y ∧ a * b = nI l := by
  obtain ⟨l, h1, rfl⟩ := hx
  obtain ⟨m, h2, rfl⟩ := hy
  exact ⟨l * m, Nat.mul_le_mul h1 h2, pk_mul l m⟩
theorem hldF_nn {X : Nat → Nat → Int32} {V N : Nat} (R : RNG X V N) (left side : Int32) {v : Nat} (hv : v < V) (h4 : V ≤ 4) : ∀ (n k a : Nat), k + n ≤ N → ∃ h, h ≤ a + 500 * n ∧ hldF X left (nI v) side n k (nI a) = nI h
  | 0, _, a, _ => ⟨a, by omega, rfl⟩
  | n + 1, k, a, hk => by
    rw [hldF]
    by_cases hc : X 3 k = nI v ∧ ¬ nI k = left
    · rw [if_pos hc]
      obtain ⟨⟨c, hc4, e1⟩, ⟨o, _, ho, e2⟩, hp, ⟨s, hs, e5, _⟩⟩ := R.2 k (by omega)
      rcases hp with hp | ⟨u, p, hu, hp4, e3, e4⟩
      · exact absurd (hc.1.symm.trans hp.1) (nI_nm1 (by omega))
      · obtain ⟨l, h1, h2⟩ := mul_nn (bear_nn (c := c) (o := o) (s := s) (by omega) hs) (lev_nn hp4 side)
        rw [e1, e2, e4, e5, h2, nI_add]
        obtain ⟨h, h3, h4⟩ := hldF_nn R left side hv h4 n (k + 1) (a + l) (by omega)
        exact ⟨h, by omega, h4⟩
    · rw [if_neg hc]
      obtain ⟨h, h3, h4⟩ := hldF_nn R left side hv h4 n (k + 1) a (by omega)
      exact ⟨h, by omega, h4⟩
theorem hld_nn {X : Nat → Nat → Int32} {V N : Nat} (R : RNG X V N) (left side : Int32) {v : Nat} (hv : v < V) (h4 : V ≤ 4) (h5 : N ≤ 5) : ∃ h, h ≤ 2600 ∧ hld X N left v side = nI h := by
  obtain ⟨b, hb, e⟩ := R.1 v hv
  unfold hld
  rw [e, show (3 : Int32) * nI b = nI (3 * b) from pk_mul 3 b]
  obtain ⟨h, h1, h2⟩ := hldF_nn R left side hv h4 N 0 (3 * b) (by omega)
  exact ⟨h, by omega, h2⟩
/-! sets of weights -/
def sS (X : Nat → Nat → Int32) (vv : Int32) : Nat → Nat
  | 0 => 0
  | n + 1 => if X 3 n = vv then sS X vv n + 2 ^ n else sS X vv n
theorem sS_lt (X : Nat → Nat → Int32) (vv : Int32) : ∀ n, sS X vv n < 2 ^ n
  | 0 => by show 0 < 1; decide
  | n + 1 => by
    have := sS_lt X vv n
    rw [sS, Nat.pow_succ]
    split <;> omega
theorem or_add {a k : Nat} (hk : k < 5) (ha : a < 2 ^ k) : nI a ||| ((1 : Int32) <<< (nI k &&& 31)) = nI (a + 2 ^ k) := by
  have q : ∀ k : Fin 5, ∀ a : Fin 32, a.val < 2 ^ k.val → nI a.val ||| ((1 : Int32) <<< (nI k.val &&& 31)) = nI (a.val + 2 ^ k.val) := by decide +kernel
  have : 2 ^ k ≤ 16 := Nat.le_trans (Nat.pow_le_pow_right (by decide) (show k ≤ 4 by omega)) (by decide)
  exact q ⟨k, hk⟩ ⟨a, by omega⟩ ha
theorem bit_add {a k j : Nat} (hk : k < 5) (ha : a < 2 ^ k) (hj : j < 5) : bi (a + 2 ^ k) j = if j = k then 1 else bi a j := by
  have q : ∀ k : Fin 5, ∀ a : Fin 32, a.val < 2 ^ k.val → ∀ j : Fin 5, bi (a.val + 2 ^ k.val) j.val = if j.val = k.val then 1 else bi a.val j.val := by decide +kernel
  have : 2 ^ k ≤ 16 := Nat.le_trans (Nat.pow_le_pow_right (by decide) (show k ≤ 4 by omega)) (by decide)
  exact q ⟨k, hk⟩ ⟨a, by omega⟩ ha ⟨j, hj⟩
theorem bit_0 {a k : Nat} (hk : k < 5) (ha : a < 2 ^ k) : bi a k = 0 := by
  unfold bi
  rw [Nat.div_eq_of_lt ha]
theorem wiF_nI (X : Nat → Nat → Int32) (vv : Int32) : ∀ (n k : Nat), k + n ≤ 5 → wiF X vv n k (nI (sS X vv k)) = nI (sS X vv (k + n))
  | 0, _, _ => rfl
  | n + 1, k, h => by
    rw [wiF, or_add (by omega) (sS_lt X vv k)]
    have e : (if X 3 k = vv then nI (sS X vv k + 2 ^ k) else nI (sS X vv k)) = nI (sS X vv (k + 1)) := by
      rw [sS]; split <;> rfl
    rw [e, wiF_nI X vv n (k + 1) (by omega)]
    congr 2; omega
theorem wi_nI (X : Nat → Nat → Int32) (vv : Int32) {N : Nat} (h : N ≤ 5) : wi X N vv = nI (sS X vv N) := by
  have := wiF_nI X vv N 0 (by omega)
  rw [Nat.zero_add] at this
  exact this
theorem sS_bi (X : Nat → Nat → Int32) (vv : Int32) {j : Nat} (hj : j < 5) : ∀ n, n ≤ 5 → bi (sS X vv n) j = if j < n ∧ X 3 j = vv then 1 else 0
  | 0, _ => by
    rw [if_neg (by omega)]
    show 0 / 2 ^ j % 2 = 0
    simp
  | n + 1, h => by
    have ih := sS_bi X vv hj n (by omega)
    rw [sS]
    by_cases hx : X 3 n = vv
    · rw [if_pos hx, bit_add (by omega) (sS_lt X vv n) hj, ih]
      by_cases e : j = n
      · subst e; rw [if_pos rfl, if_pos ⟨by omega, hx⟩]
      · rw [if_neg e]
        by_cases q : j < n ∧ X 3 j = vv
        · rw [if_pos q, if_pos ⟨by omega, q.2⟩]
        · rw [if_neg q, if_neg (fun z => q ⟨by omega, z.2⟩)]
    · rw [if_neg hx, ih]
      by_cases q : j < n ∧ X 3 j = vv
      · rw [if_pos q, if_pos ⟨by omega, q.2⟩]
      · rw [if_neg q, if_neg (fun z => q ⟨by
          by_cases e : j = n
          · subst e; exact absurd z.2 hx
          · omega, z.2⟩)]
theorem osF_oz (X : Nat → Nat → Int32) (vv : Int32) {N : Nat} (hN : N ≤ 5) : ∀ (n k : Nat) (a : Int32), k + n ≤ N → osF X (nI (sS X vv N)) n k a = ozF X vv n k a
  | 0, _, _, _ => rfl
  | n + 1, k, a, h => by
    have h32 : sS X vv N < 32 := Nat.lt_of_lt_of_le (sS_lt X vv N) (p32 hN)
    rw [osF, ozF, isin_b h32 (by omega), sS_bi X vv (by omega) N hN]
    by_cases hx : X 3 k = vv
    · rw [if_pos (show k < N ∧ X 3 k = vv from ⟨by omega, hx⟩), if_pos rfl, if_neg (by decide), if_pos hx, osF_oz X vv hN n (k + 1) _ (by omega)]
    · rw [if_neg (show ¬ (k < N ∧ X 3 k = vv) from fun z => hx z.2), if_neg (show ¬ (0 : Nat) = 1 by decide), if_pos rfl, if_neg hx, show a + (0 : Int32) = a from by simp, osF_oz X vv hN n (k + 1) _ (by omega)]
theorem os_oz (X : Nat → Nat → Int32) (vv : Int32) {N : Nat} (hN : N ≤ 5) : os X N (wi X N vv) = oz X N vv := by
  rw [wi_nI X vv hN]
  exact osF_oz X vv hN N 0 0 (by omega)
theorem osF_31 (X : Nat → Nat → Int32) : ∀ (n k : Nat) (a : Int32), k + n ≤ 5 → osF X 31 n k a = oaF X n k a
  | 0, _, _, _ => rfl
  | n + 1, k, a, h => by
    have e : isin 31 (nI k) = 1 := by
      have q : ∀ k : Fin 5, isin 31 (nI k.val) = 1 := by decide +kernel
      exact q ⟨k, by omega⟩
    rw [osF, oaF, e, if_neg (by decide), osF_31 X n (k + 1) _ (by omega)]
theorem os_31 (X : Nat → Nat → Int32) {N : Nat} (hN : N ≤ 5) : os X N 31 = oa X N := osF_31 X N 0 0 (by omega)
def pc5 (S : Nat) : Nat := bi S 0 + bi S 1 + bi S 2 + bi S 3 + bi S 4
theorem bitc_5 {S : Nat} (h : S < 32) : bitc (nI S) = nI (pc5 S) ∧ siz (nI S) = nI (pc5 S) := by
  have q : ∀ a : Fin 32, bitc (nI a.val) = nI (pc5 a.val) ∧ siz (nI a.val) = nI (pc5 a.val) := by decide +kernel
  exact q ⟨S, h⟩
theorem pc5_add {a k : Nat} (hk : k < 5) (ha : a < 2 ^ k) : pc5 (a + 2 ^ k) = pc5 a + 1 := by
  have q : ∀ k : Fin 5, ∀ a : Fin 32, a.val < 2 ^ k.val → pc5 (a.val + 2 ^ k.val) = pc5 a.val + 1 := by decide +kernel
  have : 2 ^ k ≤ 16 := Nat.le_trans (Nat.pow_le_pow_right (by decide) (show k ≤ 4 by omega)) (by decide)
  exact q ⟨k, hk⟩ ⟨a, by omega⟩ ha
theorem pnF_nI (X : Nat → Nat → Int32) : ∀ (n k : Nat), k + n ≤ 5 → pnF X n k (nI (pc5 (sS X (-1) k))) = nI (pc5 (sS X (-1) (k + n)))
  | 0, _, _ => rfl
  | n + 1, k, h => by
    rw [pnF]
    have e : nI (pc5 (sS X (-1) k)) + (if X 3 k = -1 then 1 else 0) = nI (pc5 (sS X (-1) (k + 1))) := by
      rw [sS]
      by_cases hx : X 3 k = -1
      · rw [if_pos hx, if_pos hx, pc5_add (by omega) (sS_lt X (-1) k), nI_1]
      · rw [if_neg hx, if_neg hx]; simp
    rw [e, pnF_nI X n (k + 1) (by omega)]
    congr 3; omega
theorem pn_bitc (X : Nat → Nat → Int32) {N : Nat} (hN : N ≤ 5) : pnF X N 0 0 = bitc (wi X N (-1)) := by
  rw [wi_nI X (-1) hN, (bitc_5 (Nat.lt_of_lt_of_le (sS_lt X (-1) N) (p32 hN))).1]
  have := pnF_nI X N 0 (by omega)
  rw [Nat.zero_add, show sS X (-1) 0 = 0 from rfl, show pc5 0 = 0 from by decide] at this
  exact this
/-! one weight changed -/
theorem hldF_add (X : Nat → Nat → Int32) (left vv side c : Int32) : ∀ (n k : Nat) (a : Int32), hldF X left vv side n k (a + c) = hldF X left vv side n k a + c
  | 0, _, _ => rfl
  | n + 1, k, a => by
    rw [hldF, hldF]
    by_cases h : X 3 k = vv ∧ ¬ nI k = left
    · rw [if_pos h, if_pos h, ← hldF_add X left vv side c n (k + 1)]
      congr 1
      rw [Int32.add_assoc, Int32.add_comm c, ← Int32.add_assoc]
    · rw [if_neg h, if_neg h, hldF_add X left vv side c n]
section ONE
variable {X Z : Nat → Nat → Int32} {N w : Nat}
theorem hldF_ne (hZ : ∀ a j, ¬ j = w → Z a j = X a j) (vv side : Int32) : ∀ (n k : Nat) (a : Int32), k + n ≤ 1000 → w ≤ 1000 → (∀ j, k ≤ j → j < k + n → ¬ j = w) → hldF Z (-1) vv side n k a = hldF X (nI w) vv side n k a
  | 0, _, _, _, _, _ => rfl
  | n + 1, k, a, h, hw, hj => by
    have hk := hj k (by omega) (by omega)
    rw [hldF, hldF, hZ 1 k hk, hZ 2 k hk, hZ 3 k hk, hZ 4 k hk, hZ 5 k hk, hldF_ne hZ vv side n (k + 1) _ (by omega) hw (fun j h1 h2 => hj j (by omega) (by omega))]
    congr 1
    have e1 : ¬ nI k = -1 := nI_nm1 (by omega)
    have e2 : ¬ nI k = nI w := fun q => hk ((nI_eq (by omega) (by omega)).mp q)
    by_cases h3 : X 3 k = vv
    · rw [if_pos ⟨h3, e1⟩, if_pos ⟨h3, e2⟩]
    · rw [if_neg (fun z => h3 z.1), if_neg (fun z => h3 z.1)]
theorem hldF_at (hZ : ∀ a j, ¬ j = w → Z a j = X a j) (vv side : Int32) (h3 : Z 3 w = vv) : ∀ (n k : Nat) (a : Int32), k + n ≤ 1000 → k ≤ w → w < k + n → hldF Z (-1) vv side n k a = hldF X (nI w) vv side n k a + bear (Z 1 w) (Z 2 w) (Z 5 w) * lev (Z 4 w) side
  | 0, _, _, _, h1, h2 => absurd h2 (by omega)
  | n + 1, k, a, h, h1, h2 => by
    by_cases hk : k = w
    · subst hk
      rw [hldF, hldF, if_pos ⟨h3, nI_nm1 (by omega)⟩, if_neg (fun z => z.2 rfl), hldF_ne hZ vv side n (k + 1) _ (by omega) (by omega) (fun j h1 h2 => by omega), hldF_add]
    · rw [hldF, hldF, hZ 1 k hk, hZ 2 k hk, hZ 3 k hk, hZ 4 k hk, hZ 5 k hk, hldF_at hZ vv side h3 n (k + 1) _ (by omega) (by omega) (by omega)]
      congr 2
      have e1 : ¬ nI k = -1 := nI_nm1 (by omega)
      have e2 : ¬ nI k = nI w := fun q => hk ((nI_eq (by omega) (by omega)).mp q)
      by_cases h3 : X 3 k = vv
      · rw [if_pos ⟨h3, e1⟩, if_pos ⟨h3, e2⟩]
      · rw [if_neg (fun z => h3 z.1), if_neg (fun z => h3 z.1)]
/-- the hold of a village with one weight as it is in Z -/
theorem hld_at (hN : N ≤ 5) (hw : w < N) (hZ : ∀ a j, ¬ j = w → Z a j = X a j) {v : Nat} (h0 : Z 0 v = X 0 v) (side : Int32) (h3 : Z 3 w = nI v) : hld Z N (-1) v side = hld X N (nI w) v side + bear (Z 1 w) (Z 2 w) (Z 5 w) * lev (Z 4 w) side := by
  rw [hld, hld, h0]
  exact hldF_at hZ _ side h3 N 0 _ (by omega) (by omega) (by omega)
theorem hldF_out (hZ : ∀ a j, ¬ j = w → Z a j = X a j) (vv side : Int32) (h3 : ¬ Z 3 w = vv) (h3' : ¬ X 3 w = vv) : ∀ (n k : Nat) (a : Int32), hldF Z (-1) vv side n k a = hldF X (-1) vv side n k a
  | 0, _, _ => rfl
  | n + 1, k, a => by
    by_cases hk : k = w
    · rw [hldF, hldF, hk, if_neg (fun z => h3 z.1), if_neg (fun z => h3' z.1), hldF_out hZ vv side h3 h3' n]
    · rw [hldF, hldF, hZ 1 k hk, hZ 2 k hk, hZ 3 k hk, hZ 4 k hk, hZ 5 k hk, hldF_out hZ vv side h3 h3' n]
theorem hld_out (hZ : ∀ a j, ¬ j = w → Z a j = X a j) {v : Nat} (h0 : Z 0 v = X 0 v) (side : Int32) (h3 : ¬ Z 3 w = nI v) (h3' : ¬ X 3 w = nI v) : hld Z N (-1) v side = hld X N (-1) v side := by
  rw [hld, hld, h0]
  exact hldF_out hZ _ side h3 h3' N 0 _
end ONE
