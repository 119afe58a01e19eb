/-! draws (wb_ rows: kit/laws) -/
theorem wb_tb (n : Nat) : (lN n).toBitVec = BitVec.ofNat 64 n := rfl
theorem wb_inj {a b : Int64} (h : a.toBitVec = b.toBitVec) : a = b := Int64.toBitVec_inj.mp h
theorem wb_and {a b : Nat} (ha : a < 2 ^ 64) (hb : b < 2 ^ 64) : lN a &&& lN b = lN (a &&& b) := by
  apply wb_inj
  rw [Int64.toBitVec_and, wb_tb, wb_tb, wb_tb]
  apply BitVec.eq_of_toNat_eq
  rw [BitVec.toNat_and, BitVec.toNat_ofNat, BitVec.toNat_ofNat, BitVec.toNat_ofNat, Nat.mod_eq_of_lt ha, Nat.mod_eq_of_lt hb, Nat.mod_eq_of_lt (Nat.and_lt_two_pow _ hb)]
def sdn (n : Nat) : Nat := (1103515245 * n + 12345) % 2147483648
theorem sdn_lt (n : Nat) : sdn n < 2147483648 := Nat.mod_lt _ (by decide)
theorem nxs_n {n : Nat} (h : n < 2147483648) : nxs (nI n) = nI (sdn n) := by
  unfold nxs
  rw [nI_l (by omega), show (1103515245 : Int64) = lN 1103515245 from by decide, lN_mul, show (12345 : Int64) = lN 12345 from by decide, lN_add, show (2147483648 : Int64) = lN 2147483648 from by decide, pk_lRem (by omega) (by decide) (by decide), lN_i]
  rfl
theorem mns_n {n : Nat} (h : n < 2147483648) : mns (lN n) = lN (sdn n) := by
  unfold mns
  rw [show (1103515245 : Int64) = lN 1103515245 from by decide, lN_mul, show (12345 : Int64) = lN 12345 from by decide, lN_add, show (2147483647 : Int64) = lN 2147483647 from by decide, wb_and (by omega) (by decide)]
  have : (1103515245 * n + 12345) &&& 2147483647 = (1103515245 * n + 12345) % 2147483648 := Nat.and_two_pow_sub_one_eq_mod (n := 31) _
  rw [this]
  rfl
theorem drw_mdr {n m : Nat} (h : n < 2147483648) (h0 : 0 < m) (hm : m < 100) : drw (nI n) (nI m) = mdr (lN n) (nI m) := by
  unfold drw mdr
  rw [show (65536 : Int32) = nI 65536 from rfl, pk_div (by omega) (by decide) (by decide), pk_rem (by omega) h0 (by omega), nI_l (by omega), show (65536 : Int64) = lN 65536 from by decide, pk_lDiv (by omega) (by decide) (by decide), pk_lRem (by omega) h0 (by omega), lN_i]
/-- alike, where it counts -/
theorem EQV.r {X Y Z : Nat → Nat → Int32} {V N : Nat} (E : EQV X Y V N) (h : ∀ a, a ≤ 5 → Z a = Y a) : EQV X Z V N := by
  unfold EQV
  rw [h 0 (by omega), h 1 (by omega), h 2 (by omega), h 3 (by omega), h 4 (by omega), h 5 (by omega)]
  exact E
theorem RNG.r {Y Z : Nat → Nat → Int32} {V N : Nat} (R : RNG Y V N) (h : ∀ a, a ≤ 5 → Z a = Y a) : RNG Z V N := by
  unfold RNG
  rw [h 0 (by omega), h 1 (by omega), h 2 (by omega), h 3 (by omega), h 4 (by omega), h 5 (by omega)]
  exact R
theorem dc_md {V N : Nat} (h4 : V ≤ 4) : ∀ (n : Nat) (a : Int32) (m : Nat) (t g : Nat → Int32) (TF F : Nat → Nat → Int32), m < 2147483648 → EQV (vC TF) (vM F) V N → RNG (vM F) V N → (dcF V N n a (nI m) t TF).1 = (mdF V N n a (lN m) g F).1 ∧ (∃ k, (dcF V N n a (nI m) t TF).2.1 = nI k ∧ (mdF V N n a (lN m) g F).2.1 = lN k) ∧ EQV (vC (dcF V N n a (nI m) t TF).2.2.2) (vM (mdF V N n a (lN m) g F).2.2.2) V N ∧ (∀ i, ¬ i = 10 → ¬ i = 11 → (mdF V N n a (lN m) g F).2.2.1 i = g i) ∧ ∀ b, (b < 5 ∨ 8 < b) → (mdF V N n a (lN m) g F).2.2.2 b = F b
  | 0, a, m, t, g, TF, F, _, E, _ => ⟨rfl, ⟨m, rfl, rfl⟩, E, fun _ _ _ => rfl, fun _ _ => rfl⟩
  | n + 1, a, m, t, g, TF, F, hm, E, R => by
    have h1 := sdn_lt m
    have h2 := sdn_lt (sdn m)
    rw [dcF, mdF, nxs_n hm, nxs_n h1, mns_n hm, mns_n h1, show (2 : Int32) = nI 2 from rfl, show (10 : Int32) = nI 10 from rfl, drw_mdr h1 (by decide) (by decide), drw_mdr h2 (by decide) (by decide), bits_eq E, bits_sz h4]
    obtain ⟨r1, r2, r3, r4, r5⟩ := dc_md h4 n (a + siz (mwB F V N (mdr (lN (sdn m)) (nI 2)) (mdr (lN (sdn (sdn m))) (nI 10)))) (sdn (sdn m)) (tkL t TF V N (mdr (lN (sdn m)) (nI 2)) (mdr (lN (sdn (sdn m))) (nI 10))) (mwG g F V N (mdr (lN (sdn m)) (nI 2)) (mdr (lN (sdn (sdn m))) (nI 10))) _ (mwF g F V N (mdr (lN (sdn m)) (nI 2)) (mdr (lN (sdn (sdn m))) (nI 10))) h2 (wind_E (l := t) (g := g) E _ _) (wind_R E R _ _)
    refine ⟨r1, r2, r3, fun i i1 i2 => ?_, fun b hb => ?_⟩
    · rw [r4 i i1 i2, mwG, pk_un i1, mwS, (msF_g _ _ N 0 g F).2 i i2]
    · rw [r5 b hb, mwF_row hb]
theorem svF_at : ∀ (n k : Nat) (F : Nat → Nat → Int32) (j : Nat), k ≤ j → j < k + n → svF n k F 30 j = F 5 j ∧ svF n k F 31 j = F 6 j ∧ svF n k F 32 j = F 7 j ∧ svF n k F 33 j = F 8 j
  | 0, k, F, j, h1, h2 => absurd h2 (by omega)
  | n + 1, k, F, j, h1, h2 => by
    rw [svF]
    have key : ∀ (n k : Nat) (F : Nat → Nat → Int32) (j a : Nat), j < k → svF n k F a j = F a j := by
      intro n
      induction n with
      | zero => intro k F j a h; rfl
      | succ n ih =>
        intro k F j a h
        rw [svF, ih _ _ _ _ (by omega), up2_ne (by omega), up2_ne (by omega), up2_ne (by omega), up2_ne (by omega)]
    by_cases e : j = k
    · subst e
      rw [key _ _ _ _ _ (by omega), key _ _ _ _ _ (by omega), key _ _ _ _ _ (by omega), key _ _ _ _ _ (by omega)]
      refine ⟨?_, ?_, ?_, ?_⟩
      · rw [up2_ne (by omega), up2_ne (by omega), up2_ne (by omega), up2_at]
      · rw [up2_ne (by omega), up2_ne (by omega), up2_at]
      · rw [up2_ne (by omega), up2_at]
      · rw [up2_at]
    · obtain ⟨a1, a2, a3, a4⟩ := svF_at n (k + 1) (up2 (up2 (up2 (up2 F 30 k (F 5 k)) 31 k (F 6 k)) 32 k (F 7 k)) 33 k (F 8 k)) j (by omega) (by omega)
      rw [a1, a2, a3, a4]
      refine ⟨?_, ?_, ?_, ?_⟩ <;> rw [up2_ne (by omega), up2_ne (by omega), up2_ne (by omega), up2_ne (by omega)]
theorem rsF_row : ∀ (n k : Nat) (F : Nat → Nat → Int32) {a : Nat}, (a < 5 ∨ 8 < a) → rsF n k F a = F a
  | 0, _, _, _, _ => rfl
  | n + 1, k, F, a, h => by
    rw [rsF, rsF_row n (k + 1) _ h]
    rw [up2, if_neg (by omega), up2, if_neg (by omega), up2, if_neg (by omega), up2, if_neg (by omega)]
theorem rsF_at : ∀ (n k : Nat) (F : Nat → Nat → Int32) (j : Nat), k ≤ j → j < k + n → rsF n k F 5 j = F 30 j ∧ rsF n k F 6 j = F 31 j ∧ rsF n k F 7 j = F 32 j ∧ rsF n k F 8 j = F 33 j
  | 0, k, F, j, h1, h2 => absurd h2 (by omega)
  | n + 1, k, F, j, h1, h2 => by
    rw [rsF]
    have key : ∀ (n k : Nat) (F : Nat → Nat → Int32) (j a : Nat), j < k → rsF n k F a j = F a j := by
      intro n
      induction n with
      | zero => intro k F j a h; rfl
      | succ n ih =>
        intro k F j a h
        rw [rsF, ih _ _ _ _ (by omega), up2_ne (by omega), up2_ne (by omega), up2_ne (by omega), up2_ne (by omega)]
    by_cases e : j = k
    · subst e
      rw [key _ _ _ _ _ (by omega), key _ _ _ _ _ (by omega), key _ _ _ _ _ (by omega), key _ _ _ _ _ (by omega)]
      refine ⟨?_, ?_, ?_, ?_⟩
      · rw [up2_ne (by omega), up2_ne (by omega), up2_ne (by omega), up2_at]
      · rw [up2_ne (by omega), up2_ne (by omega), up2_at]
      · rw [up2_ne (by omega), up2_at]
      · rw [up2_at]
    · obtain ⟨a1, a2, a3, a4⟩ := rsF_at n (k + 1) (up2 (up2 (up2 (up2 F 5 k (F 30 k)) 6 k (F 31 k)) 7 k (F 32 k)) 8 k (F 33 k)) j (by omega) (by omega)
      rw [a1, a2, a3, a4]
      refine ⟨?_, ?_, ?_, ?_⟩ <;> rw [up2_ne (by omega), up2_ne (by omega), up2_ne (by omega), up2_ne (by omega)]
