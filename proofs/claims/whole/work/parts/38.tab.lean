/-! the table that was read -/
theorem clrF_at : ∀ (n k : Nat) (LF : Nat → Nat → Int32) (a j : Nat), clrF n k LF a j = if a = 7 ∧ k ≤ j ∧ j < k + n then 0 else LF a j
  | 0, k, LF, a, j => by rw [clrF, if_neg (by omega)]
  | n + 1, k, LF, a, j => by
    rw [clrF, clrF_at n (k + 1)]
    by_cases h : a = 7 ∧ k + 1 ≤ j ∧ j < k + 1 + n
    · rw [if_pos h, if_pos (by omega)]
    · rw [if_neg h]
      by_cases e : a = 7 ∧ j = k
      · rw [e.1, e.2, up2_at, if_pos (by omega)]
      · rw [up2_ne e, if_neg (by omega)]
theorem rdB_at {lt : Nat → Int32} {L : Nat} : ∀ (n k : Nat) (LF : Nat → Nat → Int32) (a j : Nat), rdB lt L n k LF a j = if a = 2 ∧ k ≤ j ∧ j < k + n then dgt lt L (2 * j) else LF a j
  | 0, k, LF, a, j => by rw [rdB, if_neg (by omega)]
  | n + 1, k, LF, a, j => by
    rw [rdB, rdB_at n (k + 1)]
    by_cases h : a = 2 ∧ k + 1 ≤ j ∧ j < k + 1 + n
    · rw [if_pos h, if_pos (by omega)]
    · rw [if_neg h]
      by_cases e : a = 2 ∧ j = k
      · rw [e.1, e.2, up2_at, if_pos (by omega)]
      · rw [up2_ne e, if_neg (by omega)]
theorem mtB_at {lt : Nat → Int32} : ∀ (n k : Nat) (F : Nat → Nat → Int32) (a j : Nat), mtB lt n k F a j = if a = 3 ∧ k ≤ j ∧ j < k + n then lt (2 * j) - 48 else F a j
  | 0, k, F, a, j => by rw [mtB, if_neg (by omega)]
  | n + 1, k, F, a, j => by
    rw [mtB, mtB_at n (k + 1)]
    by_cases h : a = 3 ∧ k + 1 ≤ j ∧ j < k + 1 + n
    · rw [if_pos h, if_pos (by omega)]
    · rw [if_neg h]
      by_cases e : a = 3 ∧ j = k
      · rw [e.1, e.2, up2_at, if_pos (by omega)]
      · rw [up2_ne e, if_neg (by omega)]
theorem rdW_ne {lt : Nat → Int32} {L V : Nat} : ∀ (n k : Nat) (LF : Nat → Nat → Int32) (a j : Nat), (a < 3 ∨ 6 < a ∨ j < k) → rdW lt L V n k LF a j = LF a j
  | 0, _, _, _, _, _ => rfl
  | n + 1, k, LF, a, j, h => by
    rw [rdW, rdW_ne n (k + 1) _ a j (by omega), up2_ne (by omega), up2_ne (by omega), up2_ne (by omega), up2_ne (by omega)]
theorem rdW_at {lt : Nat → Int32} {L V : Nat} : ∀ (n k : Nat) (LF : Nat → Nat → Int32) (j : Nat), k ≤ j → j < k + n → rdW lt L V n k LF 3 j = kat lt L (2 * V + 5 * j) ∧ rdW lt L V n k LF 4 j = dgt lt L (2 * V + 5 * j + 1) ∧ rdW lt L V n k LF 5 j = dgt lt L (2 * V + 5 * j + 2) ∧ rdW lt L V n k LF 6 j = dgt lt L (2 * V + 5 * j + 3)
  | 0, k, LF, j, h1, h2 => absurd h2 (by omega)
  | n + 1, k, LF, j, h1, h2 => by
    rw [rdW]
    by_cases e : j = k
    · subst e
      rw [rdW_ne _ _ _ _ _ (by omega), rdW_ne _ _ _ _ _ (by omega), rdW_ne _ _ _ _ _ (by omega), rdW_ne _ _ _ _ _ (by omega)]
      refine ⟨?_, ?_, ?_, ?_⟩
      · rw [up2_ne (by omega), up2_ne (by omega), up2_ne (by omega), up2_at]
      · rw [up2_ne (by omega), up2_ne (by omega), up2_at]
      · rw [up2_ne (by omega), up2_at]
      · rw [up2_at]
    · exact rdW_at n (k + 1) _ j (by omega) (by omega)
theorem mtW_ne {lt : Nat → Int32} {V : Nat} : ∀ (n k : Nat) (F : Nat → Nat → Int32) (a j : Nat), (a < 4 ∨ 8 < a ∨ j < k) → mtW lt V n k F a j = F a j
  | 0, _, _, _, _, _ => rfl
  | n + 1, k, F, a, j, h => by
    rw [mtW, mtW_ne n (k + 1) _ a j (by omega), up2_ne (by omega), up2_ne (by omega), up2_ne (by omega), up2_ne (by omega), up2_ne (by omega)]
theorem mtW_at {lt : Nat → Int32} {V : Nat} : ∀ (n k : Nat) (F : Nat → Nat → Int32) (j : Nat), k ≤ j → j < k + n → mtW lt V n k F 4 j = mkb (lt (2 * V + 5 * j)) ∧ mtW lt V n k F 5 j = lt (2 * V + 5 * j + 1) - 48 ∧ mtW lt V n k F 6 j = lt (2 * V + 5 * j + 2) - 48 ∧ mtW lt V n k F 7 j = lt (2 * V + 5 * j + 3) - 48 ∧ mtW lt V n k F 8 j = 0
  | 0, k, F, j, h1, h2 => absurd h2 (by omega)
  | n + 1, k, F, j, h1, h2 => by
    rw [mtW]
    by_cases e : j = k
    · subst e
      rw [mtW_ne _ _ _ _ _ (by omega), mtW_ne _ _ _ _ _ (by omega), mtW_ne _ _ _ _ _ (by omega), mtW_ne _ _ _ _ _ (by omega), mtW_ne _ _ _ _ _ (by omega)]
      refine ⟨?_, ?_, ?_, ?_, ?_⟩
      · rw [up2_ne (by omega), up2_ne (by omega), up2_ne (by omega), up2_ne (by omega), up2_at]
      · rw [up2_ne (by omega), up2_ne (by omega), up2_ne (by omega), up2_at]
      · rw [up2_ne (by omega), up2_ne (by omega), up2_at]
      · rw [up2_ne (by omega), up2_at]
      · rw [up2_at]
    · exact mtW_at n (k + 1) _ j (by omega) (by omega)
section TB
variable {lt : Nat → Int32} {L V N : Nat}
theorem dgt_in {a : Nat} (h : a < L) : dgt lt L a = lt a - 48 := if_pos h
theorem kat_in (hc : ∀ j, j < L → ∃ n, n < 128 ∧ lt j = nI n) {a : Nat} (h : a < L) : kat lt L a = mkb (lt a) := by
  obtain ⟨n, h1, h2⟩ := hc a h
  rw [kat, if_pos h, h2, (ch_eq h1).2.2.2.1]
theorem tab_E (hc : ∀ j, j < L → ∃ n, n < 128 ∧ lt j = nI n) (T : TAB lt L V N) (LF F : Nat → Nat → Int32) : EQV (vC (rdW lt L V N 0 (rdB lt L V 0 (clrF 5 0 LF)))) (vM (mtW lt V N 0 (mtB lt V 0 F))) V N := by
  obtain ⟨hL, h2, h4, h1, h5, _, _⟩ := T
  refine ⟨fun v hv => ?_, fun k hk => ?_⟩
  · show rdW lt L V N 0 (rdB lt L V 0 (clrF 5 0 LF)) 2 v = mtW lt V N 0 (mtB lt V 0 F) 3 v
    rw [rdW_ne _ _ _ _ _ (by omega), rdB_at, if_pos (by omega), mtW_ne _ _ _ _ _ (by omega), mtB_at, if_pos (by omega), dgt_in (by omega)]
  · obtain ⟨a1, a2, a3, a4⟩ := rdW_at (lt := lt) (L := L) (V := V) N 0 (rdB lt L V 0 (clrF 5 0 LF)) k (by omega) (by omega)
    obtain ⟨b1, b2, b3, b4, b5⟩ := mtW_at (lt := lt) (V := V) N 0 (mtB lt V 0 F) k (by omega) (by omega)
    refine ⟨?_, ?_, ?_, ?_, ?_⟩
    · exact a1.trans ((kat_in hc (by omega)).trans b1.symm)
    · exact a2.trans ((dgt_in (by omega)).trans b2.symm)
    · exact a3.trans ((dgt_in (by omega)).trans b3.symm)
    · exact a4.trans ((dgt_in (by omega)).trans b4.symm)
    · refine Eq.trans ?_ b5.symm
      show rdW lt L V N 0 (rdB lt L V 0 (clrF 5 0 LF)) 7 k = 0
      rw [rdW_ne _ _ _ _ _ (by omega), rdB_at, if_neg (by omega), clrF_at, if_pos (by omega)]
theorem tab_R (T : TAB lt L V N) (F : Nat → Nat → Int32) : RNG (vM (mtW lt V N 0 (mtB lt V 0 F))) V N := by
  obtain ⟨hL, h2, h4, h1, h5, hb, hw⟩ := T
  refine ⟨fun v hv => ?_, fun k hk => ?_⟩
  · have e : vM (mtW lt V N 0 (mtB lt V 0 F)) 0 v = lt (2 * v) - 48 := by
      show mtW lt V N 0 (mtB lt V 0 F) 3 v = _
      rw [mtW_ne _ _ _ _ _ (by omega), mtB_at, if_pos (by omega)]
    rw [e]
    exact hb v hv
  · obtain ⟨b1, b2, b3, b4, b5⟩ := mtW_at (lt := lt) (V := V) N 0 (mtB lt V 0 F) k (by omega) (by omega)
    obtain ⟨⟨c, c1, c2⟩, ⟨o, o1, o2, o3⟩, ⟨v, v1, v2⟩, ⟨p, p1, p2⟩⟩ := hw k hk
    exact ⟨⟨c, c1, b1.trans c2⟩, ⟨o, o1, o2, b2.trans o3⟩, Or.inr ⟨v, p, v1, p1, b3.trans v2, b4.trans p2⟩, 0, by omega, b5, fun _ => rfl⟩
theorem mt_row {F : Nat → Nat → Int32} {a : Nat} (ha : a < 3 ∨ 8 < a) : mtW lt V N 0 (mtB lt V 0 F) a = F a := by
  funext j
  rw [mtW_ne _ _ _ _ _ (by omega), mtB_at, if_neg (by omega)]
end TB
