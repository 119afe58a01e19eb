/-! a wind, weight by weight -/
def stC (bits step : Int32) (LF : Nat → Nat → Int32) (j : Nat) : Nat → Nat → Int32 := if LF 5 j = -1 ∨ ¬ (bits >>> (LF 5 j &&& 31)) &&& 1 = 1 then wth LF j else wth (sld (fun _ => 0) LF j step).2 j
theorem sld_l (l l' : Nat → Int32) (LF : Nat → Nat → Int32) (j : Nat) (step : Int32) : (sld l LF j step).2 = (sld l' LF j step).2 := by
  unfold sld; split <;> rfl
theorem mv_ne {LF : Nat → Nat → Int32} {w j a : Nat} {v p : Int32} (h : ¬ j = w) : mv LF w v p a j = LF a j := by
  unfold mv
  rw [up2_ne (fun z => h z.2), up2_ne (fun z => h z.2), up2_ne (fun z => h z.2)]
theorem sld_ne {l : Nat → Int32} {LF : Nat → Nat → Int32} {w j a : Nat} {step : Int32} (h : ¬ j = w) : (sld l LF w step).2 a j = LF a j := by
  unfold sld
  split
  · exact mv_ne h
  · exact up2_ne (fun z => h z.2)
theorem wth_ne {LF : Nat → Nat → Int32} {w j a : Nat} (h : ¬ j = w) : wth LF w a j = LF a j := by
  unfold wth
  split
  · rfl
  · have e1 : ∀ a, wth1 LF w a j = LF a j := fun a => by
      unfold wth1; split
      · exact up2_ne (fun z => h z.2)
      · rfl
    unfold wth2
    split
    · rw [up2_ne (fun z => h z.2), e1]
    · exact e1 a
theorem stC_ne {bits step : Int32} {LF : Nat → Nat → Int32} {w j a : Nat} (h : ¬ j = w) : stC bits step LF w a j = LF a j := by
  unfold stC
  split
  · exact wth_ne h
  · rw [wth_ne h, sld_ne h]
/-- a row of a column that was put in place of another -/
theorem up2_col {F G : Nat → Nat → Int32} {b w : Nat} {x : Int32} (h : ∀ a, F a w = G a w) (a : Nat) : up2 F b w x a w = up2 G b w x a w := by
  by_cases e : a = b
  · rw [e, up2_at, up2_at]
  · rw [up2_ne (fun z => e z.1), up2_ne (fun z => e z.1), h]
theorem mv_col {F G : Nat → Nat → Int32} {w : Nat} {v p : Int32} (h : ∀ a, F a w = G a w) (a : Nat) : mv F w v p a w = mv G w v p a w := up2_col (up2_col (up2_col h)) a
theorem sld_col {l : Nat → Int32} {F G : Nat → Nat → Int32} {w : Nat} {step : Int32} (h : ∀ a, F a w = G a w) (a : Nat) : (sld l F w step).2 a w = (sld l G w step).2 a w := by
  unfold sld
  rw [h 6]
  split
  · exact mv_col h a
  · exact up2_col h a
theorem wth1_col {F G : Nat → Nat → Int32} {w : Nat} (h : ∀ a, F a w = G a w) (a : Nat) : wth1 F w a w = wth1 G w a w := by
  unfold wth1
  rw [h 3, h 4]
  split
  · exact up2_col h a
  · exact h a
theorem wth2_col {F G : Nat → Nat → Int32} {w : Nat} (h : ∀ a, F a w = G a w) (a : Nat) : wth2 F w a w = wth2 G w a w := by
  unfold wth2
  rw [h 3, h 7]
  split
  · exact up2_col h a
  · exact h a
theorem wth_col {F G : Nat → Nat → Int32} {w : Nat} (h : ∀ a, F a w = G a w) (a : Nat) : wth F w a w = wth G w a w := by
  unfold wth
  rw [h 5]
  split
  · exact h a
  · exact wth2_col (wth1_col h) a
theorem stC_col {bits step : Int32} {F G : Nat → Nat → Int32} {w : Nat} (h : ∀ a, F a w = G a w) (a : Nat) : stC bits step F w a w = stC bits step G w a w := by
  unfold stC
  rw [h 5]
  split
  · exact wth_col h a
  · exact wth_col (sld_col h) a
theorem wdF_st (bits step : Int32) : ∀ (n k : Nat) (l : Nat → Int32) (LF : Nat → Nat → Int32) (a j : Nat), (wdF bits step n k l LF).2 a j = if k ≤ j ∧ j < k + n then stC bits step LF j a j else LF a j
  | 0, k, l, LF, a, j => by rw [wdF, if_neg (by omega)]
  | n + 1, k, l, LF, a, j => by
    have key : ∀ (l' : Nat → Int32), (wdF bits step n (k + 1) l' (stC bits step LF k)).2 a j = if k ≤ j ∧ j < k + (n + 1) then stC bits step LF j a j else LF a j := fun l' => by
      rw [wdF_st bits step n (k + 1)]
      by_cases e : j = k
      · subst e
        rw [if_neg (by omega), if_pos (by omega)]
      · by_cases q : k + 1 ≤ j ∧ j < k + 1 + n
        · rw [if_pos q, if_pos (by omega)]
          exact stC_col (fun a => stC_ne e) a
        · rw [if_neg q, if_neg (by omega), stC_ne e]
    rw [wdF]
    by_cases h : LF 5 k = -1 ∨ ¬ (bits >>> (LF 5 k &&& 31)) &&& 1 = 1
    · rw [if_pos h]
      have e : wth LF k = stC bits step LF k := by rw [stC, if_pos h]
      rw [e]; exact key l
    · rw [if_neg h]
      have e : wth (sld l LF k step).2 k = stC bits step LF k := by rw [stC, if_neg h, sld_l l (fun _ => 0)]
      rw [e]; exact key _
/-- who falls -/
def flF (bits step : Int32) (H P : Nat → Int32) : Nat → Nat → Int32 → Int32
  | 0, _, c => c
  | n + 1, k, c => flF bits step H P n (k + 1) (if (¬ (H k = -1 ∨ ¬ (bits >>> (H k &&& 31)) &&& 1 = 1)) ∧ (P k + step < 0 ∨ ¬ P k + step ≤ 4) then c + 1 else c)
theorem flF_c {bits step : Int32} {H P H' P' : Nat → Int32} : ∀ (n k : Nat) (c : Int32), (∀ j, k ≤ j → j < k + n → H j = H' j ∧ P j = P' j) → flF bits step H P n k c = flF bits step H' P' n k c
  | 0, _, _, _ => rfl
  | n + 1, k, c, h => by
    obtain ⟨h1, h2⟩ := h k (by omega) (by omega)
    rw [flF, flF, h1, h2, flF_c n (k + 1) _ (fun j a b => h j (by omega) (by omega))]
theorem wdF_l (bits step : Int32) : ∀ (n k : Nat) (l : Nat → Int32) (LF : Nat → Nat → Int32), (wdF bits step n k l LF).1 10 = flF bits step (LF 5) (LF 6) n k (l 10) ∧ ∀ i, ¬ i = 10 → (wdF bits step n k l LF).1 i = l i
  | 0, k, l, LF => ⟨rfl, fun _ _ => rfl⟩
  | n + 1, k, l, LF => by
    rw [wdF, flF]
    by_cases h : LF 5 k = -1 ∨ ¬ (bits >>> (LF 5 k &&& 31)) &&& 1 = 1
    · rw [if_pos h, if_neg (fun z => z.1 h)]
      obtain ⟨h1, h2⟩ := wdF_l bits step n (k + 1) l (wth LF k)
      refine ⟨h1.trans (flF_c n (k + 1) _ (fun j a b => ⟨wth_ne (by omega), wth_ne (by omega)⟩)), h2⟩
    · rw [if_neg h]
      obtain ⟨h1, h2⟩ := wdF_l bits step n (k + 1) (sld l LF k step).1 (wth (sld l LF k step).2 k)
      have hc := flF_c (bits := bits) (step := step) (H := wth (sld l LF k step).2 k 5) (P := wth (sld l LF k step).2 k 6) (H' := LF 5) (P' := LF 6) n (k + 1) ((sld l LF k step).1 10) (fun j a b => ⟨by rw [wth_ne (by omega), sld_ne (by omega)], by rw [wth_ne (by omega), sld_ne (by omega)]⟩)
      by_cases q : LF 6 k + step < 0 ∨ ¬ LF 6 k + step ≤ 4
      · rw [if_pos ⟨h, q⟩]
        have e : (sld l LF k step).1 = upd l 10 (l 10 + 1) := by rw [sld, if_pos q]
        refine ⟨h1.trans (hc.trans (by rw [e, pk_us])), fun i hi => (h2 i hi).trans (by rw [e, pk_un hi])⟩
      · rw [if_neg (fun z => q z.2)]
        have e : (sld l LF k step).1 = l := by rw [sld, if_neg q]
        exact ⟨h1.trans (hc.trans (by rw [e])), fun i hi => (h2 i hi).trans (by rw [e])⟩
/-! the reference -/
def stS (bits side : Int32) (F : Nat → Nat → Int32) (j : Nat) : Nat → Nat → Int32 := if F 6 j = -1 ∨ isin bits (F 6 j) = 0 then F else (msl (fun _ => 0) F j side).2
theorem msl_g (g g' : Nat → Int32) (F : Nat → Nat → Int32) (j : Nat) (side : Int32) : (msl g F j side).2 = (msl g' F j side).2 := by
  unfold msl; split <;> rfl
theorem gaw_ne {F : Nat → Nat → Int32} {w j a : Nat} (h : ¬ j = w) : gaw F w a j = F a j := by
  unfold gaw
  rw [up2_ne (fun z => h z.2), up2_ne (fun z => h z.2), up2_ne (fun z => h z.2)]
theorem msl_ne {g : Nat → Int32} {F : Nat → Nat → Int32} {w j a : Nat} {side : Int32} (h : ¬ j = w) : (msl g F w side).2 a j = F a j := by
  unfold msl
  split
  · exact (gaw_ne h).trans (up2_ne (fun z => h z.2))
  · exact up2_ne (fun z => h z.2)
theorem stS_ne {bits side : Int32} {F : Nat → Nat → Int32} {w j a : Nat} (h : ¬ j = w) : stS bits side F w a j = F a j := by
  unfold stS
  split
  · rfl
  · exact msl_ne h
theorem mwr_ne {F : Nat → Nat → Int32} {w j a : Nat} (h : ¬ j = w) : mwr F w a j = F a j := by
  unfold mwr
  split
  · rfl
  · unfold mw2 mw1
    rw [up2_ne (fun z => h z.2), up2_ne (fun z => h z.2)]
theorem msl_col {g : Nat → Int32} {F G : Nat → Nat → Int32} {w : Nat} {side : Int32} (h : ∀ a, F a w = G a w) (a : Nat) : (msl g F w side).2 a w = (msl g G w side).2 a w := by
  unfold msl
  rw [h 7]
  split
  · exact up2_col (up2_col (up2_col (up2_col h))) a
  · exact up2_col h a
theorem stS_col {bits side : Int32} {F G : Nat → Nat → Int32} {w : Nat} (h : ∀ a, F a w = G a w) (a : Nat) : stS bits side F w a w = stS bits side G w a w := by
  unfold stS
  rw [h 6]
  split
  · exact h a
  · exact msl_col h a
theorem mwr_col {F G : Nat → Nat → Int32} {w : Nat} (h : ∀ a, F a w = G a w) (a : Nat) : mwr F w a w = mwr G w a w := by
  unfold mwr
  rw [h 6]
  split
  · exact h a
  · have h1 : ∀ a, mw1 F w a w = mw1 G w a w := fun a => by
      unfold mw1
      rw [h 5, h 4]
      exact up2_col h a
    unfold mw2
    rw [h1 8, h1 4]
    exact up2_col h1 a
theorem msF_st (bits side : Int32) : ∀ (n k : Nat) (g : Nat → Int32) (F : Nat → Nat → Int32) (a j : Nat), (msF bits side n k g F).2 a j = if k ≤ j ∧ j < k + n then stS bits side F j a j else F a j
  | 0, k, g, F, a, j => by rw [msF, if_neg (by omega)]
  | n + 1, k, g, F, a, j => by
    have key : ∀ (g' : Nat → Int32), (msF bits side n (k + 1) g' (stS bits side F k)).2 a j = if k ≤ j ∧ j < k + (n + 1) then stS bits side F j a j else F a j := fun g' => by
      rw [msF_st bits side n (k + 1)]
      by_cases e : j = k
      · subst e
        rw [if_neg (by omega), if_pos (by omega)]
      · by_cases q : k + 1 ≤ j ∧ j < k + 1 + n
        · rw [if_pos q, if_pos (by omega)]
          exact stS_col (fun a => stS_ne e) a
        · rw [if_neg q, if_neg (by omega), stS_ne e]
    rw [msF]
    by_cases h : F 6 k = -1 ∨ isin bits (F 6 k) = 0
    · rw [if_pos h]
      have := key g
      rw [show stS bits side F k = F from if_pos h] at this
      exact this
    · rw [if_neg h]
      have e : (msl g F k side).2 = stS bits side F k := by rw [stS, if_neg h, msl_g g (fun _ => 0)]
      rw [e]; exact key _
theorem mrF_st : ∀ (n k : Nat) (F : Nat → Nat → Int32) (a j : Nat), mrF n k F a j = if k ≤ j ∧ j < k + n then mwr F j a j else F a j
  | 0, k, F, a, j => by rw [mrF, if_neg (by omega)]
  | n + 1, k, F, a, j => by
    rw [mrF, mrF_st n (k + 1)]
    by_cases e : j = k
    · subst e
      rw [if_neg (by omega), if_pos (by omega)]
    · by_cases q : k + 1 ≤ j ∧ j < k + 1 + n
      · rw [if_pos q, if_pos (by omega)]
        exact mwr_col (fun a => mwr_ne e) a
      · rw [if_neg q, if_neg (by omega), mwr_ne e]
theorem isin_0 {b x : Int32} : isin b x = 0 ↔ ¬ (b >>> (x &&& 31)) &&& 1 = 1 := by
  unfold isin
  by_cases h : (b >>> (x &&& 31)) &&& 1 = 1
  · rw [if_pos h]; exact ⟨fun z => absurd z (by decide), fun z => absurd h z⟩
  · rw [if_neg h]; exact ⟨fun _ => h, fun _ => rfl⟩
theorem wtn04 {x : Int32} : wtn x 0 4 = 0 ↔ (x < 0 ∨ ¬ x ≤ 4) := by
  have e : ¬ x ≤ 4 ↔ 4 < x := by rw [i32_le, i32_lt]; omega
  rw [e]
  constructor
  · intro h
    by_cases a : x < 0
    · exact Or.inl a
    · by_cases b : 4 < x
      · exact Or.inr b
      · rw [wtn_is1 a b] at h; exact absurd h (by decide)
  · exact wtn_is0
theorem msF_g (bits side : Int32) : ∀ (n k : Nat) (g : Nat → Int32) (F : Nat → Nat → Int32), (msF bits side n k g F).1 11 = flF bits (stp side) (F 6) (F 7) n k (g 11) ∧ ∀ i, ¬ i = 11 → (msF bits side n k g F).1 i = g i
  | 0, k, g, F => ⟨rfl, fun _ _ => rfl⟩
  | n + 1, k, g, F => by
    rw [msF, flF]
    by_cases h : F 6 k = -1 ∨ isin bits (F 6 k) = 0
    · rw [if_pos h, if_neg (fun z => z.1 (h.imp id isin_0.mp))]
      exact msF_g bits side n (k + 1) g F
    · rw [if_neg h]
      have h' : ¬ (F 6 k = -1 ∨ ¬ (bits >>> (F 6 k &&& 31)) &&& 1 = 1) := fun z => h (z.imp id isin_0.mpr)
      obtain ⟨h1, h2⟩ := msF_g bits side n (k + 1) (msl g F k side).1 (msl g F k side).2
      have hc := flF_c (bits := bits) (step := stp side) (H := (msl g F k side).2 6) (P := (msl g F k side).2 7) (H' := F 6) (P' := F 7) n (k + 1) ((msl g F k side).1 11) (fun j a b => ⟨msl_ne (by omega), msl_ne (by omega)⟩)
      by_cases q : F 7 k + stp side < 0 ∨ ¬ F 7 k + stp side ≤ 4
      · rw [if_pos ⟨h', q⟩]
        have e : (msl g F k side).1 = upd g 11 (g 11 + 1) := by rw [msl, if_pos (wtn04.mpr q)]
        exact ⟨h1.trans (hc.trans (by rw [e, pk_us])), fun i hi => (h2 i hi).trans (by rw [e, pk_un hi])⟩
      · rw [if_neg (fun z => q z.2)]
        have e : (msl g F k side).1 = g := by rw [msl, if_neg (fun z => q (wtn04.mp z))]
        exact ⟨h1.trans (hc.trans (by rw [e])), fun i hi => (h2 i hi).trans (by rw [e])⟩
