/-! what ounces a weight may have -/
theorem bit_addG {a k : Nat} (ha : a < 2 ^ k) (j : Nat) : bi (a + 2 ^ k) j = if j = k then 1 else bi a j := by
  unfold bi
  rcases Nat.lt_trichotomy j k with h | h | h
  · rw [if_neg (by omega)]
    obtain ⟨m, rfl⟩ : ∃ m, k = j + (m + 1) := ⟨k - j - 1, by omega⟩
    rw [Nat.pow_add, Nat.add_mul_div_left _ _ (Nat.pos_of_ne_zero (by simp)), Nat.pow_succ]
    omega
  · subst h
    rw [if_pos rfl, Nat.add_div_right _ (Nat.pos_of_ne_zero (by simp)), Nat.div_eq_of_lt ha]
  · rw [if_neg (by omega)]
    have h1 : 2 ^ (k + 1) ≤ 2 ^ j := Nat.pow_le_pow_right (by decide) (by omega)
    rw [Nat.pow_succ] at h1
    rw [Nat.div_eq_of_lt (by omega), Nat.div_eq_of_lt (by omega)]
def gs (p : Nat → Bool) : Nat → Nat
  | 0 => 0
  | n + 1 => if p n then gs p n + 2 ^ n else gs p n
theorem gs_lt (p : Nat → Bool) : ∀ n, gs p n < 2 ^ n
  | 0 => by show 0 < 1; decide
  | n + 1 => by
    have := gs_lt p n
    rw [gs, Nat.pow_succ]
    split <;> omega
theorem gs_bi (p : Nat → Bool) (j : Nat) : ∀ n, bi (gs p n) j = 1 ↔ (j < n ∧ p j = true)
  | 0 => by
    constructor
    · intro h
      have : bi 0 j = 0 := by unfold bi; simp
      rw [gs, this] at h
      exact absurd h (by decide)
    · intro h; exact absurd h.1 (Nat.not_lt_zero _)
  | n + 1 => by
    have ih := gs_bi p j n
    rw [gs]
    by_cases hp : p n = true
    · rw [if_pos hp, bit_addG (gs_lt p n)]
      by_cases e : j = n
      · rw [if_pos e, e]; exact ⟨fun _ => ⟨by omega, hp⟩, fun _ => rfl⟩
      · rw [if_neg e, ih]
        exact ⟨fun h => ⟨by omega, h.2⟩, fun h => ⟨by omega, h.2⟩⟩
    · rw [if_neg hp, ih]
      exact ⟨fun h => ⟨by omega, h.2⟩, fun h => ⟨by
        by_cases e : j = n
        · rw [e] at h; exact absurd h.2 hp
        · omega, h.2⟩⟩
theorem or_add9 {a k : Nat} (hk : k < 9) (ha : a < 2 ^ k) : nI a ||| ((1 : Int32) <<< (nI k &&& 31)) = nI (a + 2 ^ k) := by
  have q : ∀ k : Fin 9, ∀ a : Fin 256, a.val < 2 ^ k.val → nI a.val ||| ((1 : Int32) <<< (nI k.val &&& 31)) = nI (a.val + 2 ^ k.val) := by decide +kernel
  have : 2 ^ k ≤ 256 := Nat.le_trans (Nat.pow_le_pow_right (by decide) (show k ≤ 8 by omega)) (by decide)
  exact q ⟨k, hk⟩ ⟨a, by omega⟩ ha
theorem coF_gs (q : Nat → Int32) : ∀ (n k : Nat), k + n ≤ 9 → coF q n (k + 1) (nI (gs (fun j => decide (¬ q (j + 1) = 0)) k)) = nI (gs (fun j => decide (¬ q (j + 1) = 0)) (k + n))
  | 0, _, _ => rfl
  | n + 1, k, h => by
    rw [coF, nI_pred]
    have e : nI (gs (fun j => decide (¬ q (j + 1) = 0)) k) ||| (if q (k + 1) = 0 then 0 else (1 : Int32) <<< (nI k &&& 31)) = nI (gs (fun j => decide (¬ q (j + 1) = 0)) (k + 1)) := by
      rw [gs]
      by_cases hq : q (k + 1) = 0
      · rw [if_pos hq, if_neg (by simp [hq])]; simp
      · rw [if_neg hq, or_add9 (by omega) (gs_lt _ k), if_pos (by simp [hq])]
    rw [e, coF_gs q n (k + 1) (by omega)]
    congr 2; omega
/-- sets of nine, by what is in them -/
theorem set_ext {S T : Nat} (hS : S < 512) (hT : T < 512) (h : ∀ j, j < 9 → (bi S j = 1 ↔ bi T j = 1)) : S = T := by
  have e : ∀ j, j < 9 → bi S j = bi T j := fun j hj => by
    have h1 := h j hj
    have : bi S j < 2 := Nat.mod_lt _ (by decide)
    have : bi T j < 2 := Nat.mod_lt _ (by decide)
    omega
  have e0 := e 0 (by omega)
  have e1 := e 1 (by omega)
  have e2 := e 2 (by omega)
  have e3 := e 3 (by omega)
  have e4 := e 4 (by omega)
  have e5 := e 5 (by omega)
  have e6 := e 6 (by omega)
  have e7 := e 7 (by omega)
  have e8 := e 8 (by omega)
  simp only [bi, Nat.reducePow] at e0 e1 e2 e3 e4 e5 e6 e7 e8
  omega
theorem clr_ok {S k : Nat} (hk : k < 9) (hS : S < 512) : ∃ T, nI S &&& (((1 : Int32) <<< (nI k &&& 31)) ^^^ (-1)) = nI T ∧ T < 512 ∧ ∀ j, bi T j = 1 ↔ (bi S j = 1 ∧ ¬ j = k) := by
  have q : ∀ k : Fin 9, ∀ a : Fin 512, nI a.val &&& (((1 : Int32) <<< (nI k.val &&& 31)) ^^^ (-1)) = nI (if bi a.val k.val = 1 then a.val - 2 ^ k.val else a.val) ∧ (bi a.val k.val = 1 → bi (a.val - 2 ^ k.val) k.val = 0 ∧ 2 ^ k.val ≤ a.val) := by decide +kernel
  obtain ⟨h1, h2⟩ := q ⟨k, hk⟩ ⟨S, hS⟩
  refine ⟨_, h1, ?_, fun j => ?_⟩
  · show (if bi S k = 1 then S - 2 ^ k else S) < 512
    have := Nat.sub_le S (2 ^ k)
    split <;> omega
  · show bi (if bi S k = 1 then S - 2 ^ k else S) j = 1 ↔ _
    by_cases hb : bi S k = 1
    · rw [if_pos hb]
      obtain ⟨h3, h4⟩ := h2 hb
      by_cases e : j = k
      · rw [e]
        have h3 : bi (S - 2 ^ k) k = 0 := h3
        rw [h3]
        exact ⟨fun z => absurd z (by decide), fun z => absurd rfl z.2⟩
      · have : bi (S - 2 ^ k) j = bi S j := by
          have h4 : 2 ^ k ≤ S := h4
          have h3 : bi (S - 2 ^ k) k = 0 := h3
          unfold bi at h3 ⊢
          have hd : S = (S - 2 ^ k) + 2 ^ k := by omega
          generalize S - 2 ^ k = T at *
          rw [hd]
          rcases Nat.lt_trichotomy j k with h | h | h
          · obtain ⟨m, rfl⟩ : ∃ m, k = j + (m + 1) := ⟨k - j - 1, by omega⟩
            rw [Nat.pow_add, Nat.add_mul_div_left _ _ (Nat.pos_of_ne_zero (by simp)), Nat.pow_succ]
            omega
          · exact absurd h e
          · obtain ⟨m, rfl⟩ : ∃ m, j = k + (m + 1) := ⟨j - k - 1, by omega⟩
            rw [Nat.pow_add, ← Nat.div_div_eq_div_mul, ← Nat.div_div_eq_div_mul, Nat.add_div_right _ (Nat.pos_of_ne_zero (by simp)), Nat.pow_succ, Nat.mul_comm, ← Nat.div_div_eq_div_mul, ← Nat.div_div_eq_div_mul]
            congr 2
            omega
        rw [this]
        exact ⟨fun z => ⟨z, e⟩, fun z => z.1⟩
    · rw [if_neg hb]
      exact ⟨fun z => ⟨z, fun e => hb (e ▸ z)⟩, fun z => z.1⟩
def vS (F : Nat → Nat → Int32) : Nat → Nat → Int32 := fun a => F (13 + a)
section PO
variable {X A : Nat → Nat → Int32} {N w : Nat}
theorem poI_set (side force lf : Int32) : ∀ (n h S : Nat), S < 512 → h + n = 10 → 1 ≤ h → ∃ T, poI X N w side force lf n h (nI S) = nI T ∧ T < 512 ∧ ∀ j, j < 9 → (bi T j = 1 ↔ (bi S j = 1 ∧ (h ≤ j + 1 → lifs (hio X N w (nI (j + 1)) side) force = lf)))
  | 0, h, S, hS, hn, _ => ⟨S, rfl, hS, fun j hj => ⟨fun z => ⟨z, fun q => absurd q (by omega)⟩, fun z => z.1⟩⟩
  | n + 1, h, S, hS, hn, h1 => by
    rw [poI]
    by_cases hc : lifs (hio X N w (nI h) side) force = lf
    · rw [if_pos hc]
      obtain ⟨T, e1, e2, e3⟩ := poI_set side force lf n (h + 1) S hS (by omega) (by omega)
      refine ⟨T, e1, e2, fun j hj => (e3 j hj).trans ⟨fun z => ⟨z.1, fun q => ?_⟩, fun z => ⟨z.1, fun q => z.2 (by omega)⟩⟩⟩
      by_cases e : j + 1 = h
      · rw [e]; exact hc
      · exact z.2 (by omega)
    · rw [if_neg hc]
      obtain ⟨U, u1, u2, u3⟩ := clr_ok (S := S) (k := h - 1) (by omega) hS
      have e : nI h - 1 = nI (h - 1) := by rw [show h = h - 1 + 1 from by omega, nI_pred, Nat.add_sub_cancel]
      rw [e, u1]
      obtain ⟨T, e1, e2, e3⟩ := poI_set side force lf n (h + 1) U u2 (by omega) (by omega)
      refine ⟨T, e1, e2, fun j hj => ?_⟩
      rw [e3 j hj, u3 j]
      constructor
      · rintro ⟨⟨z1, z2⟩, z3⟩
        exact ⟨z1, fun q => z3 (by omega)⟩
      · rintro ⟨z1, z3⟩
        refine ⟨⟨z1, fun e => hc ?_⟩, fun q => z3 (by omega)⟩
        have := z3 (by omega)
        rw [show j + 1 = h from by omega] at this
        exact this
theorem poF_set : ∀ (n i S : Nat), S < 512 → ∃ T, poF X A N w n i (nI S) = nI T ∧ T < 512 ∧ ∀ j, j < 9 → (bi T j = 1 ↔ (bi S j = 1 ∧ ∀ k, i ≤ k → k < i + n → A 1 k = nI w → lifs (hio X N w (nI (j + 1)) (A 2 k)) (A 3 k) = A 4 k))
  | 0, i, S, hS => ⟨S, rfl, hS, fun j hj => ⟨fun z => ⟨z, fun k h1 h2 => absurd h2 (by omega)⟩, fun z => z.1⟩⟩
  | n + 1, i, S, hS => by
    rw [poF]
    by_cases hc : A 1 i = nI w
    · rw [if_pos hc]
      obtain ⟨U, u1, u2, u3⟩ := poI_set (X := X) (N := N) (w := w) (A 2 i) (A 3 i) (A 4 i) 9 1 S hS (by omega) (by omega)
      rw [u1]
      obtain ⟨T, e1, e2, e3⟩ := poF_set n (i + 1) U u2
      refine ⟨T, e1, e2, fun j hj => ?_⟩
      rw [e3 j hj, u3 j hj]
      constructor
      · rintro ⟨⟨z1, z2⟩, z3⟩
        refine ⟨z1, fun k h1 h2 h3 => ?_⟩
        by_cases e : k = i
        · rw [e]; exact z2 (by omega)
        · exact z3 k (by omega) (by omega) h3
      · rintro ⟨z1, z3⟩
        exact ⟨⟨z1, fun _ => z3 i (by omega) (by omega) hc⟩, fun k h1 h2 h3 => z3 k (by omega) (by omega) h3⟩
    · rw [if_neg hc]
      obtain ⟨T, e1, e2, e3⟩ := poF_set n (i + 1) S hS
      refine ⟨T, e1, e2, fun j hj => ?_⟩
      rw [e3 j hj]
      constructor
      · rintro ⟨z1, z3⟩
        refine ⟨z1, fun k h1 h2 h3 => ?_⟩
        by_cases e : k = i
        · rw [e] at h3; exact absurd h3 hc
        · exact z3 k (by omega) (by omega) h3
      · rintro ⟨z1, z3⟩
        exact ⟨z1, fun k h1 h2 h3 => z3 k (by omega) (by omega) h3⟩
theorem po_set {K : Nat} : ∃ T, po X A N K w = nI T ∧ T < 512 := by
  unfold po
  by_cases h : X 3 w = -1
  · rw [if_pos h]; exact ⟨511, rfl, by decide⟩
  · rw [if_neg h]
    obtain ⟨T, e1, e2, _⟩ := poF_set (X := X) (A := A) (N := N) (w := w) K 0 511 (by decide)
    exact ⟨T, e1, e2⟩
theorem lwt_hio {v : Nat} (hN : N ≤ 5) (hw : w < N) (hv : X 3 w = nI v) (h4 : v < 4) (ou side force : Int32) : lwt X N w v ou side force = lifs (hio X N w ou side) force := by
  have hZ : ∀ a j, ¬ j = w → up2 X 2 w ou a j = X a j := fun a j hj => up2_ne (fun z => hj z.2)
  have h3 : up2 X 2 w ou 3 w = X 3 w := up2_ne (by omega)
  rw [lwt, hld_at hN hw hZ (up2_ne (by omega)) side (by rw [h3]; exact hv), hio, hv, if_neg (nI_nm1 (by omega)), nI_clamp (by omega), up2_at, up2_ne (by omega), up2_ne (by omega), up2_ne (by omega)]
end PO
theorem ciF_all {X F : Nat → Nat → Int32} {N w v : Nat} {h : Int32} : ∀ (n k : Nat) (b : Int32), (b = 0 ∨ b = 1) → (¬ ciF X F N w v h n k b = 0 ↔ (b = 1 ∧ ∀ i, k ≤ i → i < k + n → F 14 i = nI w → lwt X N w v h (F 15 i) (F 16 i) = (if F 17 i = 1 then 1 else 0)))
  | 0, k, b, hb => by
    rw [ciF]
    constructor
    · intro z; exact ⟨hb.resolve_left z, fun i h1 h2 => absurd h2 (by omega)⟩
    · intro z; rw [z.1]; decide
  | n + 1, k, b, hb => by
    rw [ciF]
    rcases hb with rfl | rfl
    · rw [if_pos rfl, ciF_all n (k + 1) 0 (Or.inl rfl)]
      exact ⟨fun z => absurd z.1 (by decide), fun z => absurd z.1 (by decide)⟩
    · rw [if_neg (by decide)]
      by_cases hc : F 14 k = nI w
      · rw [if_neg (fun z => z hc)]
        by_cases hl : lwt X N w v h (F 15 k) (F 16 k) = (if F 17 k = 1 then 1 else 0)
        · rw [if_pos hl, ciF_all n (k + 1) 1 (Or.inr rfl)]
          constructor
          · rintro ⟨z1, z2⟩
            refine ⟨rfl, fun i h1 h2 h3 => ?_⟩
            by_cases e : i = k
            · rw [e]; exact hl
            · exact z2 i (by omega) (by omega) h3
          · rintro ⟨z1, z2⟩
            exact ⟨rfl, fun i h1 h2 h3 => z2 i (by omega) (by omega) h3⟩
        · rw [if_neg hl, ciF_all n (k + 1) 0 (Or.inl rfl)]
          exact ⟨fun z => absurd z.1 (by decide), fun z => absurd (z.2 k (by omega) (by omega) hc) hl⟩
      · rw [if_pos hc, ciF_all n (k + 1) 1 (Or.inr rfl)]
        constructor
        · rintro ⟨z1, z2⟩
          refine ⟨rfl, fun i h1 h2 h3 => ?_⟩
          by_cases e : i = k
          · rw [e] at h3; exact absurd h3 hc
          · exact z2 i (by omega) (by omega) h3
        · rintro ⟨z1, z2⟩
          exact ⟨rfl, fun i h1 h2 h3 => z2 i (by omega) (by omega) h3⟩
theorem mch_po {F : Nat → Nat → Int32} {V N K w : Nat} (H : HOM (vM F) V N) (h4 : V ≤ 4) (hN : N ≤ 5) (hw : w < N) (h01 : ∀ i, i < K → F 17 i = 0 ∨ F 17 i = 1) : mch F N K w = po (vM F) (vS F) N K w := by
  rcases H w hw with hh | ⟨v, hv, hh⟩
  · rw [mch_n hh, po, if_pos hh]
    decide
  · have hh : F 6 w = nI v := hh
    rw [mch_h hh (by omega), po, if_neg (by show ¬ F 6 w = -1; rw [hh]; exact nI_nm1 (by omega))]
    have e1 := coF_gs (fun h => ciF (vM F) F N w v (nI h) K 0 1) 9 0 (by omega)
    rw [Nat.zero_add, Nat.zero_add] at e1
    rw [show (0 : Int32) = nI (gs (fun j => decide (¬ (fun h => ciF (vM F) F N w v (nI h) K 0 1) (j + 1) = 0)) 0) from rfl, e1]
    obtain ⟨T, t1, t2, t3⟩ := poF_set (X := vM F) (A := vS F) (N := N) (w := w) K 0 511 (by decide)
    rw [show (511 : Int32) = nI 511 from rfl, t1]
    congr 1
    refine set_ext (gs_lt _ 9) t2 (fun j hj => ?_)
    rw [gs_bi, t3 j hj]
    have b511 : bi 511 j = 1 := by
      have q : ∀ j : Fin 9, bi 511 j.val = 1 := by decide +kernel
      exact q ⟨j, hj⟩
    have hc := ciF_all (X := vM F) (F := F) (N := N) (w := w) (v := v) (h := nI (j + 1)) K 0 1 (Or.inr rfl)
    constructor
    · rintro ⟨_, z⟩
      refine ⟨b511, fun k h1 h2 h3 => ?_⟩
      have z2 := (hc.mp (by simpa using z)).2 k h1 h2 h3
      rw [lwt_hio hN hw hh (by omega)] at z2
      refine z2.trans ?_
      show (if F 17 k = 1 then 1 else 0) = F 17 k
      rcases h01 k (by omega) with q | q
      · rw [q]; rfl
      · rw [q]; rfl
    · rintro ⟨_, z⟩
      refine ⟨hj, ?_⟩
      have : ¬ ciF (vM F) F N w v (nI (j + 1)) K 0 1 = 0 := hc.mpr ⟨rfl, fun i h1 h2 h3 => by
        rw [lwt_hio hN hw hh (by omega)]
        refine (z i h1 h2 h3).trans ?_
        show F 17 i = (if F 17 i = 1 then 1 else 0)
        rcases h01 i (by omega) with q | q
        · rw [q]; rfl
        · rw [q]; rfl⟩
      simpa using this
