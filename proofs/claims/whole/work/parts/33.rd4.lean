/-! which wind to wait for -/
theorem bitc_9 {S : Nat} (h : S < 512) : siz (nI S) = bitc (nI S) ∧ ∃ c, c ≤ 9 ∧ bitc (nI S) = nI c := by
  have q : ∀ a : Fin 512, siz (nI a.val) = bitc (nI a.val) ∧ (bitc (nI a.val)).toNatClampNeg ≤ 9 ∧ bitc (nI a.val) = nI (bitc (nI a.val)).toNatClampNeg := by decide +kernel
  obtain ⟨h1, h2, h3⟩ := q ⟨S, h⟩
  exact ⟨h1, _, h2, h3⟩
section WW
variable {X : Nat → Nat → Int32} {N w v : Nat} {hs : Nat → Int32} {p side force : Int32}
theorem wyF_lw (hN : N ≤ 5) (hw : w < N) (hv : X 3 w = nI v) (h4 : v < 4) (hh : ∀ h, 1 ≤ h → h < 10 → hs h = hio X N w (nI h) side) : ∀ (n h : Nat) (c : Int32), 1 ≤ h → h + n ≤ 10 → wyF X N w v p side force n h c = lwF hs p force n h c
  | 0, _, _, _, _ => rfl
  | n + 1, h, c, h1, h2 => by
    rw [wyF, lwF, lwt_hio hN hw hv h4, hh h h1 (by omega)]
    by_cases hb : (p >>> ((nI h - 1) &&& 31)) &&& 1 = 1
    · rw [show isin p (nI h - 1) = 1 from if_pos hb, if_neg (by decide)]
      by_cases hl : lifs (hio X N w (nI h) side) force = 0
      · rw [if_pos hl, if_pos (Or.inr hl), show c + (0 : Int32) = c from by simp, wyF_lw hN hw hv h4 hh n (h + 1) _ (by omega) (by omega)]
      · rw [if_neg hl, if_neg (fun z => z.elim (fun q => q hb) hl), wyF_lw hN hw hv h4 hh n (h + 1) _ (by omega) (by omega)]
    · rw [show isin p (nI h - 1) = 0 from if_neg hb, if_pos rfl, if_pos (Or.inl hb), show c + (0 : Int32) = c from by simp, wyF_lw hN hw hv h4 hh n (h + 1) _ (by omega) (by omega)]
theorem jmax_le {a b : Int32} : (if a ≤ b then b else a) = jmax a b := by
  unfold jmax
  by_cases h : a < b
  · rw [if_pos h, if_pos (by rw [i32_le]; rw [i32_lt] at h; omega)]
  · rw [if_neg h]
    by_cases h2 : a ≤ b
    · rw [if_pos h2]
      rw [i32_le] at h2; rw [i32_lt] at h
      exact i32_eq (by omega)
    · rw [if_neg h2]
theorem mwb_lw (hN : N ≤ 5) (hw : w < N) (hv : X 3 w = nI v) (h4 : v < 4) (hh : ∀ h, 1 ≤ h → h < 10 → hs h = hio X N w (nI h) side) {S : Nat} (hp : p = nI S) (hS : S < 512) : mwb X N w v p side force = lw hs p force := by
  rw [mwb, lw, wyF_lw hN hw hv h4 hh 9 1 0 (by omega) (by omega), jmax_le, hp, (bitc_9 hS).1]
theorem lwF_9 : ∀ (n h c : Nat), ∃ d, d ≤ c + n ∧ lwF hs p force n h (nI c) = nI d
  | 0, _, c => ⟨c, by omega, rfl⟩
  | n + 1, h, c => by
    rw [lwF]
    split
    · obtain ⟨d, h1, h2⟩ := lwF_9 n (h + 1) c
      exact ⟨d, by omega, h2⟩
    · rw [nI_1]
      obtain ⟨d, h1, h2⟩ := lwF_9 n (h + 1) (c + 1)
      exact ⟨d, by omega, h2⟩
theorem lw_9 {S : Nat} (hp : p = nI S) (hS : S < 512) : (lw hs p force).toInt ≤ 9 := by
  obtain ⟨d, h1, h2⟩ := lwF_9 (hs := hs) (p := p) (force := force) 9 1 0
  have h2 : lwF hs p force 9 1 0 = nI d := h2
  obtain ⟨_, c, h3, h4⟩ := bitc_9 hS
  unfold lw jmax
  rw [h2, hp, h4]
  have e := pk_sub_toInt (a := c) (b := d) (by omega) (by omega)
  split
  · rw [e]; omega
  · rw [nI_toInt (by omega)]; omega
theorem wfF_ww {q : Nat → Int32} : ∀ (n m k f : Nat) (b fw : Int32), (∀ j, j < n → q (k + j) = lw hs p (nI (f + j)) ∧ nI (k + j) = 100 * side + nI (f + j)) → wfF q (n + m) k b fw = wfF q m (k + n) (wwI hs p side n f b fw).1 (wwI hs p side n f b fw).2
  | 0, m, k, f, b, fw, _ => by rw [Nat.zero_add]; rfl
  | n + 1, m, k, f, b, fw, h => by
    obtain ⟨h1, h2⟩ := h 0 (by omega)
    rw [Nat.add_zero, Nat.add_zero] at h1 h2
    rw [show n + 1 + m = n + m + 1 from by omega, wfF, wwI, h1, h2]
    have h' : ∀ j, j < n → q (k + 1 + j) = lw hs p (nI (f + 1 + j)) ∧ nI (k + 1 + j) = 100 * side + nI (f + 1 + j) := fun j hj => by
      have := h (j + 1) (by omega)
      rw [show k + 1 + j = k + (j + 1) from by omega, show f + 1 + j = f + (j + 1) from by omega]
      exact this
    by_cases hc : fw ≤ lw hs p (nI f)
    · rw [if_pos hc, if_pos hc, wfF_ww n m (k + 1) (f + 1) _ _ h']
      congr 1; omega
    · rw [if_neg hc, if_neg hc, wfF_ww n m (k + 1) (f + 1) _ _ h']
      congr 1; omega
end WW
theorem mwf_ww {F : Nat → Nat → Int32} {V N K w : Nat} (H : HOM (vM F) V N) (h4 : V ≤ 4) (hN : N ≤ 5) (hw : w < N) (h01 : ∀ i, i < K → F 17 i = 0 ∨ F 17 i = 1) : mwf F N K w = ww (vM F) (vS F) N K w := by
  rw [mwf, ww, mch_po H h4 hN hw h01]
  have e3 : F 6 w = vM F 3 w := rfl
  rw [e3]
  by_cases hc : po (vM F) (vS F) N K w = 0 ∨ vM F 3 w = -1
  · rw [if_pos hc, if_pos hc]
  · rw [if_neg hc, if_neg hc]
    obtain ⟨S, hp, hS⟩ := po_set (X := vM F) (A := vS F) (N := N) (w := w) (K := K)
    rcases H w hw with hh | ⟨v, hv, hh⟩
    · exact absurd (Or.inr hh) hc
    · rw [hh, nI_clamp (by omega)]
      generalize po (vM F) (vS F) N K w = p at hp hc
      have e0 : ∀ j, 1 ≤ j → j < 10 → fh (vM F) N w 0 (vS F) 5 j = hio (vM F) N w (nI j) 0 := fun j h1 h2 => fh_5 _ N w 0 _ h1 h2
      have e1 : ∀ j, 1 ≤ j → j < 10 → fh (vM F) N w 1 (fh (vM F) N w 0 (vS F)) 5 j = hio (vM F) N w (nI j) 1 := fun j h1 h2 => fh_5 _ N w 1 _ h1 h2
      generalize fh (vM F) N w 1 (fh (vM F) N w 0 (vS F)) 5 = hs1 at e1 ⊢
      generalize fh (vM F) N w 0 (vS F) 5 = hs0 at e0 ⊢
      have q0 : ∀ j, j < 100 → mwb (vM F) N w v p (nI (j / 100)) (nI (j % 100)) = lw hs0 p (nI j) := fun j hj => by
        rw [Nat.div_eq_of_lt hj, Nat.mod_eq_of_lt hj]
        exact mwb_lw hN hw hh (by omega) e0 hp hS
      have q1 : ∀ j, j < 100 → mwb (vM F) N w v p (nI ((100 + j) / 100)) (nI ((100 + j) % 100)) = lw hs1 p (nI j) := fun j hj => by
        rw [show (100 + j) / 100 = 1 from by omega, show (100 + j) % 100 = j from by omega]
        exact mwb_lw hN hw hh (by omega) e1 hp hS
      have hb := lw_9 (hs := hs0) (force := nI 0) hp hS
      have c1 : ¬ (268435456 : Int32) ≤ lw hs0 p (nI 0) := by
        rw [i32_le, show (268435456 : Int32).toInt = 268435456 from by decide]; omega
      have c2 : ¬ (10 : Int32) ≤ lw hs0 p (nI 0) := by
        rw [i32_le, show (10 : Int32).toInt = 10 from by decide]; omega
      rw [show (200 : Nat) = 199 + 1 from rfl, wfF, q0 0 (by omega), if_neg c1]
      rw [show wwI hs0 p 0 100 0 (-1) 10 = wwI hs0 p 0 99 1 (100 * 0 + nI 0) (lw hs0 p (nI 0)) from by rw [show (100 : Nat) = 99 + 1 from rfl, wwI, if_neg c2]]
      rw [show (100 : Int32) * 0 + nI 0 = nI 0 from by decide]
      rw [show (199 : Nat) = 99 + 100 from rfl, show 0 + 1 = 1 from rfl]
      rw [wfF_ww (hs := hs0) (p := p) (side := 0) 99 100 1 1 _ _ (fun j hj => ⟨by rw [q0 (1 + j) (by omega)], by rw [show (100 : Int32) * 0 = 0 from by decide]; simp⟩)]
      rw [show (100 : Nat) = 100 + 0 from rfl, show 1 + 99 = 100 from rfl]
      rw [wfF_ww (hs := hs1) (p := p) (side := 1) 100 0 100 0 _ _ (fun j hj => ⟨by rw [q1 j hj, Nat.zero_add], by rw [Nat.zero_add, show (100 : Int32) * 1 = nI 100 from by decide, nI_add]⟩)]
      rfl
/-! how likely all stand -/
section OD
variable {X : Nat → Nat → Int32} {V N : Nat}
theorem lifs_0 {h f : Nat} (hh : h ≤ 3000) (hf : f ≤ 99) : lifs (nI h) (nI f) = 0 ↔ 5 * f ≤ h := by
  unfold lifs
  rw [show (5 : Int32) * nI f = nI (5 * f) from pk_mul 5 f]
  by_cases q : h < 5 * f
  · rw [zb_t (nI_lt q (by omega))]
    exact ⟨fun z => absurd z (by decide), fun z => absurd q (by omega)⟩
  · rw [zb_f (nI_nlt (by omega) (by omega))]
    exact ⟨fun _ => by omega, fun _ => rfl⟩
theorem hwF_m (R : RNG X V N) (h4 : V ≤ 4) (hN : N ≤ 5) (side : Int32) : ∀ (n v a : Nat), a ≤ 9 → v + n ≤ V → ∃ m, m ≤ a ∧ hwF X N side n v (nI a) = nI m ∧ ∀ f, f ≤ 9 → (f ≤ m ↔ (f ≤ a ∧ ∀ u, v ≤ u → u < v + n → lifs (hld X N (-1) u side) (nI f) = 0))
  | 0, v, a, ha, _ => ⟨a, Nat.le_refl _, rfl, fun f hf => ⟨fun z => ⟨z, fun u h1 h2 => absurd h2 (by omega)⟩, fun z => z.1⟩⟩
  | n + 1, v, a, ha, hv => by
    obtain ⟨h, h1, h2⟩ := hld_nn R (-1) side (v := v) (by omega) h4 hN
    rw [hwF, h2, stb_n (by omega)]
    have e : jmin (nI a) (nI (if h / 5 < 99 then h / 5 else 99)) = nI (if h / 5 < a then h / 5 else a) := by
      unfold jmin
      by_cases q : h / 5 < 99
      · rw [if_pos q]
        by_cases q2 : h / 5 < a
        · rw [if_pos (nI_lt q2 (by omega)), if_pos q2]
        · rw [if_neg (nI_nlt (by omega) (by omega)), if_neg q2]
      · rw [if_neg q, if_neg (nI_nlt (by omega) (by omega)), if_neg (by omega)]
    rw [e]
    obtain ⟨m, m1, m2, m3⟩ := hwF_m R h4 hN side n (v + 1) (if h / 5 < a then h / 5 else a) (by split <;> omega) (by omega)
    refine ⟨m, Nat.le_trans m1 (by split <;> omega), m2, fun f hf => ?_⟩
    rw [m3 f hf]
    constructor
    · rintro ⟨z1, z2⟩
      have z1 : f ≤ a ∧ 5 * f ≤ h := by
        split at z1 <;> omega
      refine ⟨z1.1, fun u h1 h2' => ?_⟩
      by_cases e : u = v
      · rw [e, h2]; exact (lifs_0 (by omega) (by omega)).mpr z1.2
      · exact z2 u (by omega) (by omega)
    · rintro ⟨z1, z2⟩
      have z3 := z2 v (by omega) (by omega)
      rw [h2, lifs_0 (by omega) (by omega)] at z3
      exact ⟨by split <;> omega, fun u h1 h2 => z2 u (by omega) (by omega)⟩
theorem alF_0 (side force : Int32) : ∀ (n v : Nat) (b : Int32), (alF X N side force n v b = 0 ↔ (b = 0 ∧ ∀ u, v ≤ u → u < v + n → lifs (hld X N (-1) u side) force = 0))
  | 0, v, b => by
    rw [alF]
    exact ⟨fun z => ⟨z, fun u h1 h2 => absurd h2 (by omega)⟩, fun z => z.1⟩
  | n + 1, v, b => by
    rw [alF, alF_0 side force n (v + 1)]
    by_cases hb : b = 0
    · rw [if_neg (fun z => z hb)]
      by_cases hl : lifs (hld X N (-1) v side) force = 0
      · rw [if_pos hl]
        constructor
        · rintro ⟨_, z⟩
          refine ⟨hb, fun u h1 h2 => ?_⟩
          by_cases e : u = v
          · rw [e]; exact hl
          · exact z u (by omega) (by omega)
        · rintro ⟨_, z⟩
          exact ⟨rfl, fun u h1 h2 => z u (by omega) (by omega)⟩
      · rw [if_neg hl]
        exact ⟨fun z => absurd z.1 (by decide), fun z => absurd (z.2 v (by omega) (by omega)) hl⟩
    · rw [if_pos hb]
      exact ⟨fun z => absurd z.1 (by decide), fun z => absurd z.1 hb⟩
theorem gd_hw (R : RNG X V N) (h4 : V ≤ 4) (hN : N ≤ 5) : ∃ gd, 2 ≤ gd ∧ gd ≤ 20 ∧ gdF X V N 10 0 0 = nI gd ∧ hw X V N = nI gd := by
  obtain ⟨m0, a1, a2, a3⟩ := hwF_m R h4 hN 0 V 0 9 (by omega) (by omega)
  obtain ⟨m1, b1, b2, b3⟩ := hwF_m R h4 hN 1 V 0 9 (by omega) (by omega)
  have key : ∀ (n f : Nat), f + n ≤ 10 → gdF X V N n f (nI ((if f ≤ m0 then f else m0 + 1) + (if f ≤ m1 then f else m1 + 1))) = nI ((if f + n ≤ m0 then f + n else m0 + 1) + (if f + n ≤ m1 then f + n else m1 + 1)) := by
    intro n
    induction n with
    | zero => intro f _; rfl
    | succ n ih =>
      intro f hf
      rw [gdF]
      have c0 : alF X N 0 (nI f) V 0 0 = 0 ↔ f ≤ m0 := by
        rw [alF_0, a3 f (by omega)]
        exact ⟨fun z => ⟨by omega, z.2⟩, fun z => ⟨rfl, z.2⟩⟩
      have c1 : alF X N 1 (nI f) V 0 0 = 0 ↔ f ≤ m1 := by
        rw [alF_0, b3 f (by omega)]
        exact ⟨fun z => ⟨by omega, z.2⟩, fun z => ⟨rfl, z.2⟩⟩
      have e0 : (if alF X N 0 (nI f) V 0 0 = 0 then (1 : Int32) else 0) = nI (if f ≤ m0 then 1 else 0) := by
        by_cases q : f ≤ m0
        · rw [if_pos (c0.mpr q), if_pos q]; rfl
        · rw [if_neg (fun z => q (c0.mp z)), if_neg q]; rfl
      have e1 : (if alF X N 1 (nI f) V 0 0 = 0 then (1 : Int32) else 0) = nI (if f ≤ m1 then 1 else 0) := by
        by_cases q : f ≤ m1
        · rw [if_pos (c1.mpr q), if_pos q]; rfl
        · rw [if_neg (fun z => q (c1.mp z)), if_neg q]; rfl
      rw [e0, e1, nI_add, nI_add]
      have e2 : (if f ≤ m0 then f else m0 + 1) + (if f ≤ m1 then f else m1 + 1) + (if f ≤ m0 then 1 else 0) + (if f ≤ m1 then 1 else 0) = (if f + 1 ≤ m0 then f + 1 else m0 + 1) + (if f + 1 ≤ m1 then f + 1 else m1 + 1) := by
        repeat' split
        all_goals omega
      rw [e2, ih (f + 1) (by omega), show f + 1 + n = f + (n + 1) from by omega]
  have k0 := key 10 0 (by omega)
  rw [if_pos (Nat.zero_le _), if_pos (Nat.zero_le _), if_neg (by omega), if_neg (by omega)] at k0
  refine ⟨m0 + 1 + (m1 + 1), by omega, by omega, k0, ?_⟩
  unfold hw
  rw [show (9 : Int32) = nI 9 from rfl, a2, b2, nI_1, nI_1, show (0 : Int32) + nI (m0 + 1) = nI (m0 + 1) from by simp, nI_add]
end OD
theorem odds_ok {gd a : Nat} (h2 : 2 ≤ gd) (h20 : gd ≤ 20) (h1 : 1 ≤ a) (h4 : a ≤ 4) : powF (iltF (nI gd) 20 19) a 1 = nI (gd ^ a / Nat.gcd (gd ^ a) (20 ^ a)) ∧ powF (iltF 20 (nI gd) 19) a 1 = nI (20 ^ a / Nat.gcd (gd ^ a) (20 ^ a)) := by
  have q : ∀ g : Fin 19, ∀ a : Fin 4, powF (iltF (nI (g.val + 2)) 20 19) (a.val + 1) 1 = nI ((g.val + 2) ^ (a.val + 1) / Nat.gcd ((g.val + 2) ^ (a.val + 1)) (20 ^ (a.val + 1))) ∧ powF (iltF 20 (nI (g.val + 2)) 19) (a.val + 1) 1 = nI (20 ^ (a.val + 1) / Nat.gcd ((g.val + 2) ^ (a.val + 1)) (20 ^ (a.val + 1))) := by decide +kernel
  have := q ⟨gd - 2, by omega⟩ ⟨a - 1, by omega⟩
  simp only [Nat.sub_add_cancel h2, Nat.sub_add_cancel h1] at this
  exact this
