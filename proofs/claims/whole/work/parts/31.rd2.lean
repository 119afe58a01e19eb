/-! where a weight is put best -/
theorem up2_ne {F : Nat → Nat → Int32} {a j b i : Nat} {x : Int32} (h : ¬ (b = a ∧ i = j)) : up2 F a j x b i = F b i := by
  unfold up2
  by_cases hb : b = a
  · subst hb
    rw [if_pos rfl, pk_un (fun e => h ⟨rfl, e⟩)]
  · rw [if_neg hb]
section WH
variable {F : Nat → Nat → Int32} {V N w v : Nat}
theorem wh_hld (hN : N ≤ 5) (hw : w < N) (p side : Int32) : hld (vM (up2 (wh1 F w v) 7 w p)) N (-1) v side = hip (vM F) N w v p side := by
  have hZ : ∀ a j, ¬ j = w → vM (up2 (wh1 F w v) 7 w p) a j = vM F a j := fun a j hj => by
    show up2 (up2 (up2 F 6 w (nI v)) 8 w 0) 7 w p (a + 3) j = F (a + 3) j
    rw [up2_ne (fun z => hj z.2), up2_ne (fun z => hj z.2), up2_ne (fun z => hj z.2)]
  rw [hld_at hN hw hZ rfl side (by show up2 (up2 (up2 F 6 w (nI v)) 8 w 0) 7 w p 6 w = nI v; rw [up2_ne (by omega), up2_ne (by omega), up2_at])]
  unfold hip
  have e1 : vM (up2 (wh1 F w v) 7 w p) 1 w = vM F 1 w := by
    show up2 (up2 (up2 F 6 w (nI v)) 8 w 0) 7 w p 4 w = F 4 w
    rw [up2_ne (by omega), up2_ne (by omega), up2_ne (by omega)]
  have e2 : vM (up2 (wh1 F w v) 7 w p) 2 w = vM F 2 w := by
    show up2 (up2 (up2 F 6 w (nI v)) 8 w 0) 7 w p 5 w = F 5 w
    rw [up2_ne (by omega), up2_ne (by omega), up2_ne (by omega)]
  have e4 : vM (up2 (wh1 F w v) 7 w p) 4 w = p := by
    show up2 (up2 (up2 F 6 w (nI v)) 8 w 0) 7 w p 7 w = p
    rw [up2_at]
  have e5 : vM (up2 (wh1 F w v) 7 w p) 5 w = 0 := by
    show up2 (up2 (up2 F 6 w (nI v)) 8 w 0) 7 w p 8 w = 0
    rw [up2_ne (by omega), up2_at]
  rw [e1, e2, e4, e5]
theorem wh_lip (hN : N ≤ 5) (hw : w < N) (p : Int32) : mls (vM (up2 (wh1 F w v) 7 w p)) N v = lip (vM F) N w v p := by
  rw [mls_lst, lst, lip, wh_hld hN hw, wh_hld hN hw]
theorem whF_bp (hN : N ≤ 5) (hw : w < N) : ∀ (n p : Nat) (b g : Int32), (whF (fun p => mls (vM (up2 (wh1 F w v) 7 w (nI p))) N v) n p b g).1 = bpF (vM F) N w v n p b g
  | 0, _, _, _ => rfl
  | n + 1, p, b, g => by
    rw [whF, bpF, wh_lip hN hw]
    by_cases h : lip (vM F) N w v (nI p) ≤ g
    · rw [if_pos h, if_pos h, whF_bp hN hw n]
    · rw [if_neg h, if_neg h, whF_bp hN hw n]
theorem mwh_1 (hN : N ≤ 5) (hw : w < N) : (mwh F N w v).1 = bp (vM F) N w v := whF_bp hN hw 5 0 0 (-1)
theorem whF_2 (hN : N ≤ 5) (hw : w < N) : ∀ (n p : Nat) (b g : Int32), g = lip (vM F) N w v b → (whF (fun p => mls (vM (up2 (wh1 F w v) 7 w (nI p))) N v) n p b g).2 = lip (vM F) N w v (bpF (vM F) N w v n p b g)
  | 0, _, _, _, h => h
  | n + 1, p, b, g, h => by
    rw [whF, bpF, wh_lip hN hw]
    by_cases h1 : lip (vM F) N w v (nI p) ≤ g
    · rw [if_pos h1, if_pos h1, whF_2 hN hw n _ _ _ h]
    · rw [if_neg h1, if_neg h1, whF_2 hN hw n _ _ _ rfl]
end WH
theorem lip_nn {X : Nat → Nat → Int32} {V N w v p : Nat} (R : RNG X V N) (hN : N ≤ 5) (h4 : V ≤ 4) (hw : w < N) (hv : v < V) (hp : p ≤ 4) : ¬ lip X N w v (nI p) ≤ -1 := by
  have key : ∀ side, ∃ h, h ≤ 3200 ∧ hip X N w v (nI p) side = nI h := fun side => by
    obtain ⟨h, h1, h2⟩ := hld_nn R (nI w) side hv h4 hN
    obtain ⟨⟨c, hc4, e1⟩, ⟨o, _, ho, e2⟩, _, _⟩ := R.2 w hw
    obtain ⟨l, h3, h4⟩ := mul_nn (bear_nn (c := c) (o := o) (s := 0) (by omega) (by omega)) (lev_nn hp side)
    refine ⟨h + l, by omega, ?_⟩
    rw [hip, h2, e1, e2, show (0 : Int32) = nI 0 from rfl, h4, nI_add]
  obtain ⟨a, ha, e0⟩ := key 0
  obtain ⟨b, hb, e1⟩ := key 1
  unfold lip jmin
  rw [e0, e1]
  have hm : (-1 : Int32).toInt = -1 := by decide
  split
  · rw [stb_n (by omega), i32_le, hm, nI_toInt (by split <;> omega)]; omega
  · rw [stb_n (by omega), i32_le, hm, nI_toInt (by split <;> omega)]; omega
theorem mwh_2 {F : Nat → Nat → Int32} {V N w v : Nat} (R : RNG (vM F) V N) (hN : N ≤ 5) (h4 : V ≤ 4) (hw : w < N) (hv : v < V) : (mwh F N w v).2 = lip (vM F) N w v (bp (vM F) N w v) := by
  have h0 := lip_nn (p := 0) R hN h4 hw hv (by omega)
  unfold mwh bp
  rw [whF, bpF, wh_lip hN hw, if_neg h0, if_neg h0]
  exact whF_2 hN hw 4 1 _ _ rfl
/-! which one to mend -/
theorem jmin_rc (a b c : Int32) : jmin (jmin a b) c = jmin (jmin a c) b := by
  apply i32_eq
  have t : ∀ x y : Int32, (jmin x y).toInt = if y.toInt < x.toInt then y.toInt else x.toInt := fun x y => by
    unfold jmin
    by_cases h : y < x
    · rw [if_pos h, if_pos (i32_lt.mp h)]
    · rw [if_neg h, if_neg (fun z => h (i32_lt.mpr z))]
  rw [t, t, t, t]
  repeat' split
  all_goals omega
section MD
variable {X : Nat → Nat → Int32} {V N w u : Nat}
theorem lmF_A (hu : X 3 w = nI u) (h4 : V ≤ 4) (huV : u < V) (hX : ∀ v, v < V → ¬ v = u → lst (up2 X 2 w (X 2 w + 1)) N v = lst X N v) : ∀ (n v : Nat) (a : Int32), v + n ≤ V → (∀ j, v ≤ j → j < v + n → ¬ j = u) → lmF X N w n v a = loaF (up2 X 2 w (X 2 w + 1)) N n v a
  | 0, _, _, _, _ => rfl
  | n + 1, v, a, h, hj => by
    rw [lmF, loaF, hu, if_neg (fun q => hj v (by omega) (by omega) ((nI_eq (by omega) (by omega)).mp q)), hX v (by omega) (hj v (by omega) (by omega)), lmF_A hu h4 huV hX n (v + 1) _ (by omega) (fun j h1 h2 => hj j (by omega) (by omega))]
theorem lmF_B (hu : X 3 w = nI u) (h4 : V ≤ 4) (huV : u < V) (hX : ∀ v, v < V → ¬ v = u → lst (up2 X 2 w (X 2 w + 1)) N v = lst X N v) : ∀ (n v : Nat) (a : Int32), v + n ≤ V → v ≤ u → u < v + n → loaF (up2 X 2 w (X 2 w + 1)) N n v a = lmF X N w n v (jmin a (lst (up2 X 2 w (X 2 w + 1)) N u))
  | 0, _, _, _, h1, h2 => absurd h2 (by omega)
  | n + 1, v, a, h, h1, h2 => by
    by_cases hv : v = u
    · rw [lmF, loaF, hu, hv, if_pos rfl, lmF_A hu h4 huV hX n (u + 1) _ (by omega) (fun j h1 h2 => by omega)]
    · rw [lmF, loaF, hu, if_neg (fun q => hv ((nI_eq (by omega) (by omega)).mp q)), lmF_B hu h4 huV hX n (v + 1) _ (by omega) (by omega) (by omega), hX v (by omega) hv, jmin_rc]
theorem lm_mla (hu : X 3 w = nI u) (hw : w < N) (hN : N ≤ 5) (h4 : V ≤ 4) (huV : u < V) : mla (up2 X 2 w (X 2 w + 1)) V N = lm X V N w := by
  have hZ : ∀ a j, ¬ j = w → up2 X 2 w (X 2 w + 1) a j = X a j := fun a j hj => up2_ne (fun z => hj z.2)
  have h3 : up2 X 2 w (X 2 w + 1) 3 w = X 3 w := up2_ne (by omega)
  have hX : ∀ v, v < V → ¬ v = u → lst (up2 X 2 w (X 2 w + 1)) N v = lst X N v := fun v hv hvu => by
    have q : ¬ X 3 w = nI v := fun q => hvu ((nI_eq (by omega) (by omega)).mp (q.symm.trans hu))
    rw [lst, lst, hld_out hZ (up2_ne (by omega)) 0 (by rw [h3]; exact q) q, hld_out hZ (up2_ne (by omega)) 1 (by rw [h3]; exact q) q]
  have hl : ∀ side, hld (up2 X 2 w (X 2 w + 1)) N (-1) u side = hio X N w (X 2 w + 1) side := fun side => by
    rw [hld_at hN hw hZ (up2_ne (by omega)) side (by rw [h3]; exact hu), hio, hu, if_neg (nI_nm1 (by omega)), nI_clamp (by omega), up2_at, up2_ne (by omega), up2_ne (by omega), up2_ne (by omega)]
  rw [mla_loa _ N (by omega), loa, lm, lmF_B hu h4 huV hX V 0 99 (by omega) (by omega) (by omega)]
  congr 1
  have h9 := lst_99 (up2 X 2 w (X 2 w + 1)) N u
  have e : lst (up2 X 2 w (X 2 w + 1)) N u = stb (jmin (hio X N w (X 2 w + 1) 0) (hio X N w (X 2 w + 1) 1)) := by
    rw [lst, hl, hl]
  rw [← e]
  unfold jmin
  have h99 : (99 : Int32).toInt = 99 := by decide
  by_cases q : lst (up2 X 2 w (X 2 w + 1)) N u < 99
  · rw [if_pos q]
  · rw [if_neg q]
    rw [i32_lt] at q
    exact i32_eq (by omega)
end MD
theorem mmF_bm {F : Nat → Nat → Int32} {V N : Nat} (H : HOM (vM F) V N) (hN : N ≤ 5) (h4 : V ≤ 4) : ∀ (n w : Nat) (b g : Int32), w + n ≤ N → mmF F V N n w b g = bmF (vM F) V N n w b g
  | 0, _, _, _, _ => rfl
  | n + 1, w, b, g, h => by
    rw [mmF, bmF]
    rcases H w (by omega) with h1 | ⟨u, hu, h1⟩
    · rw [if_pos (show F 6 w = -1 ∨ _ from Or.inl h1), if_pos (Or.inl h1), mmF_bm H hN h4 n _ _ _ (by omega)]
    · have e : mla (vM (up2 F 5 w (F 5 w + 1))) V N = lm (vM F) V N w := by
        rw [vM_up F 2 w]
        exact lm_mla h1 (by omega) hN h4 hu
      rw [e, show F 6 w = vM F 3 w from rfl, show F 5 w = vM F 2 w from rfl, mmF_bm H hN h4 n _ _ _ (by omega), mmF_bm H hN h4 n _ _ _ (by omega)]
theorem mmd_bm {F : Nat → Nat → Int32} {V N : Nat} (H : HOM (vM F) V N) (hN : N ≤ 5) (h4 : V ≤ 4) (hV : 0 < V) : mmd F V N = bm (vM F) V N := by
  rw [mmd, bm, mla_loa _ N hV, mmF_bm H hN h4 N 0 _ _ (by omega)]
