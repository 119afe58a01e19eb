/-! two tables that are alike where it counts -/
def EQV (X Y : Nat → Nat → Int32) (V N : Nat) : Prop := (∀ v, v < V → X 0 v = Y 0 v) ∧ ∀ k, k < N → X 1 k = Y 1 k ∧ X 2 k = Y 2 k ∧ X 3 k = Y 3 k ∧ X 4 k = Y 4 k ∧ X 5 k = Y 5 k
def HOM (X : Nat → Nat → Int32) (V N : Nat) : Prop := ∀ k, k < N → X 3 k = -1 ∨ ∃ v, v < V ∧ X 3 k = nI v
section EQ
variable {X Y : Nat → Nat → Int32} {V N : Nat}
theorem hldF_c (E : EQV X Y V N) (left vv side : Int32) : ∀ (n k : Nat) (acc : Int32), k + n ≤ N → hldF X left vv side n k acc = hldF Y left vv side n k acc
  | 0, _, _, _ => rfl
  | n + 1, k, acc, h => by
    obtain ⟨e1, e2, e3, e4, e5⟩ := E.2 k (by omega)
    rw [hldF, hldF, e1, e2, e3, e4, e5, hldF_c E left vv side n (k + 1) _ (by omega)]
theorem hld_c (E : EQV X Y V N) (left side : Int32) {v : Nat} (hv : v < V) : hld X N left v side = hld Y N left v side := by
  rw [hld, hld, E.1 v hv, hldF_c E left _ side N 0 _ (by omega)]
theorem lst_c (E : EQV X Y V N) {v : Nat} (hv : v < V) : lst X N v = lst Y N v := by
  rw [lst, lst, hld_c E _ _ hv, hld_c E _ _ hv]
theorem hio_c (E : EQV X Y V N) (H : HOM X V N) (h4 : V ≤ 4) {w : Nat} (hw : w < N) (heavy side : Int32) : hio X N w heavy side = hio Y N w heavy side := by
  obtain ⟨e1, e2, e3, e4, e5⟩ := E.2 w hw
  rw [hio, hio, e1, e4, e5, ← e3]
  rcases H w hw with h | ⟨v, hv, h⟩
  · rw [if_pos h, if_pos h]
  · rw [h, if_neg (nI_nm1 (by omega)), if_neg (nI_nm1 (by omega)), nI_clamp (by omega), hld_c E _ _ hv]
theorem hip_c (E : EQV X Y V N) {w v : Nat} (hw : w < N) (hv : v < V) (p side : Int32) : hip X N w v p side = hip Y N w v p side := by
  obtain ⟨e1, e2, e3, e4, e5⟩ := E.2 w hw
  rw [hip, hip, e1, e2, hld_c E _ _ hv]
theorem lip_c (E : EQV X Y V N) {w v : Nat} (hw : w < N) (hv : v < V) (p : Int32) : lip X N w v p = lip Y N w v p := by
  rw [lip, lip, hip_c E hw hv, hip_c E hw hv]
theorem bpF_c (E : EQV X Y V N) {w v : Nat} (hw : w < N) (hv : v < V) : ∀ (n p : Nat) (b g : Int32), bpF X N w v n p b g = bpF Y N w v n p b g
  | 0, _, _, _ => rfl
  | n + 1, p, b, g => by rw [bpF, bpF, lip_c E hw hv, bpF_c E hw hv n, bpF_c E hw hv n]
theorem bp_c (E : EQV X Y V N) {w v : Nat} (hw : w < N) (hv : v < V) : bp X N w v = bp Y N w v := bpF_c E hw hv 5 0 0 (-1)
theorem loaF_c (E : EQV X Y V N) : ∀ (n v : Nat) (a : Int32), v + n ≤ V → loaF X N n v a = loaF Y N n v a
  | 0, _, _, _ => rfl
  | n + 1, v, a, h => by rw [loaF, loaF, lst_c E (by omega), loaF_c E n (v + 1) _ (by omega)]
theorem loa_c (E : EQV X Y V N) : loa X V N = loa Y V N := loaF_c E V 0 99 (by omega)
theorem lmF_c (E : EQV X Y V N) {w : Nat} (hw : w < N) : ∀ (n v : Nat) (a : Int32), v + n ≤ V → lmF X N w n v a = lmF Y N w n v a
  | 0, _, _, _ => rfl
  | n + 1, v, a, h => by rw [lmF, lmF, lst_c E (by omega), (E.2 w hw).2.2.1, lmF_c E hw n (v + 1) _ (by omega)]
theorem lm_c (E : EQV X Y V N) (H : HOM X V N) (h4 : V ≤ 4) {w : Nat} (hw : w < N) : lm X V N w = lm Y V N w := by
  rw [lm, lm, (E.2 w hw).2.1, hio_c E H h4 hw, hio_c E H h4 hw, lmF_c E hw V 0 _ (by omega)]
theorem bmF_c (E : EQV X Y V N) (H : HOM X V N) (h4 : V ≤ 4) : ∀ (n w : Nat) (b g : Int32), w + n ≤ N → bmF X V N n w b g = bmF Y V N n w b g
  | 0, _, _, _, _ => rfl
  | n + 1, w, b, g, h => by rw [bmF, bmF, lm_c E H h4 (by omega), (E.2 w (by omega)).2.2.1, (E.2 w (by omega)).2.1, bmF_c E H h4 n _ _ _ (by omega), bmF_c E H h4 n _ _ _ (by omega)]
theorem bm_c (E : EQV X Y V N) (H : HOM X V N) (h4 : V ≤ 4) : bm X V N = bm Y V N := by
  rw [bm, bm, loa_c E, bmF_c E H h4 N 0 _ _ (by omega)]
theorem hwF_c (E : EQV X Y V N) (side : Int32) : ∀ (n v : Nat) (a : Int32), v + n ≤ V → hwF X N side n v a = hwF Y N side n v a
  | 0, _, _, _ => rfl
  | n + 1, v, a, h => by rw [hwF, hwF, hld_c E _ _ (by omega), hwF_c E side n (v + 1) _ (by omega)]
theorem hw_c (E : EQV X Y V N) : hw X V N = hw Y V N := by
  rw [hw, hw, hwF_c E 0 V 0 _ (by omega), hwF_c E 1 V 0 _ (by omega)]
theorem wiF_c (E : EQV X Y V N) (vv : Int32) : ∀ (n k : Nat) (a : Int32), k + n ≤ N → wiF X vv n k a = wiF Y vv n k a
  | 0, _, _, _ => rfl
  | n + 1, k, a, h => by rw [wiF, wiF, (E.2 k (by omega)).2.2.1, wiF_c E vv n (k + 1) _ (by omega)]
theorem wi_c (E : EQV X Y V N) (vv : Int32) : wi X N vv = wi Y N vv := wiF_c E vv N 0 0 (by omega)
theorem ozF_c (E : EQV X Y V N) (vv : Int32) : ∀ (n k : Nat) (a : Int32), k + n ≤ N → ozF X vv n k a = ozF Y vv n k a
  | 0, _, _, _ => rfl
  | n + 1, k, a, h => by rw [ozF, ozF, (E.2 k (by omega)).2.2.1, (E.2 k (by omega)).2.1, ozF_c E vv n (k + 1) _ (by omega)]
theorem oz_c (E : EQV X Y V N) (vv : Int32) : oz X N vv = oz Y N vv := ozF_c E vv N 0 0 (by omega)
theorem oaF_c (E : EQV X Y V N) : ∀ (n k : Nat) (a : Int32), k + n ≤ N → oaF X n k a = oaF Y n k a
  | 0, _, _, _ => rfl
  | n + 1, k, a, h => by rw [oaF, oaF, (E.2 k (by omega)).2.1, oaF_c E n (k + 1) _ (by omega)]
theorem oa_c (E : EQV X Y V N) : oa X N = oa Y N := oaF_c E N 0 0 (by omega)
theorem lbF_c (E : EQV X Y V N) (side force : Int32) : ∀ (n v : Nat) (a : Int32), v + n ≤ V → lbF X N side force n v a = lbF Y N side force n v a
  | 0, _, _, _ => rfl
  | n + 1, v, a, h => by rw [lbF, lbF, hld_c E _ _ (by omega), lbF_c E side force n (v + 1) _ (by omega)]
end EQ
/-! what was seen, alike -/
def EQS (A B : Nat → Nat → Int32) (K : Nat) : Prop := ∀ i, i < K → A 1 i = B 1 i ∧ A 2 i = B 2 i ∧ A 3 i = B 3 i ∧ A 4 i = B 4 i
section EQ2
variable {X Y A B : Nat → Nat → Int32} {V N K : Nat}
theorem poI_c (E : EQV X Y V N) (H : HOM X V N) (h4 : V ≤ 4) {w : Nat} (hw : w < N) (side force lf : Int32) : ∀ (n h : Nat) (b : Int32), poI X N w side force lf n h b = poI Y N w side force lf n h b
  | 0, _, _ => rfl
  | n + 1, h, b => by rw [poI, poI, hio_c E H h4 hw, poI_c E H h4 hw side force lf n]
theorem poF_c (E : EQV X Y V N) (H : HOM X V N) (h4 : V ≤ 4) (S : EQS A B K) {w : Nat} (hw : w < N) : ∀ (n i : Nat) (b : Int32), i + n ≤ K → poF X A N w n i b = poF Y B N w n i b
  | 0, _, _, _ => rfl
  | n + 1, i, b, h => by
    obtain ⟨s1, s2, s3, s4⟩ := S i (by omega)
    rw [poF, poF, s1, s2, s3, s4, poI_c E H h4 hw, poF_c E H h4 S hw n (i + 1) _ (by omega)]
theorem po_c (E : EQV X Y V N) (H : HOM X V N) (h4 : V ≤ 4) (S : EQS A B K) {w : Nat} (hw : w < N) : po X A N K w = po Y B N K w := by
  rw [po, po, (E.2 w hw).2.2.1, poF_c E H h4 S hw K 0 _ (by omega)]
theorem fh_5 (X : Nat → Nat → Int32) (N w : Nat) (side : Int32) (SF : Nat → Nat → Int32) {j : Nat} (h1 : 1 ≤ j) (h2 : j < 10) : fh X N w side SF 5 j = hio X N w (nI j) side := by
  rw [fh, fhF_5, if_pos ⟨h1, by omega⟩]
theorem ww_c (E : EQV X Y V N) (H : HOM X V N) (h4 : V ≤ 4) (S : EQS A B K) {w : Nat} (hw : w < N) : ww X A N K w = ww Y B N K w := by
  rw [ww, ww, po_c E H h4 S hw, (E.2 w hw).2.2.1]
  have e0 : ∀ j, 1 ≤ j → j < 10 → fh X N w 0 A 5 j = fh Y N w 0 B 5 j := fun j h1 h2 => by
    exact (fh_5 X N w 0 A h1 h2).trans ((hio_c E H h4 hw _ _).trans (fh_5 Y N w 0 B h1 h2).symm)
  have e1 : ∀ j, 1 ≤ j → j < 10 → fh X N w 1 (fh X N w 0 A) 5 j = fh Y N w 1 (fh Y N w 0 B) 5 j := fun j h1 h2 => by
    exact (fh_5 X N w 1 _ h1 h2).trans ((hio_c E H h4 hw _ _).trans (fh_5 Y N w 1 _ h1 h2).symm)
  rw [wwI_congr _ 0 e0, wwI_congr _ 1 e1]
end EQ2
/-! the least of two -/
theorem i32_le {a b : Int32} : a ≤ b ↔ a.toInt ≤ b.toInt := Int32.le_iff_toInt_le
theorem i32_lt {a b : Int32} : a < b ↔ a.toInt < b.toInt := Int32.lt_iff_toInt_lt
theorem i32_eq {a b : Int32} (h : a.toInt = b.toInt) : a = b := Int32.toInt_inj.mp h
theorem td5 (x : Int) : (0 ≤ x ∧ x.tdiv 5 = x / 5) ∨ (x < 0 ∧ x.tdiv 5 = -((-x) / 5)) := by
  by_cases h : 0 ≤ x
  · exact Or.inl ⟨h, Int.tdiv_eq_ediv_of_nonneg h⟩
  · refine Or.inr ⟨by omega, ?_⟩
    have := Int.neg_tdiv (-x) 5
    rw [Int.neg_neg] at this
    rw [this, Int.tdiv_eq_ediv_of_nonneg (by omega)]
theorem div5_t (a : Int32) : (a / 5).toInt = a.toInt.tdiv 5 := by
  rw [Int32.toInt_div]
  have h5 : (5 : Int32).toInt = 5 := by decide
  rw [h5]
  have h1 := Int32.toInt_lt a
  have h2 := Int32.le_toInt a
  apply Int.bmod_eq_of_le
  · rcases td5 a.toInt with ⟨_, e⟩ | ⟨_, e⟩ <;> omega
  · rcases td5 a.toInt with ⟨_, e⟩ | ⟨_, e⟩ <;> omega
theorem stb_t (a : Int32) : (stb a).toInt = if a.toInt.tdiv 5 < 99 then a.toInt.tdiv 5 else 99 := by
  unfold stb
  have h99 : (99 : Int32).toInt = 99 := by decide
  by_cases h : a / 5 < 99
  · rw [if_pos h, div5_t]
    rw [i32_lt, div5_t, h99] at h
    rw [if_pos h]
  · rw [if_neg h]
    rw [i32_lt, div5_t, h99] at h
    rw [if_neg h, h99]
theorem mls_lst (X : Nat → Nat → Int32) (N v : Nat) : mls X N v = lst X N v := by
  unfold mls lst jmin
  apply i32_eq
  generalize hld X N (-1) v 0 = a
  generalize hld X N (-1) v 1 = b
  by_cases h : b < a
  · rw [if_pos h]
    rw [i32_lt] at h
    have ht : b.toInt.tdiv 5 ≤ a.toInt.tdiv 5 := by rcases td5 a.toInt with ⟨_, e⟩ | ⟨_, e⟩ <;> rcases td5 b.toInt with ⟨_, e2⟩ | ⟨_, e2⟩ <;> omega
    by_cases h2 : stb b ≤ stb a
    · rw [if_pos h2]
    · exfalso
      rw [i32_le, stb_t, stb_t] at h2
      apply h2
      split <;> split <;> omega
  · rw [if_neg h]
    rw [i32_lt] at h
    have ht : a.toInt.tdiv 5 ≤ b.toInt.tdiv 5 := by rcases td5 a.toInt with ⟨_, e⟩ | ⟨_, e⟩ <;> rcases td5 b.toInt with ⟨_, e2⟩ | ⟨_, e2⟩ <;> omega
    by_cases h2 : stb b ≤ stb a
    · rw [if_pos h2]
      rw [i32_le] at h2
      rw [stb_t, stb_t] at h2 ⊢
      revert h2
      split <;> split <;> omega
    · rw [if_neg h2]
theorem lst_99 (X : Nat → Nat → Int32) (N v : Nat) : (lst X N v).toInt ≤ 99 := by
  unfold lst
  rw [stb_t]
  split <;> omega
theorem jmin_le {a b : Int32} : (if a ≤ b then a else b) = jmin a b := by
  unfold jmin
  by_cases h : b < a
  · rw [if_pos h, if_neg (by rw [i32_le]; rw [i32_lt] at h; omega)]
  · rw [if_neg h, if_pos (by rw [i32_le]; rw [i32_lt] at h; omega)]
theorem mlaF_loaF (X : Nat → Nat → Int32) (N : Nat) : ∀ (n v : Nat) (a : Int32), mlaF X N n v a = loaF X N n v a
  | 0, _, _ => rfl
  | n + 1, v, a => by rw [mlaF, loaF, mls_lst, jmin_le, mlaF_loaF X N n]
theorem mla_loa (X : Nat → Nat → Int32) {V : Nat} (N : Nat) (hV : 0 < V) : mla X V N = loa X V N := by
  unfold mla loa
  rw [if_neg (by omega)]
  match V, hV with
  | V + 1, _ =>
    rw [mlaF_loaF, loaF, loaF]
    congr 1
    have h := lst_99 X N 0
    unfold jmin
    have e1 : (99 : Int32).toInt = 99 := by decide
    have e2 : (268435456 : Int32).toInt = 268435456 := by decide
    rw [if_pos (by rw [i32_lt, e2]; omega)]
    by_cases q : lst X N 0 < 99
    · rw [if_pos q]
    · rw [if_neg q]
      rw [i32_lt] at q
      exact i32_eq (by omega)
