/-! the calls that change the table -/
section CG
variable {n : Nat} {h l s pg il is g g' : Nat → Int32} {LF SF PF ILF ISF F F' : Nat → Nat → Int32} {V N L K : Nat}
theorem RLd.gg (r : RLd l LF g F V N) (h1 : g' 1 = g 1) (h2 : g' 2 = g 2) (h9 : g' 9 = g 9) (h10 : g' 10 = g 10) (h11 : g' 11 = g 11) : RLd l LF g' F V N := by
  unfold RLd MOK at *
  rw [h1, h2, h9, h10, h11]
  exact r
theorem RS.gg (r : RS s SF g F K) (h : g' 13 = g 13) : RS s SF g' F K := by
  unfold RS at *
  rw [h]
  exact r
theorem RP.gg (r : RP pg PF g F L) (h : g' 18 = g 18) : RP pg PF g' F L := by
  unfold RP at *
  rw [h]
  exact r
theorem RC.gg (r : RC n h g) (h0 : g' 0 = g 0) (h12 : g' 12 = g 12) : RC n h g' := by
  unfold RC at *
  rw [h0, h12]
  exact r
theorem RI.gg (r : RI n h il ILF is ISF g F V N) (h0 : g' 0 = g 0) (h34 : g' 34 = g 34) (h35 : g' 35 = g 35) (h36 : g' 36 = g 36) (h37 : g' 37 = g 37) (h38 : g' 38 = g 38) (h39 : g' 39 = g 39) : RI n h il ILF is ISF g' F V N := by
  unfold RI at *
  rw [h0, h34, h35, h36, h37, h38, h39]
  exact r
theorem RS.f (r : RS s SF g F K) (hF : ∀ a, 14 ≤ a → a ≤ 17 → F' a = F a) : RS s SF g F' K := by
  obtain ⟨r1, r2, r3, r4, r5⟩ := r
  refine ⟨r1, r2, r3, fun i hi => ?_, fun i hi => by rw [hF 17 (by omega) (by omega)]; exact r5 i hi⟩
  show SF 1 i = F' 14 i ∧ SF 2 i = F' 15 i ∧ SF 3 i = F' 16 i ∧ SF 4 i = F' 17 i
  rw [hF 14 (by omega) (by omega), hF 15 (by omega) (by omega), hF 16 (by omega) (by omega), hF 17 (by omega) (by omega)]
  exact r4 i hi
theorem RP.f (r : RP pg PF g F L) (hF : F' 19 = F 19) : RP pg PF g F' L := by
  unfold RP at *
  rw [hF]
  exact r
theorem RI.f (r : RI n h il ILF is ISF g F V N) (h4 : F' 4 = F 4) (hF : ∀ a, 40 ≤ a → a ≤ 48 → F' a = F a) : RI n h il ILF is ISF g F' V N := by
  have eI : ∀ a, a ≤ 5 → vI F' a = vI F a := fun a ha => by
    unfold vI
    by_cases e0 : a = 0
    · rw [if_pos e0, if_pos e0, hF 40 (by omega) (by omega)]
    · rw [if_neg e0, if_neg e0]
      by_cases e1 : a = 1
      · rw [if_pos e1, if_pos e1, h4]
      · rw [if_neg e1, if_neg e1, hF (39 + a) (by omega) (by omega)]
  rcases r with r | ⟨r1, r2, r3, r4, r5, r6, r7, r8, r9, r10, K, k1, k2, k3, k4, k5⟩
  · exact Or.inl r
  · refine Or.inr ⟨r1, r2, r3, r4, r5, r6.r eI, r7.r eI, r8, r9, r10, K, k1, k2, k3, fun i hi => ?_, fun i hi => by rw [hF 48 (by omega) (by omega)]; exact k5 i hi⟩
    show ISF 1 i = F' 45 i ∧ ISF 2 i = F' 46 i ∧ ISF 3 i = F' 47 i ∧ ISF 4 i = F' 48 i
    rw [hF 45 (by omega) (by omega), hF 46 (by omega) (by omega), hF 47 (by omega) (by omega), hF 48 (by omega) (by omega)]
    exact k4 i hi
end CG
theorem scF_c {lt lt' : Nat → Int32} : ∀ (n i : Nat) (pg : Nat → Int32), (∀ j, i ≤ j → j < i + n → lt j = lt' j) → scF lt n i pg = scF lt' n i pg
  | 0, _, _, _ => rfl
  | n + 1, i, pg, h => by
    rw [scF, scF, h i (by omega) (by omega), scF_c n (i + 1) _ (fun j a b => h j (by omega) (by omega))]
theorem dgt_c {lt lt' : Nat → Int32} {L : Nat} (h : ∀ j, j < L → lt j = lt' j) (a : Nat) : dgt lt L a = dgt lt' L a := by
  unfold dgt
  split
  · rename_i q; rw [h a q]
  · rfl
theorem kat_c {lt lt' : Nat → Int32} {L : Nat} (h : ∀ j, j < L → lt j = lt' j) (a : Nat) : kat lt L a = kat lt' L a := by
  unfold kat
  split
  · rename_i q; rw [h a q]
  · rfl
theorem rdB_c {lt lt' : Nat → Int32} {L : Nat} (h : ∀ j, j < L → lt j = lt' j) : ∀ (n k : Nat) (LF : Nat → Nat → Int32), rdB lt L n k LF = rdB lt' L n k LF
  | 0, _, _ => rfl
  | n + 1, k, LF => by rw [rdB, rdB, dgt_c h, rdB_c h n]
theorem rdW_c {lt lt' : Nat → Int32} {L V : Nat} (h : ∀ j, j < L → lt j = lt' j) : ∀ (n k : Nat) (LF : Nat → Nat → Int32), rdW lt L V n k LF = rdW lt' L V n k LF
  | 0, _, _ => rfl
  | n + 1, k, LF => by rw [rdW, rdW, kat_c h, dgt_c h, dgt_c h, dgt_c h, rdW_c h n]
section OPB
variable {n : Nat} {wc wm : List Ce}
theorem op_fault (H : RW n wc wm) : OP n yX4_fault cX4_fault [some (.ref 0)] yX5_fault cX5_fault [some (.ref 0)] (some .int) wc wm := by
  obtain ⟨h, pg, PF, l, LF, s, SF, il, ILF, is, ISF, t, TF, k, KF, g, G, F, V, N, L, K, rfl, rfl, r1, r2, r3, r4, r5⟩ := H
  obtain ⟨p1, p2, p3, p4⟩ := r3
  have hP : ∀ j, j < L → ∃ n, n < 128 ∧ PF 0 j = nI n := fun j hj => by
    obtain ⟨q, _, q2, q3, _⟩ := p4 j hj; exact ⟨q, by omega, q3⟩
  have hF : ∀ j, j < L → ∃ n, n < 128 ∧ F 19 j = nI n := fun j hj => by
    obtain ⟨q, _, q2, _, q4⟩ := p4 j hj; exact ⟨q, by omega, q4⟩
  have hPF : ∀ j, j < L → PF 0 j = F 19 j := fun j hj => by
    obtain ⟨q, _, _, q3, q4⟩ := p4 j hj; rw [q3, q4]
  have O := page_out (g := g) hF p1
  have e : sc (PF 0) L pg = sc (F 19) L pg := scF_c L 0 _ (fun j _ hj => hPF j (by omega))
  have hC : Ev 12 yX4_fault cX4_fault (some .int) 0 [some (.ref 0)] [] (clsW h pg PF l LF s SF il ILF is ISF t TF k KF) (Is (some (.int (nI (rd (F 19) L g).1))) (clsW h (sc (PF 0) L pg).2 PF l LF s SF il ILF is ISF t TF k KF)) := by
    rw [← O.1, ← e]; exact c_fault p1 p3 hP
  refine OP.go hC (m_fault p2 p3) ⟨h, _, PF, l, LF, s, SF, il, ILF, is, ISF, t, TF, k, KF, _, G, F, V, N, L, K, rfl, rfl, r1.gg (rd_g (by decide) (by decide) (by decide)) (rd_g (by decide) (by decide) (by decide)) (rd_g (by decide) (by decide) (by decide)) (rd_g (by decide) (by decide) (by decide)) (rd_g (by decide) (by decide) (by decide)), r2.gg (rd_g (by decide) (by decide) (by decide)), ⟨by rw [e]; exact O.2.1, (rd_g (by decide) (by decide) (by decide)).trans p2, p3, p4⟩, r4.up.gg (rd_g (by decide) (by decide) (by decide)) (rd_g (by decide) (by decide) (by decide)), r5.up.gg (rd_g (by decide) (by decide) (by decide)) (rd_g (by decide) (by decide) (by decide)) (rd_g (by decide) (by decide) (by decide)) (rd_g (by decide) (by decide) (by decide)) (rd_g (by decide) (by decide) (by decide)) (rd_g (by decide) (by decide) (by decide)) (rd_g (by decide) (by decide) (by decide))⟩
theorem op_table (hn : n < 100000) (H : RW n wc wm) : OP n yX4_table cX4_table [some (.ref 0)] yX5_table cX5_table [some (.ref 0), none, none] (some .int) wc wm := by
  obtain ⟨h, pg, PF, l, LF, s, SF, il, ILF, is, ISF, t, TF, k, KF, g, G, F, V, N, L, K, rfl, rfl, r1, r2, r3, r4, r5⟩ := H
  obtain ⟨p1, p2, p3, p4⟩ := r3
  have hP : ∀ j, j < L → ∃ n, n < 128 ∧ PF 0 j = nI n := fun j hj => by
    obtain ⟨q, _, q2, q3, _⟩ := p4 j hj; exact ⟨q, by omega, q3⟩
  have hF : ∀ j, j < L → ∃ n, n < 128 ∧ F 19 j = nI n := fun j hj => by
    obtain ⟨q, _, q2, _, q4⟩ := p4 j hj; exact ⟨q, by omega, q4⟩
  have hPF : ∀ j, j < L → PF 0 j = F 19 j := fun j hj => by
    obtain ⟨q, _, _, q3, q4⟩ := p4 j hj; rw [q3, q4]
  have O := page_out (g := g) hF p1
  have e : sc (PF 0) L pg = sc (F 19) L pg := scF_c L 0 _ (fun j _ hj => hPF j (by omega))
  rcases O.2.2.2 with ⟨o1, o2⟩ | ⟨o1, o2, o3, V1, N1, v1, v2, v3, v4, TB⟩
  · refine OP.go (c_table_s p1 p3 hP (fun z => o1 ?_)) (m_table_s p2 p3 o2) ⟨h, _, PF, l, LF, s, SF, il, ILF, is, ISF, t, TF, k, KF, _, G, F, V, N, L, K, rfl, rfl, r1.gg (rd_g (by decide) (by decide) (by decide)) (rd_g (by decide) (by decide) (by decide)) (rd_g (by decide) (by decide) (by decide)) (rd_g (by decide) (by decide) (by decide)) (rd_g (by decide) (by decide) (by decide)), r2.gg (rd_g (by decide) (by decide) (by decide)), ⟨by rw [e]; exact O.2.1, (rd_g (by decide) (by decide) (by decide)).trans p2, p3, p4⟩, r4.up.gg (rd_g (by decide) (by decide) (by decide)) (rd_g (by decide) (by decide) (by decide)), r5.up.gg (rd_g (by decide) (by decide) (by decide)) (rd_g (by decide) (by decide) (by decide)) (rd_g (by decide) (by decide) (by decide)) (rd_g (by decide) (by decide) (by decide)) (rd_g (by decide) (by decide) (by decide)) (rd_g (by decide) (by decide) (by decide)) (rd_g (by decide) (by decide) (by decide))⟩
    rw [e] at z
    exact ⟨z.1.trans O.2.1, z.2⟩
  · have h41 : V1 ≤ 4 := TB.2.2.1
    have h51 : N1 ≤ 5 := TB.2.2.2.2.1
    obtain ⟨⟨T, t1, t2, t3⟩, cP⟩ := r4
    have hg0 : (rd (F 19) L g).2 0 = nI T := (rd_g (by decide) (by decide) (by decide)).trans t3
    have hg34 : (rd (F 19) L g).2 34 = g 34 := rd_g (by decide) (by decide) (by decide)
    have hg35 : (rd (F 19) L g).2 35 = g 35 := rd_g (by decide) (by decide) (by decide)
    have hg12 : (rd (F 19) L g).2 12 = g 12 := rd_g (by decide) (by decide) (by decide)
    refine OP.go (c_table_k p1 p3 hP (by rw [e]; exact ⟨o1.trans O.2.1.symm, o2⟩) (by rw [e]; exact v1) h41 (by rw [e]; exact v2) h51 (by rw [e]; exact O.2.1)) (m_table_k p2 p3 o3 v3 h41 v4 h51 hg0) ⟨_, _, PF, _, _, _, SF, il, ILF, is, ISF, t, TF, k, KF, _, G, _, V1, N1, 0, 0, rfl, rfl, ?_, ⟨rfl, rfl, by omega, fun i hi => absurd hi (by omega), fun i hi => absurd hi (by omega)⟩, ⟨rfl, rfl, by omega, fun j hj => absurd hj (by omega)⟩, ⟨⟨T + 1, by omega, ?_, ?_⟩, ?_⟩, Or.inl ⟨rfl, ?_⟩⟩
    · refine RLd.mk (cl4 h41) (cl5 h51) rfl rfl h41 h51 ?_ (tab_R TB F) ⟨0, by omega, rfl, rfl⟩ rfl rfl
      rw [rdW_c hPF, rdB_c hPF]
      exact tab_E hF TB LF F
    · show h 8 + 1 = nI (T + 1)
      rw [t2, nI_1]
    · show nI T + 1 = nI (T + 1)
      rw [nI_1]
    · show ∃ P, P ≤ 20 ∧ h 9 = nI P ∧ (rd (F 19) L g).2 12 = nI P
      rw [hg12]; exact cP
    · show (rd (F 19) L g).2 34 = 0 ∨ ((rd (F 19) L g).2 34 = 1 ∧ ∃ T0 T1, T0 < T1 ∧ T1 ≤ n + 1 ∧ (rd (F 19) L g).2 35 = nI T0 ∧ nI T + 1 = nI T1)
      rw [hg34, hg35]
      rcases r5 with ⟨_, q | ⟨q, T0, T1, q1, q2, q3, q4⟩⟩ | ⟨_, q2, q3, _⟩
      · exact Or.inl q
      · exact Or.inr ⟨q, T0, T + 1, by
          have : T = T1 := (nI_eq (by omega) (by omega)).mp (t3.symm.trans q4)
          omega, by omega, q3, nI_1 T⟩
      · exact Or.inr ⟨q2, T, T + 1, by omega, by omega, q3.trans t3, nI_1 T⟩
theorem op_blow (x y : Int32) (H : RW n wc wm) : OP n yX4_blow cX4_blow [some (.ref 0), some (.int x), some (.int y)] yX5_blow cX5_blow [some (.ref 0), some (.int x), some (.int y)] (some .int) wc wm := by
  have H1 := H.up
  obtain ⟨h, pg, PF, l, LF, s, SF, il, ILF, is, ISF, t, TF, k, KF, g, G, F, V, N, L, K, rfl, rfl, r1, r2, r3, r4, r5⟩ := H
  obtain ⟨okC, okM, E, R, ⟨W, w1, w2, w3⟩, h9, h10⟩ := r1
  by_cases hw : ∃ a b, a < 2 ∧ b < 100 ∧ x = nI a ∧ y = nI b
  · obtain ⟨a, b, ha, hb, rfl, rfl⟩ := hw
    by_cases hV : V = 0
    · subst hV
      exact OP.go (c_blow_s okC ha hb) (m_blow_s okM ha hb) H1
    · by_cases hW : W = 999
      · subst hW
        exact OP.go (c_blow_f okC (by omega) (by rw [w2]; exact nI_nlt (b := 999) (Nat.le_refl _) (by decide)) ha hb) (m_blow_f okM (by omega) w3 ha hb) H1
      · have hl : l 8 < 999 := by rw [w2]; exact nI_lt (b := 999) (by omega) (by decide)
        have hg : ¬ g 9 = 999 := by rw [w3]; exact fun z => hW ((nI_eq (b := 999) (by omega) (by decide)).mp z)
        obtain ⟨a1, a2, a3, a4, a5⟩ := wind_l (l := l) (g := upd g 9 (g 9 + 1)) E okM.2.2.1 (nI a) (nI b) h10 h9
        have hC := c_blow_k (d := 9) (h := h) (pg := pg) (PF := PF) (s := s) (SF := SF) (il := il) (ILF := ILF) (is := is) (ISF := ISF) (t := t) (TF := TF) (k := k) (KF := KF) okC (by omega) hl ha hb
        rw [show bitc (tkB LF V N (nI a) (nI b)) = siz (mwB F V N (nI a) (nI b)) from by rw [bits_eq E, bits_sz okM.2.2.1]] at hC
        refine OP.go hC (m_blow_k okM (by omega) hg ha hb) ⟨h, pg, PF, _, _, s, SF, il, ILF, is, ISF, t, TF, k, KF, _, G, _, V, N, L, K, rfl, rfl, RLd.mk ((a4 0 (by omega)).trans okC.1) ((a4 1 (by omega)).trans okC.2.1) ((a5 1 (by decide) (by decide)).trans okM.1) ((a5 2 (by decide) (by decide)).trans okM.2.1) okM.2.2.1 okM.2.2.2.1 (wind_E E _ _) (wind_R E R _ _) ⟨W + 1, by omega, by rw [a3, w2, nI_1], by rw [a5 9 (by decide) (by decide), pk_us, w3, nI_1]⟩ a2 a1, (r2.gg (g' := mwG (upd g 9 (g 9 + 1)) F V N (nI a) (nI b)) (a5 13 (by decide) (by decide))).f (fun c _ _ => mwF_row (by omega)), (r3.gg (g' := mwG (upd g 9 (g 9 + 1)) F V N (nI a) (nI b)) (a5 18 (by decide) (by decide))).f (mwF_row (by omega)), r4.up.gg (a5 0 (by decide) (by decide)) (a5 12 (by decide) (by decide)), (r5.up.gg (g' := mwG (upd g 9 (g 9 + 1)) F V N (nI a) (nI b)) (a5 0 (by decide) (by decide)) (a5 34 (by decide) (by decide)) (a5 35 (by decide) (by decide)) (a5 36 (by decide) (by decide)) (a5 37 (by decide) (by decide)) (a5 38 (by decide) (by decide)) (a5 39 (by decide) (by decide))).f (mwF_row (by omega)) (fun c _ _ => mwF_row (by omega))⟩
  · have hw : ∀ a b, a < 2 → b < 100 → ¬ (x = nI a ∧ y = nI b) := fun a b ha hb e => hw ⟨a, b, ha, hb, e.1, e.2⟩
    exact OP.go (c_blow_o hw) (m_blow_o hw) H1
/-- one weight's home, place and snow are put anew -/
theorem put_RL {l g : Nat → Int32} {LF F : Nat → Nat → Int32} {V N w : Nat} (r : RLd l LF g F V N) (hw : w < N) {v p : Int32} (hvp : (v = -1 ∧ p = -1) ∨ ∃ a b, a < V ∧ b ≤ 4 ∧ v = nI a ∧ p = nI b) : RLd l (mv LF w v p) g (up2 (up2 (up2 F 6 w v) 7 w p) 8 w 0) V N := by
  obtain ⟨okC, okM, E, R, hW, h9, h10⟩ := r
  have hX : ∀ a j, ¬ j = w → vC (mv LF w v p) a j = vC LF a j := fun a j hj => mv_ne hj
  have hY : ∀ a j, ¬ j = w → vM (up2 (up2 (up2 F 6 w v) 7 w p) 8 w 0) a j = vM F a j := fun a j hj => by
    show up2 (up2 (up2 F 6 w v) 7 w p) 8 w 0 (a + 3) j = F (a + 3) j
    rw [up2_ne (fun z => hj z.2), up2_ne (fun z => hj z.2), up2_ne (fun z => hj z.2)]
  have y1 : vM (up2 (up2 (up2 F 6 w v) 7 w p) 8 w 0) 1 w = vM F 1 w := rfl
  have y2 : vM (up2 (up2 (up2 F 6 w v) 7 w p) 8 w 0) 2 w = vM F 2 w := rfl
  have y3 : vM (up2 (up2 (up2 F 6 w v) 7 w p) 8 w 0) 3 w = v := by
    show up2 (up2 (up2 F 6 w v) 7 w p) 8 w 0 6 w = v
    rw [up2_ne (by omega), up2_ne (by omega), up2_at]
  have y4 : vM (up2 (up2 (up2 F 6 w v) 7 w p) 8 w 0) 4 w = p := by
    show up2 (up2 (up2 F 6 w v) 7 w p) 8 w 0 7 w = p
    rw [up2_ne (by omega), up2_at]
  have y5 : vM (up2 (up2 (up2 F 6 w v) 7 w p) 8 w 0) 5 w = 0 := up2_at _ _ _ _
  have x3 : vC (mv LF w v p) 3 w = v := by
    show mv LF w v p 5 w = v
    unfold mv; rw [up2_ne (by omega), up2_ne (by omega), up2_at]
  have x4 : vC (mv LF w v p) 4 w = p := by
    show mv LF w v p 6 w = p
    unfold mv; rw [up2_ne (by omega), up2_at]
  have x5 : vC (mv LF w v p) 5 w = 0 := by
    show mv LF w v p 7 w = 0
    unfold mv; rw [up2_at]
  refine RLd.mk okC.1 okC.2.1 okM.1 okM.2.1 okM.2.2.1 okM.2.2.2.1 (EQV.col E rfl rfl hX hY ⟨(E.2 w hw).1, (E.2 w hw).2.1, x3.trans y3.symm, x4.trans y4.symm, x5.trans y5.symm⟩) (RNG.upc R rfl hY ?_) hW h9 h10
  obtain ⟨c1, c2, _, _⟩ := R.2 w hw
  rw [y1, y2, y3, y4, y5]
  exact ⟨c1, c2, hvp, 0, by omega, rfl, fun _ => rfl⟩
theorem op_put (x y z : Int32) (H : RW n wc wm) : OP n yX4_put cX4_put [some (.ref 0), some (.int x), some (.int y), some (.int z), none] yX5_put cX5_put [some (.ref 0), some (.int x), some (.int y), some (.int z), none] (some .int) wc wm := by
  have H1 := H.up
  obtain ⟨h, pg, PF, l, LF, s, SF, il, ILF, is, ISF, t, TF, k, KF, g, G, F, V, N, L, K, rfl, rfl, r1, r2, r3, r4, r5⟩ := H
  have okC := r1.1
  have okM := r1.2.1
  have E := r1.2.2.1
  by_cases hx : ∃ w, w < N ∧ x = nI w
  · obtain ⟨w, hw, rfl⟩ := hx
    by_cases hy : ∃ v, v < V ∧ y = nI v
    · obtain ⟨v, hv, rfl⟩ := hy
      by_cases hz : z < 0 ∨ ¬ z ≤ 4
      · exact OP.go (c_put_o okC hw hv hz) (m_put_o okM hw hv (hz.imp id nle_lt.mp)) H1
      · have hz0 : ¬ z < 0 := fun q => hz (Or.inl q)
        have hz4 : z ≤ 4 := by
          by_cases q : z ≤ 4
          · exact q
          · exact absurd (Or.inr q) hz
        obtain ⟨q, _, q2, q3⟩ := arg_in (a := 0) (b := 4) (x := z) (by decide) (by decide) hz0 hz4
        have hC := c_put_k (d := 11) (h := h) (pg := pg) (PF := PF) (s := s) (SF := SF) (il := il) (ILF := ILF) (is := is) (ISF := ISF) (t := t) (TF := TF) (k := k) (KF := KF) okC hw hv hz0 hz4
        rw [show LF 5 w = F 6 w from (E.2 w hw).2.2.1] at hC
        exact OP.go hC (m_put_k okM hw hv hz0 (fun z => absurd hz4 (nle_lt.mpr z))) ⟨h, pg, PF, l, _, s, SF, il, ILF, is, ISF, t, TF, k, KF, g, G, _, V, N, L, K, rfl, rfl, put_RL r1 hw (Or.inr ⟨v, q, hv, q2, rfl, q3⟩), r2, r3, r4.up, r5.up⟩
    · have hy : ∀ w, w < V → y ≠ nI w := fun w hw e => hy ⟨w, hw, e⟩
      exact OP.go (c_put_u2 okC hw hy z) (m_put_u2 okM hw hy z) H1
  · have hx : ∀ w, w < N → x ≠ nI w := fun w hw e => hx ⟨w, hw, e⟩
    exact OP.go (c_put_u1 okC hx y z) (m_put_u1 okM hx y z) H1
theorem op_lift (x : Int32) (H : RW n wc wm) : OP n yX4_lift cX4_lift [some (.ref 0), some (.int x), none] yX5_lift cX5_lift [some (.ref 0), some (.int x), none] (some .int) wc wm := by
  have H1 := H.up
  obtain ⟨h, pg, PF, l, LF, s, SF, il, ILF, is, ISF, t, TF, k, KF, g, G, F, V, N, L, K, rfl, rfl, r1, r2, r3, r4, r5⟩ := H
  have okC := r1.1
  have okM := r1.2.1
  have E := r1.2.2.1
  by_cases hx : ∃ w, w < N ∧ x = nI w
  · obtain ⟨w, hw, rfl⟩ := hx
    have e5 : LF 5 w = F 6 w := (E.2 w hw).2.2.1
    by_cases hh : F 6 w = -1
    · exact OP.go (c_lift_s okC hw (e5.trans hh)) (m_lift_s okM hw hh) H1
    · have hC := c_lift_k (d := 11) (h := h) (pg := pg) (PF := PF) (s := s) (SF := SF) (il := il) (ILF := ILF) (is := is) (ISF := ISF) (t := t) (TF := TF) (k := k) (KF := KF) okC hw (by rw [e5]; exact hh)
      rw [e5] at hC
      exact OP.go hC (m_lift_k okM hw hh) ⟨h, pg, PF, l, _, s, SF, il, ILF, is, ISF, t, TF, k, KF, g, G, _, V, N, L, K, rfl, rfl, put_RL r1 hw (Or.inl ⟨rfl, rfl⟩), r2, r3, r4.up, r5.up⟩
  · have hx : ∀ w, w < N → x ≠ nI w := fun w hw e => hx ⟨w, hw, e⟩
    exact OP.go (c_lift_u okC hx) (m_lift_u okM hx) H1
theorem op_cut (x z : Int32) (H : RW n wc wm) : OP n yX4_cut cX4_cut [some (.ref 0), some (.int x), some (.int z), none] yX5_cut cX5_cut [some (.ref 0), some (.int x), some (.int z), none] (some .int) wc wm := by
  have H1 := H.up
  obtain ⟨h, pg, PF, l, LF, s, SF, il, ILF, is, ISF, t, TF, k, KF, g, G, F, V, N, L, K, rfl, rfl, r1, r2, r3, r4, r5⟩ := H
  obtain ⟨okC, okM, E, R, hW, h9, h10⟩ := r1
  by_cases hx : ∃ w, w < N ∧ x = nI w
  · obtain ⟨w, hw, rfl⟩ := hx
    by_cases hz : z < 1 ∨ ¬ z ≤ 9
    · exact OP.go (c_cut_o okC hw hz) (m_cut_o okM hw (hz.imp id nle_lt.mp)) H1
    · have hz0 : ¬ z < 1 := fun q => hz (Or.inl q)
      have hz4 : z ≤ 9 := by
        by_cases q : z ≤ 9
        · exact q
        · exact absurd (Or.inr q) hz
      obtain ⟨q, q1, q2, q3⟩ := arg_in (a := 1) (b := 9) (x := z) (by decide) (by decide) hz0 hz4
      have hC := c_cut_k (d := 11) (h := h) (pg := pg) (PF := PF) (s := s) (SF := SF) (il := il) (ILF := ILF) (is := is) (ISF := ISF) (t := t) (TF := TF) (k := k) (KF := KF) okC hw hz0 hz4
      rw [show LF 4 w = F 5 w from (E.2 w hw).2.1] at hC
      have hX : ∀ a j, ¬ j = w → vC (up2 LF 4 w z) a j = vC LF a j := fun a j hj => up2_ne (fun z => hj z.2)
      have hY : ∀ a j, ¬ j = w → vM (up2 F 5 w z) a j = vM F a j := fun a j hj => up2_ne (fun z => hj z.2)
      have y2 : vM (up2 F 5 w z) 2 w = z := up2_at _ _ _ _
      refine OP.go hC (m_cut_k okM hw hz0 (fun z => absurd hz4 (nle_lt.mpr z))) ⟨h, pg, PF, l, _, s, SF, il, ILF, is, ISF, t, TF, k, KF, g, G, _, V, N, L, K, rfl, rfl, RLd.mk okC.1 okC.2.1 okM.1 okM.2.1 okM.2.2.1 okM.2.2.2.1 (EQV.col E rfl rfl hX hY ⟨(E.2 w hw).1, (up2_at LF 4 w z).trans (up2_at F 5 w z).symm, (E.2 w hw).2.2⟩) (RNG.upc R rfl hY ?_) hW h9 h10, r2, r3, r4.up, r5.up⟩
      rw [y2]
      obtain ⟨c1, _, c3, c4⟩ := R.2 w hw
      exact ⟨c1, ⟨q, q1, q2, q3⟩, c3, c4⟩
  · have hx : ∀ w, w < N → x ≠ nI w := fun w hw e => hx ⟨w, hw, e⟩
    exact OP.go (c_cut_u okC hx z) (m_cut_u okM hx z) H1
theorem op_build (x z : Int32) (H : RW n wc wm) : OP n yX4_build cX4_build [some (.ref 0), some (.int x), some (.int z), none] yX5_build cX5_build [some (.ref 0), some (.int x), some (.int z), none] (some .int) wc wm := by
  have H1 := H.up
  obtain ⟨h, pg, PF, l, LF, s, SF, il, ILF, is, ISF, t, TF, k, KF, g, G, F, V, N, L, K, rfl, rfl, r1, r2, r3, r4, r5⟩ := H
  obtain ⟨okC, okM, E, R, hW, h9, h10⟩ := r1
  by_cases hx : ∃ w, w < V ∧ x = nI w
  · obtain ⟨v, hv, rfl⟩ := hx
    by_cases hz : z < 0 ∨ ¬ z ≤ 9
    · exact OP.go (c_build_o okC hv hz) (m_build_o okM hv (hz.imp id nle_lt.mp)) H1
    · have hz0 : ¬ z < 0 := fun q => hz (Or.inl q)
      have hz4 : z ≤ 9 := by
        by_cases q : z ≤ 9
        · exact q
        · exact absurd (Or.inr q) hz
      obtain ⟨q, q1, q2, q3⟩ := arg_in (a := 0) (b := 9) (x := z) (by decide) (by decide) hz0 hz4
      have hC := c_build_k (d := 11) (h := h) (pg := pg) (PF := PF) (s := s) (SF := SF) (il := il) (ILF := ILF) (is := is) (ISF := ISF) (t := t) (TF := TF) (k := k) (KF := KF) okC hv hz0 hz4
      rw [show LF 2 v = F 3 v from E.1 v hv] at hC
      refine OP.go hC (m_build_k okM hv hz0 (fun z => absurd hz4 (nle_lt.mpr z))) ⟨h, pg, PF, l, _, s, SF, il, ILF, is, ISF, t, TF, k, KF, g, G, _, V, N, L, K, rfl, rfl, RLd.mk okC.1 okC.2.1 okM.1 okM.2.1 okM.2.2.1 okM.2.2.2.1 ⟨fun u hu => ?_, E.2⟩ ⟨fun u hu => ?_, R.2⟩ hW h9 h10, r2, r3, r4.up, r5.up⟩
      · show up2 LF 2 v z 2 u = up2 F 3 v z 3 u
        by_cases e : u = v
        · rw [e, up2_at, up2_at]
        · rw [up2_ne (by omega), up2_ne (by omega)]; exact E.1 u hu
      · show ∃ b, b ≤ 9 ∧ up2 F 3 v z 3 u = nI b
        by_cases e : u = v
        · rw [e, up2_at]; exact ⟨q, q2, q3⟩
        · rw [up2_ne (by omega)]; exact R.1 u hu
  · have hx : ∀ w, w < V → x ≠ nI w := fun w hw e => hx ⟨w, hw, e⟩
    exact OP.go (c_build_u okC hx z) (m_build_u okM hx z) H1
theorem op_see (x y z b4 : Int32) (hb4 : b4 = 0 ∨ b4 = 1) (H : RW n wc wm) : OP n yX4_see cX4_see [some (.ref 0), some (.int x), some (.int y), some (.int z), some (.int b4)] yX5_see cX5_see [some (.ref 0), some (.int x), some (.int y), some (.int z), some (.int b4)] (some .int) wc wm := by
  have H1 := H.up
  obtain ⟨h, pg, PF, l, LF, s, SF, il, ILF, is, ISF, t, TF, k, KF, g, G, F, V, N, L, K, rfl, rfl, r1, r2, r3, r4, r5⟩ := H
  have okC := r1.1
  have okM := r1.2.1
  obtain ⟨s1, s2, s3, s4, s5⟩ := r2
  by_cases hx : ∃ w, w < N ∧ x = nI w
  · obtain ⟨w, hw, rfl⟩ := hx
    by_cases hwd : ∃ a b, a < 2 ∧ b < 100 ∧ y = nI a ∧ z = nI b
    · obtain ⟨a, b, ha, hb, rfl, rfl⟩ := hwd
      by_cases hK : K = 8
      · subst hK
        exact OP.go (c_see_f okC hw ha hb s1 b4) (m_see_f okM hw ha hb s2 b4) H1
      · have e1 : vp_nar .boolean b4 = b4 := by
          rcases hb4 with q | q
          · rw [q]; decide
          · rw [q]; decide
        have e2 : (if b4 = 0 then (0 : Int32) else 1) = b4 := by
          rcases hb4 with q | q
          · rw [q]; rfl
          · rw [q]; rfl
        refine OP.go (c_see_k okC hw ha hb s1 (by omega) b4) (m_see_k okM hw ha hb s2 (by omega) b4) ⟨h, pg, PF, l, LF, _, _, il, ILF, is, ISF, t, TF, k, KF, _, G, _, V, N, L, K + 1, rfl, rfl, r1, ⟨rfl, rfl, by omega, fun i hi => ?_, fun i hi => ?_⟩, r3, r4.up, r5.up⟩
        · rw [e1, e2]
          show up2 (up2 (up2 (up2 SF 1 K (nI w)) 2 K (nI a)) 3 K (nI b)) 4 K b4 1 i = up2 (up2 (up2 (up2 F 14 K (nI w)) 15 K (nI a)) 16 K (nI b)) 17 K b4 14 i ∧ up2 (up2 (up2 (up2 SF 1 K (nI w)) 2 K (nI a)) 3 K (nI b)) 4 K b4 2 i = up2 (up2 (up2 (up2 F 14 K (nI w)) 15 K (nI a)) 16 K (nI b)) 17 K b4 15 i ∧ up2 (up2 (up2 (up2 SF 1 K (nI w)) 2 K (nI a)) 3 K (nI b)) 4 K b4 3 i = up2 (up2 (up2 (up2 F 14 K (nI w)) 15 K (nI a)) 16 K (nI b)) 17 K b4 16 i ∧ up2 (up2 (up2 (up2 SF 1 K (nI w)) 2 K (nI a)) 3 K (nI b)) 4 K b4 4 i = up2 (up2 (up2 (up2 F 14 K (nI w)) 15 K (nI a)) 16 K (nI b)) 17 K b4 17 i
          by_cases e : i = K
          · subst e
            refine ⟨?_, ?_, ?_, ?_⟩
            · rw [up2_ne (by omega), up2_ne (by omega), up2_ne (by omega), up2_at, up2_ne (by omega), up2_ne (by omega), up2_ne (by omega), up2_at]
            · rw [up2_ne (by omega), up2_ne (by omega), up2_at, up2_ne (by omega), up2_ne (by omega), up2_at]
            · rw [up2_ne (by omega), up2_at, up2_ne (by omega), up2_at]
            · rw [up2_at, up2_at]
          · obtain ⟨q1, q2, q3, q4⟩ := s4 i (by omega)
            refine ⟨?_, ?_, ?_, ?_⟩
            · rw [up2_ne (by omega), up2_ne (by omega), up2_ne (by omega), up2_ne (by omega), up2_ne (by omega), up2_ne (by omega), up2_ne (by omega), up2_ne (by omega)]; exact q1
            · rw [up2_ne (by omega), up2_ne (by omega), up2_ne (by omega), up2_ne (by omega), up2_ne (by omega), up2_ne (by omega), up2_ne (by omega), up2_ne (by omega)]; exact q2
            · rw [up2_ne (by omega), up2_ne (by omega), up2_ne (by omega), up2_ne (by omega), up2_ne (by omega), up2_ne (by omega), up2_ne (by omega), up2_ne (by omega)]; exact q3
            · rw [up2_ne (by omega), up2_ne (by omega), up2_ne (by omega), up2_ne (by omega), up2_ne (by omega), up2_ne (by omega), up2_ne (by omega), up2_ne (by omega)]; exact q4
        · rw [e2]
          show up2 (up2 (up2 (up2 F 14 K (nI w)) 15 K (nI a)) 16 K (nI b)) 17 K b4 17 i = 0 ∨ up2 (up2 (up2 (up2 F 14 K (nI w)) 15 K (nI a)) 16 K (nI b)) 17 K b4 17 i = 1
          by_cases e : i = K
          · rw [e, up2_at]; exact hb4
          · rw [up2_ne (by omega), up2_ne (by omega), up2_ne (by omega), up2_ne (by omega)]; exact s5 i (by omega)
    · have hwd : ∀ a b, a < 2 → b < 100 → ¬ (y = nI a ∧ z = nI b) := fun a b ha hb e => hwd ⟨a, b, ha, hb, e.1, e.2⟩
      exact OP.go (c_see_o okC hw hwd b4) (m_see_o okM hw hwd b4) H1
  · have hx : ∀ w, w < N → x ≠ nI w := fun w hw e => hx ⟨w, hw, e⟩
    exact OP.go (c_see_u okC hx y z b4) (m_see_u okM hx y z b4) H1
theorem op_forget (H : RW n wc wm) : OP n yX4_forget cX4_forget [some (.ref 0), none] yX5_forget cX5_forget [some (.ref 0), none] (some .int) wc wm := by
  obtain ⟨h, pg, PF, l, LF, s, SF, il, ILF, is, ISF, t, TF, k, KF, g, G, F, V, N, L, K, rfl, rfl, r1, r2, r3, r4, r5⟩ := H
  obtain ⟨s1, s2, s3, s4, s5⟩ := r2
  have hM : Ev 12 yX5_forget cX5_forget (some .int) 0 [some (.ref 0), none] [] (modW g G F) (Is (some (.int (s 0))) (modW (upd g 13 0) G F)) := by rw [s1, ← s2]; exact m_forget
  exact OP.go c_forget hM ⟨h, pg, PF, l, LF, _, SF, il, ILF, is, ISF, t, TF, k, KF, _, G, F, V, N, L, 0, rfl, rfl, r1, ⟨rfl, rfl, by omega, fun i hi => absurd hi (by omega), fun i hi => absurd hi (by omega)⟩, r3, r4.up, r5.up⟩
end OPB
