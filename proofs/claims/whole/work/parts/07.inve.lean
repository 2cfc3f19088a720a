/-! the bounds last: bytes put in order -/
def gw_r (B ST IR RV UR UF FA : Int) (h : Int → Bool) : Prop :=
  0 ≤ IR ∧ IR ≤ 65535 ∧ 0 ≤ RV ∧ RV + (24 - UR) ≤ B ∧ 0 ≤ UR ∧ UR ≤ 24 ∧ 0 ≤ UF ∧ 4 ≤ ST ∧ ST ≤ 6 ∧ UF + UR = RV ∧ -1 ≤ FA ∧ (0 ≤ FA → RV ≤ FA ∧ FA < RV + 24 - UR) ∧ (∀ p, h p = true → RV ≤ p ∧ p < RV + 24 - UR)
def gw_I (B K : Int) (G : gm_T) (e : Nat) : Prop := 0 ≤ K ∧ K + 7 ≤ 5000 ∧ 0 ≤ gm_N G ∧ gm_N G ≤ 125 * K ∧ (∀ e', e' < 2 → e' ≠ e → gv_E K (gm_N G) G.1 (gm_H G) e')
  ∧ (gv_a (G.1 0 e) (G.1 1 e) (G.1 2 e) (G.1 30 e) ∧ gv_p K (G.1 0 e) (G.1 3 e) (G.1 4 e) (G.1 5 e) (G.1 6 e) (G.1 29 e) (G.1 31 e) (G.1 32 e) (G.1 33 e) ∧ gv_c K (G.1 0 e) (G.1 12 e) (G.1 13 e) (G.1 14 e) (G.1 15 e) (G.1 16 e) (G.1 17 e) (G.1 18 e) (G.1 34 e) (G.1 20 e) (G.1 35 e) (G.1 19 e) ∧ gv_d (gm_N G) (G.1 0 e) (G.1 21 e) (G.1 22 e) (G.1 23 e) ∧ gv_t (gm_N G) (G.1 0 e) (G.1 3 e) (G.1 5 e) (G.1 24 e) (G.1 25 e) (G.1 26 e) (G.1 27 e) (G.1 28 e))
  ∧ gw_r B (G.1 0 e) (G.1 7 e) (G.1 8 e) (G.1 9 e) (G.1 10 e) (G.1 11 e) (gm_H G e) ∧ gv_L (gm_L G) (gm_D G) ∧ gv_W (gm_W G) ∧ gv_W (gm_B G)
theorem nw_e {G : gm_T} {e k : Nat} {o m p : Int} : gp_new G e k o m p = true ↔ (0 ≤ p - G.1 8 e - o ∧ p - G.1 8 e - o < m ∧ 0 ≤ p - G.1 8 e ∧ p - G.1 8 e < 24 - G.1 9 e ∧ (G.1 11 e < 0 ∨ p < G.1 11 e)) := by
  unfold gp_new; exact decide_eq_true_iff
theorem iv_hold {K : Int} {G : gm_T} {e k : Nat} {o : Int} (hI : gv_I K G) (he : e < 2) (hk : k < 32) (hK : K + 7 ≤ 5000) (h4 : 4 ≤ G.1 0 e) (h6 : G.1 0 e ≤ 6) : gw_I (4 * K + 28) K (gp_hold G e k o) e := by
  obtain ⟨a1, a2, a3, a4, a5, a6, a7, a8⟩ := hI
  obtain ⟨b1, b2, b3, b4, b5, b6⟩ := a5 e he
  have l1 := a6.1 k hk
  refine ⟨a1, hK, a3, a4, fun e' he' q => ?_, ⟨b1, b2, b3, b4, b5⟩, ?_, a6, a7, ?_⟩
  · exact gv_o (fun f => gs_e q) (hh_O q) (a5 e' he')
  · have hh : gm_H (gp_hold G e k o) e = fun p => gm_H G e p || gp_new G e k o (gm_L G 4 k) p := hh_E
    rw [hh]
    show gw_r _ (G.1 0 e) (G.1 7 e) (G.1 8 e) (G.1 9 e) (G.1 10 e) (gs_c G.1 11 e _ 11 e) _
    rw [gs_s]
    unfold gv_r at b6
    obtain ⟨q1, q2, q3, q4, q5, q6, q7, q8, q9, qa, qb, qc⟩ := b6
    refine ⟨q1, q2, q3, by omega, q5, q6, q7, h4, h6, q9 (by omega) h6, ?_, ?_, fun p z => ?_⟩
    · split <;> omega
    · split <;> omega
    · rw [Bool.or_eq_true, nw_e] at z
      rcases z with z | z
      · have := qc p z; omega
      · omega
  · intro e' he' p
    have hb : gm_B (gp_hold G e k o) e' p = if e' = e then (if gm_H G e p = false ∧ gp_new G e k o (gm_L G 4 k) p = true then gm_D G (8 * k + (p - G.1 8 e - o).toNat) else gm_B G e p) else gm_B G e' p := rfl
    rw [hb]
    split
    · split
      · rename_i z
        have := nw_e.mp z.2
        exact a6.2 _ (by omega)
      · exact a8 e he p
    · exact a8 e' he' p
theorem iv_gstep {B K : Int} {G : gm_T} {e : Nat} (hI : gw_I B K G e) (h : gm_H G e (G.1 8 e) = true) (h2 : G.1 8 e ≠ G.1 11 e) : gw_I B K (gp_gstep G e) e := by
  obtain ⟨a1, a2, a3, a4, a5, ⟨b1, b2, b3, b4, b5⟩, b6, a6, a7, a8⟩ := hI
  refine ⟨a1, a2, a3, a4, fun e' he' q => ?_, ⟨b1, b2, b3, b4, b5⟩, ?_, a6, a7, a8⟩
  · refine gv_o (fun f => ?_) ?_ (a5 e' he' q)
    · show gs_c (gs_c _ _ _ _) _ _ _ _ _ = _
      rw [gs_e q, gs_e q]
    · exact hh_O q
  · have hh : gm_H (gp_gstep G e) e = fun p => if p = G.1 8 e then false else gm_H G e p := hh_E
    rw [hh]
    simp +decide only [gp_gstep, gs_s, gs_f]
    obtain ⟨q1, q2, q3, q4, q5, q6, q7, q8, q9, qa, qb, qc, qd⟩ := b6
    have h0 := qd _ h
    refine ⟨q1, q2, by omega, by omega, by omega, by omega, q7, q8, q9, by omega, qb, fun z => ?_, fun p z => ?_⟩
    · have := qc z; omega
    · dsimp only at z
      split at z
      · cases z
      · rename_i ne
        have := qd p z; omega
theorem gs_st {G : gm_T} {e : Nat} {f : Nat} (h1 : f ≠ 9) (h2 : f ≠ 8) (e' : Nat) : (gp_gstep G e).1 f e' = G.1 f e' := by
  show gs_c (gs_c _ _ _ _) _ _ _ _ _ = _
  rw [gs_f h2, gs_f h1]
theorem iv_gloop {B K : Int} {e : Nat} : ∀ (k : Nat) (G : gm_T), gw_I B K G e → 24 - G.1 9 e ≤ k → gw_I B K (gp_gloop k G e) e ∧ ¬ (gm_H (gp_gloop k G e) e ((gp_gloop k G e).1 8 e) = true ∧ (gp_gloop k G e).1 8 e ≠ (gp_gloop k G e).1 11 e) := by
  intro k
  induction k with
  | zero =>
    intro G hI hk
    refine ⟨hI, fun z => ?_⟩
    obtain ⟨a1, a2, a3, a4, a5, a9, b6, a6, a7, a8⟩ := hI
    obtain ⟨q1, q2, q3, q4, q5, q6, q7, q8, q9, qa, qb, qc, qd⟩ := b6
    have := qd _ z.1
    have e0 : (gp_gloop 0 G e).1 8 e = G.1 8 e := rfl
    omega
  | succ k ih =>
    intro G hI hk
    unfold gp_gloop
    split
    · rename_i z
      refine ih _ (iv_gstep hI z.1 z.2) ?_
      simp +decide only [gp_gstep, gs_s, gs_f]; omega
    · rename_i z
      exact ⟨hI, z⟩
theorem gl_f {f : Nat} (h1 : f ≠ 9) (h2 : f ≠ 8) : ∀ (k : Nat) (G : gm_T) (e e' : Nat), (gp_gloop k G e).1 f e' = G.1 f e' := by
  intro k
  induction k with
  | zero => intro G e e'; rfl
  | succ k ih =>
    intro G e e'
    unfold gp_gloop
    split
    · rw [ih, gs_st h1 h2]
    · rfl
theorem iv_gfin {K : Int} {G : gm_T} {e : Nat} (hI : gw_I (4 * K + 28) K G e) (he : e < 2) (hn : ¬ (gm_H G e (G.1 8 e) = true ∧ G.1 8 e ≠ G.1 11 e)) : gv_I (K + 7) (gp_gfin G e) := by
  obtain ⟨a1, a2, a3, a4, a5, ⟨b1, b2, b3, b4, b5⟩, b6, a6, a7, a8⟩ := hI
  obtain ⟨q1, q2, q3, q4, q5, q6, q7, q8, q9, qa, qb, qc, qd⟩ := b6
  have oth : ∀ e', e' < 2 → e' ≠ e → gv_E (K + 7) (gm_N G) G.1 (gm_H G) e' := by
    intro e' he' q
    obtain ⟨b1, b2, b3, b4, b5, b6⟩ := a5 e' he' q
    refine ⟨b1, ?_, ?_, b4, b5, ?_⟩
    · unfold gv_p at *; omega
    · unfold gv_c at *; omega
    · unfold gv_r at *
      obtain ⟨q1, q2, q3, q4, qe⟩ := b6
      exact ⟨q1, q2, q3, by omega, qe⟩
  unfold gp_gfin
  by_cases z : G.1 8 e = G.1 11 e
  · rw [if_pos z]
    have hng : gm_N (gp_gend G e) = gm_N G := rfl
    have hst : (gp_gend G e).1 0 e = G.1 0 e := by simp +decide only [gp_gend, gs_f]
    have hh : ∀ G', gm_H G' = gm_H (gp_gend G e) → gm_H G' e = fun _ => false := fun G' hG => by rw [hG]; exact nn_E
    have ho : ∀ e', e' ≠ e → gm_H (gp_gend G e) e' = gm_H G e' := fun e' q => nn_O q
    unfold gp_gst
    rw [hst]
    split
    · refine ⟨by omega, by omega, a3, by show gm_N G ≤ _; omega, fun e' he' => ?_, a6, a7, a8⟩
      by_cases q : e' = e
      · rw [q]
        change gv_E (K + 7) (gm_N G) _ _ e
        unfold gv_E
        rw [show gm_H (gp_put (gp_gend G e) 0 e 7) e = fun _ => false from hh _ rfl]
        simp +decide only [gp_put, gp_gend, gs_s, gs_f]
        refine ⟨?_, ?_, ?_, ?_, ?_, ?_⟩
        · unfold gv_a at *; omega
        · unfold gv_p at *; omega
        · unfold gv_c at *; omega
        · unfold gv_d at *; omega
        · unfold gv_t at *; omega
        · unfold gv_r; exact ⟨q1, q2, by omega, by omega, q5, q6, q7, by omega, by omega, by omega, by omega, fun p z => by cases z⟩
      · exact gv_o (fun f => by simp only [gp_put, gp_gend, gs_e q]) (ho e' q) (oth e' he' q)
    · split
      · refine ⟨by omega, by omega, a3, by show gm_N G ≤ _; omega, fun e' he' => ?_, a6, a7, a8⟩
        by_cases q : e' = e
        · rw [q]
          change gv_E (K + 7) (gm_N G) _ _ e
          unfold gv_E
          rw [show gm_H (gp_put (gp_gend G e) 0 e 8) e = fun _ => false from hh _ rfl]
          simp +decide only [gp_put, gp_gend, gs_s, gs_f]
          refine ⟨?_, ?_, ?_, ?_, ?_, ?_⟩
          · unfold gv_a at *; omega
          · unfold gv_p at *; omega
          · unfold gv_c at *; omega
          · unfold gv_d at *; omega
          · unfold gv_t at *; omega
          · unfold gv_r; exact ⟨q1, q2, by omega, by omega, q5, q6, q7, by omega, by omega, by omega, by omega, fun p z => by cases z⟩
        · exact gv_o (fun f => by simp only [gp_put, gp_gend, gs_e q]) (ho e' q) (oth e' he' q)
      · refine ⟨by omega, by omega, a3, by show gm_N G ≤ _; omega, fun e' he' => ?_, a6, a7, a8⟩
        by_cases q : e' = e
        · rw [q]
          change gv_E (K + 7) (gm_N G) _ _ e
          unfold gv_E
          rw [show gm_H (gp_wait (gp_gend G e) e) e = fun _ => false from hh _ rfl]
          simp +decide only [gp_wait, gs_s, gs_f]
          rw [hng]
          simp +decide only [gp_gend, gs_s, gs_f]
          refine ⟨?_, ?_, ?_, ?_, ?_, ?_⟩
          · unfold gv_a at *; omega
          · unfold gv_p at *; omega
          · unfold gv_c at *; omega
          · unfold gv_d at *; omega
          · unfold gv_t at *; omega
          · unfold gv_r; exact ⟨q1, q2, by omega, by omega, q5, q6, q7, by omega, by omega, by omega, by omega, fun p z => by cases z⟩
        · exact gv_o (fun f => by simp only [gp_wait, gp_gend, gs_e q]) (ho e' q) (oth e' he' q)
  · rw [if_neg z]
    have hr : gm_H G e (G.1 8 e) = true → False := fun w => hn ⟨w, z⟩
    refine ⟨by omega, by omega, a3, by omega, fun e' he' => ?_, a6, a7, a8⟩
    by_cases q : e' = e
    · rw [q]
      refine ⟨b1, ?_, ?_, b4, b5, ?_⟩
      · unfold gv_p at *; omega
      · unfold gv_c at *; omega
      · refine ⟨q1, q2, q3, by omega, q5, q6, q7, by omega, by omega, qb, fun w => by have := qc w; omega, fun p w => ?_⟩
        have h1 := qd p w
        have h2 : p ≠ G.1 8 e := fun h => hr (h ▸ w)
        omega
    · exact oth e' he' q
theorem iv_take {K : Int} {G : gm_T} {e k : Nat} {o : Int} (hI : gv_I K G) (he : e < 2) (hk : k < 32) (hK : K + 7 ≤ 5000) : gv_I (K + 7) (gp_take G e k o) := by
  unfold gp_take
  split
  · have h1 := iv_hold (o := o) hI he hk hK (by omega) (by omega)
    have h2 := iv_gloop 24 _ h1 (by
      simp +decide only [gp_hold, gp_hold1, gp_put, gs_f]
      have := (hI.2.2.2.2.1 e he).2.2.2.2.2
      unfold gv_r at this
      omega)
    exact iv_gfin h2.1 he h2.2
  · exact gv_mono (by omega) hK hI
theorem tk_ST {G : gm_T} {e k : Nat} {o : Int} (h : 4 ≤ G.1 0 e) : 4 ≤ (gp_take G e k o).1 0 e := by
  unfold gp_take
  split
  · unfold gp_goOn gp_gfin
    have e1 : (gp_gloop 24 (gp_hold G e k o) e).1 0 e = G.1 0 e := by rw [gl_f (by decide) (by decide)]; simp +decide only [gp_hold, gp_hold1, gp_put, gs_f]
    split
    · have e2 : (gp_gend (gp_gloop 24 (gp_hold G e k o) e) e).1 0 e = G.1 0 e := by rw [← e1]; simp +decide only [gp_gend, gs_f]
      unfold gp_gst
      split
      · simp only [gp_put, gs_s]; decide
      · split
        · simp only [gp_put, gs_s]; decide
        · simp +decide only [gp_wait, gs_s, gs_f]
    · rw [e1]; exact h
  · exact h
theorem iv_setAK {K : Int} {G : gm_T} {e : Nat} {z : Int} (hI : gv_I K G) (he : e < 2) (hs : 3 ≤ G.1 0 e) (h1 : -1 ≤ z) (h2 : z ≤ gm_N G + 2) : gv_I K (gp_put G 22 e z) := by
  obtain ⟨b1, b2, b3, b4, b5, b6⟩ := hI.2.2.2.2.1 e he
  refine iv_put hI ⟨b1, b2, b3, ?_, b5, b6⟩
  show gv_d (gm_N G) (G.1 0 e) (G.1 21 e) (gs_c G.1 22 e z 22 e) (G.1 23 e)
  rw [gs_s]
  unfold gv_d at *
  omega
theorem tk_N {G : gm_T} {e k : Nat} {o : Int} : gm_N (gp_take G e k o) = gm_N G := by
  have gl : ∀ (j : Nat) (G : gm_T), gm_N (gp_gloop j G e) = gm_N G := by
    intro j
    induction j with
    | zero => intro G; rfl
    | succ j ih =>
      intro G
      unfold gp_gloop
      split
      · rw [ih]; rfl
      · rfl
  unfold gp_take
  split
  · unfold gp_goOn gp_gfin
    split
    · unfold gp_gst
      split
      · exact gl 24 _
      · split
        · exact gl 24 _
        · exact gl 24 _
    · exact gl 24 _
  · rfl
theorem iv_content {K : Int} {G : gm_T} {e k : Nat} {o : Int} (hI : gv_I K G) (he : e < 2) (hk : k < 32) (hK : K + 7 ≤ 5000) (h4 : 4 ≤ G.1 0 e) : gv_I (K + 7) (gp_content G e k o) := by
  have h1 := iv_take (o := o) hI he hk hK
  have h2 := tk_ST (k := k) (o := o) h4
  have h3 := hI.2.2.1
  unfold gp_content
  split
  · exact gv_mono (by omega) hK hI
  · split
    · exact iv_ack h1 he (by omega)
    · exact iv_setAK h1 he (by omega) (by omega) (by rw [tk_N]; omega)
theorem iv_same {K : Int} {G : gm_T} {e k : Nat} (hI : gv_I K G) (he : e < 2) (hK : K + 1 ≤ 5000) (hs : 4 ≤ G.1 0 e) : gv_I (K + 1) (gp_same G e k) := by
  unfold gp_same
  split
  · rename_i h; exact iv_again hI he hK hs h.2
  · exact gv_mono (by omega) hK hI
