/-! the bounds last: acknowledgements, windows, time -/
theorem iv_adv12 {K : Int} {G : gm_T} {e : Nat} {a : Int} (hI : gv_I K G) (he : e < 2) (hs : 4 ≤ G.1 0 e) (ha : 0 < a) (ham : a ≤ G.1 5 e - G.1 3 e) (h3 : G.1 0 e = 3 → a = 1) : gv_I K (gp_adv2 (gp_adv1 G e a) e) := by
  obtain ⟨a1, a2, a3, a4, a5, a6, a7, a8⟩ := hI
  obtain ⟨b1, b2, b3, b4, b5, b6⟩ := a5 e he
  have hT : (gp_adv1 G e a).1 24 e = G.1 24 e := by simp +decide only [gp_adv1, gp_put, gs_f]
  have hU : (gp_adv1 G e a).1 3 e = G.1 3 e + a := by simp +decide only [gp_adv1, gp_put, gs_s, gs_f]
  have hr : 2 ≤ gp_rt (gp_adv1 G e a) e ∧ gp_rt (gp_adv1 G e a) e ≤ 64 := by unfold gp_rt; split <;> (try split) <;> omega
  unfold gp_adv2
  rw [hT, hU]
  by_cases z : 0 ≤ G.1 24 e ∧ G.1 24 e < G.1 3 e + a
  · rw [if_pos z]
    have hso : 0 ≤ gp_so (gp_adv1 G e a) e ∧ gp_so (gp_adv1 G e a) e ≤ 8 * gm_N G := by
      unfold gp_so; rw [show gm_N (gp_adv1 G e a) = gm_N G from rfl]; simp +decide only [gp_adv1, gp_put, gs_f]; unfold gv_t at b5; split <;> omega
    have hva : 0 ≤ gp_va (gp_adv1 G e a) e ∧ gp_va (gp_adv1 G e a) e ≤ 4 * gm_N G + 3 := by
      unfold gp_va; rw [show gm_N (gp_adv1 G e a) = gm_N G from rfl]; simp +decide only [gp_adv1, gp_put, gs_f]; unfold gv_t at b5; split <;> (try split) <;> omega
    refine ⟨a1, a2, a3, a4, gv_up (e := e) (n := gm_N G) a5 (fun e' q f => ?_) (fun e' q => rfl) ?_, a6, a7, a8⟩
    · simp only [gp_put, gp_meas, gp_adv1, gs_e q]
    · unfold gv_E
      simp +decide only [gp_meas, gs_s, gs_f]
      generalize gp_so (gp_adv1 G e a) e = so at *
      generalize gp_va (gp_adv1 G e a) e = va at *
      generalize gp_rt (gp_adv1 G e a) e = rt at *
      simp +decide only [gp_adv1, gp_put, gs_s, gs_f]
      refine ⟨?_, ?_, ?_, ?_, ?_, ?_⟩
      · unfold gv_a at *; omega
      · unfold gv_p at *; omega
      · unfold gv_c at *; omega
      · unfold gv_d at *; omega
      · unfold gv_t at *; omega
      · unfold gv_r at *
        obtain ⟨q1, q2, q3, q4, q5, q6, q7, q8, q9, qa, qb, qc⟩ := b6
        exact ⟨q1, q2, q3, q4, q5, q6, q7, by omega, by omega, qa, by omega, fun p z => by have := qc p z; omega⟩
  · rw [if_neg z]
    refine ⟨a1, a2, a3, a4, gv_up (e := e) (n := gm_N G) a5 (fun e' q f => ?_) (fun e' q => rfl) ?_, a6, a7, a8⟩
    · simp only [gp_put, gp_adv1, gs_e q]
    · unfold gv_E
      simp +decide only [gp_adv1, gp_put, gs_s, gs_f]
      refine ⟨?_, ?_, ?_, ?_, ?_, ?_⟩
      · unfold gv_a at *; omega
      · unfold gv_p at *; omega
      · unfold gv_c at *; omega
      · unfold gv_d at *; omega
      · unfold gv_t at *; omega
      · unfold gv_r at *
        obtain ⟨q1, q2, q3, q4, q5, q6, q7, q8, q9, qa, qb, qc⟩ := b6
        exact ⟨q1, q2, q3, q4, q5, q6, q7, by omega, by omega, qa, by omega, fun p z => by have := qc p z; omega⟩
theorem iv_adv12e {K : Int} {G : gm_T} {e : Nat} {a : Int} (hI : gv_I K G) (he : e < 2) (hs : G.1 0 e = 3) (ha : 0 < a) (ham : a ≤ G.1 5 e - G.1 3 e) (h3 : G.1 0 e = 3 → a = 1) : gv_I K (gp_adv2 (gp_adv1 (gp_put G 0 e 4) e a) e) := by
  obtain ⟨a1, a2, a3, a4, a5, a6, a7, a8⟩ := hI
  obtain ⟨b1, b2, b3, b4, b5, b6⟩ := a5 e he
  have hT : (gp_adv1 (gp_put G 0 e 4) e a).1 24 e = G.1 24 e := by simp +decide only [gp_adv1, gp_put, gs_f]
  have hU : (gp_adv1 (gp_put G 0 e 4) e a).1 3 e = G.1 3 e + a := by simp +decide only [gp_adv1, gp_put, gs_s, gs_f]
  have hr : 2 ≤ gp_rt (gp_adv1 (gp_put G 0 e 4) e a) e ∧ gp_rt (gp_adv1 (gp_put G 0 e 4) e a) e ≤ 64 := by unfold gp_rt; split <;> (try split) <;> omega
  unfold gp_adv2
  rw [hT, hU]
  by_cases z : 0 ≤ G.1 24 e ∧ G.1 24 e < G.1 3 e + a
  · rw [if_pos z]
    have hso : 0 ≤ gp_so (gp_adv1 (gp_put G 0 e 4) e a) e ∧ gp_so (gp_adv1 (gp_put G 0 e 4) e a) e ≤ 8 * gm_N G := by
      unfold gp_so; rw [show gm_N (gp_adv1 (gp_put G 0 e 4) e a) = gm_N G from rfl]; simp +decide only [gp_adv1, gp_put, gs_f]; unfold gv_t at b5; split <;> omega
    have hva : 0 ≤ gp_va (gp_adv1 (gp_put G 0 e 4) e a) e ∧ gp_va (gp_adv1 (gp_put G 0 e 4) e a) e ≤ 4 * gm_N G + 3 := by
      unfold gp_va; rw [show gm_N (gp_adv1 (gp_put G 0 e 4) e a) = gm_N G from rfl]; simp +decide only [gp_adv1, gp_put, gs_f]; unfold gv_t at b5; split <;> (try split) <;> omega
    refine ⟨a1, a2, a3, a4, gv_up (e := e) (n := gm_N G) a5 (fun e' q f => ?_) (fun e' q => rfl) ?_, a6, a7, a8⟩
    · simp only [gp_put, gp_meas, gp_adv1, gs_e q]
    · unfold gv_E
      simp +decide only [gp_meas, gs_s, gs_f]
      generalize gp_so (gp_adv1 (gp_put G 0 e 4) e a) e = so at *
      generalize gp_va (gp_adv1 (gp_put G 0 e 4) e a) e = va at *
      generalize gp_rt (gp_adv1 (gp_put G 0 e 4) e a) e = rt at *
      simp +decide only [gp_adv1, gp_put, gs_s, gs_f]
      refine ⟨?_, ?_, ?_, ?_, ?_, ?_⟩
      · unfold gv_a at *; omega
      · unfold gv_p at *; omega
      · unfold gv_c at *; omega
      · unfold gv_d at *; omega
      · unfold gv_t at *; omega
      · unfold gv_r at *
        obtain ⟨q1, q2, q3, q4, q5, q6, q7, q8, q9, qa, qb, qc⟩ := b6
        exact ⟨q1, q2, q3, q4, q5, q6, q7, by omega, by omega, qa, by omega, fun p z => by have := qc p z; omega⟩
  · rw [if_neg z]
    refine ⟨a1, a2, a3, a4, gv_up (e := e) (n := gm_N G) a5 (fun e' q f => ?_) (fun e' q => rfl) ?_, a6, a7, a8⟩
    · simp only [gp_put, gp_adv1, gs_e q]
    · unfold gv_E
      simp +decide only [gp_adv1, gp_put, gs_s, gs_f]
      refine ⟨?_, ?_, ?_, ?_, ?_, ?_⟩
      · unfold gv_a at *; omega
      · unfold gv_p at *; omega
      · unfold gv_c at *; omega
      · unfold gv_d at *; omega
      · unfold gv_t at *; omega
      · unfold gv_r at *
        obtain ⟨q1, q2, q3, q4, q5, q6, q7, q8, q9, qa, qb, qc⟩ := b6
        exact ⟨q1, q2, q3, q4, q5, q6, q7, by omega, by omega, qa, by omega, fun p z => by have := qc p z; omega⟩
theorem iv_adv3 {K : Int} {G : gm_T} {e : Nat} (hI : gv_I K G) (he : e < 2) (hs : 4 ≤ G.1 0 e) : gv_I K (gp_adv3 G e) := by
  obtain ⟨a1, a2, a3, a4, a5, a6, a7, a8⟩ := hI
  obtain ⟨b1, b2, b3, b4, b5, b6⟩ := a5 e he
  have hx : 0 ≤ 64 / G.1 16 e := Int.ediv_nonneg (by omega) (by unfold gv_c at b3; omega)
  refine ⟨a1, a2, a3, a4, gv_up (e := e) (n := gm_N G) a5 (fun e' q f => ?_) (fun e' q => rfl) ?_, a6, a7, a8⟩
  · simp only [gp_adv3, gs_e q]
  · unfold gv_E
    simp +decide only [gp_adv3, gs_s, gs_f]
    generalize 64 / G.1 16 e = dv at *
    refine ⟨b1, b2, ?_, ?_, b5, b6⟩
    · unfold gv_c at *; split <;> (try split) <;> omega
    · unfold gv_c gv_d at *; split <;> omega
theorem iv_stput {K : Int} {G : gm_T} {e : Nat} {s : Int} (hI : gv_I K G) (he : e < 2) (h : (G.1 0 e = 5 ∧ s = 6) ∨ (G.1 0 e = 4 ∧ s = 7 ∧ G.1 11 e < 0 ∧ ∀ p, gm_H G e p = false) ∨ (G.1 0 e = 5 ∧ s = 8 ∧ G.1 11 e < 0 ∧ ∀ p, gm_H G e p = false)) : gv_I K (gp_put G 0 e s) := by
  obtain ⟨b1, b2, b3, b4, b5, b6⟩ := hI.2.2.2.2.1 e he
  refine iv_put hI ?_
  unfold gv_E
  simp +decide only [gs_s, gs_f]
  refine ⟨?_, ?_, ?_, ?_, ?_, ?_⟩
  · unfold gv_a at *; omega
  · unfold gv_p at *; omega
  · unfold gv_c at *; omega
  · unfold gv_d at *; omega
  · unfold gv_t at *; omega
  · unfold gv_r at *
    obtain ⟨q1, q2, q3, q4, q5, q6, q7, q8, q9, qa, qb, qc⟩ := b6
    refine ⟨q1, q2, q3, q4, q5, q6, q7, by omega, by omega, qa, by omega, fun p z => ?_⟩
    have := qc p z
    rcases h with h | h | h
    · omega
    · have := h.2.2.2 p; rw [z] at this; cases this
    · have := h.2.2.2 p; rw [z] at this; cases this
theorem iv_wait {K : Int} {G : gm_T} {e : Nat} (hI : gv_I K G) (he : e < 2) (h : G.1 0 e = 8 ∨ (G.1 0 e = 6 ∧ G.1 11 e < 0 ∧ ∀ p, gm_H G e p = false)) : gv_I K (gp_wait G e) := by
  obtain ⟨a1, a2, a3, a4, a5, a6, a7, a8⟩ := hI
  obtain ⟨b1, b2, b3, b4, b5, b6⟩ := a5 e he
  refine ⟨a1, a2, a3, a4, gv_up (e := e) (n := gm_N G) a5 (fun e' q f => ?_) (fun e' q => rfl) ?_, a6, a7, a8⟩
  · simp only [gp_wait, gs_e q]
  · unfold gv_E
    simp +decide only [gp_wait, gs_s, gs_f]
    refine ⟨?_, ?_, ?_, ?_, ?_, ?_⟩
    · unfold gv_a at *; omega
    · unfold gv_p at *; omega
    · unfold gv_c at *; omega
    · unfold gv_d at *; omega
    · unfold gv_t at *; omega
    · unfold gv_r at *
      obtain ⟨q1, q2, q3, q4, q5, q6, q7, q8, q9, qa, qb, qc⟩ := b6
      refine ⟨q1, q2, q3, q4, q5, q6, q7, by omega, by omega, qa, by omega, fun p z => ?_⟩
      have := qc p z
      rcases h with h | h
      · omega
      · have := h.2.2 p; rw [z] at this; cases this
theorem iv_finack {K : Int} {G : gm_T} {e : Nat} (hI : gv_I K G) (he : e < 2) : gv_I K (gp_finack G e) := by
  unfold gp_finack
  obtain ⟨b1, b2, b3, b4, b5, b6⟩ := hI.2.2.2.2.1 e he
  split
  · split
    · rename_i h; exact iv_stput hI he (Or.inl ⟨h, rfl⟩)
    · split
      · rename_i h; exact iv_wait hI he (Or.inl h)
      · split
        · exact iv_over hI he (by unfold gv_a at b1; omega) (by unfold gv_a at b1; omega)
        · exact hI
  · exact hI
theorem a1_ST {G : gm_T} {e : Nat} {a : Int} : (gp_adv2 (gp_adv1 G e a) e).1 0 e = G.1 0 e := by
  unfold gp_adv2; split <;> simp +decide only [gp_meas, gp_adv1, gs_f]
theorem iv_adv {K : Int} {G : gm_T} {e : Nat} {a : Int} (hI : gv_I K G) (he : e < 2) (hs : 3 ≤ G.1 0 e) (ha : 0 < a) (ham : a ≤ G.1 5 e - G.1 3 e) (h3 : G.1 0 e = 3 → a = 1) : gv_I K (gp_adv (gp_est G e) e a) := by
  unfold gp_adv gp_est
  by_cases q : G.1 0 e = 3
  · rw [if_pos q]
    refine iv_finack (iv_adv3 (iv_adv12e hI he q ha ham h3) he ?_) he
    rw [a1_ST]; show 4 ≤ gs_c _ _ _ _ _ _; rw [gs_s]; decide
  · rw [if_neg q]
    refine iv_finack (iv_adv3 (iv_adv12 hI he (by omega) ha ham h3) he ?_) he
    rw [a1_ST]; omega
theorem iv_again1 {K : Int} {G : gm_T} {e : Nat} (hI : gv_I K G) (he : e < 2) (hK : K + 1 ≤ 5000) (hs : 4 ≤ G.1 0 e) (hu : G.1 3 e ≠ G.1 5 e) : gv_I (K + 1) (gp_again1 G e) := by
  have hI1 := gv_mono (K' := K + 1) (by omega) hK hI
  obtain ⟨a1, a2, a3, a4, a5, a6, a7, a8⟩ := hI1
  obtain ⟨b1, b2, b3, b4, b5, b6⟩ := a5 e he
  have c3 := (hI.2.2.2.2.1 e he).2.2.1
  have hv : 8 ≤ gp_hv G e ∧ gp_hv G e ≤ 20 := by unfold gp_hv; unfold gv_p at b2; omega
  refine ⟨a1, a2, a3, a4, gv_up (e := e) (n := gm_N G) a5 (fun e' q f => ?_) (fun e' q => rfl) ?_, a6, a7, a8⟩
  · simp only [gp_again1, gs_e q]
  · unfold gv_E
    simp +decide only [gp_again1, gs_s, gs_f]
    generalize gp_hv G e = hv at *
    refine ⟨b1, b2, ?_, b4, ?_, b6⟩
    · unfold gv_c at *; omega
    · unfold gv_t at *; omega
theorem iv_again {K : Int} {G : gm_T} {e : Nat} (hI : gv_I K G) (he : e < 2) (hK : K + 1 ≤ 5000) (hs : 4 ≤ G.1 0 e) (hu : G.1 3 e ≠ G.1 5 e) : gv_I (K + 1) (gp_again G e) := by
  have hI1 := gv_mono (K' := K + 1) (by omega) hK hI
  obtain ⟨a1, a2, a3, a4, a5, a6, a7, a8⟩ := hI1
  obtain ⟨b1, b2, b3, b4, b5, b6⟩ := a5 e he
  have c3 := (hI.2.2.2.2.1 e he).2.2.1
  have hv : 8 ≤ gp_hv G e ∧ gp_hv G e ≤ 20 := by unfold gp_hv; unfold gv_p at b2; omega
  unfold gp_again
  split
  · have h1 := iv_again1 hI he hK hs hu
    have h2 : gv_I (K + 1) (gp_piece (gp_again1 G e) e) := iv_piece h1 he (by simp +decide only [gp_again1, gs_f]; exact hs) (by simp +decide only [gp_again1, gs_f]; unfold gv_p at b2; omega)
    obtain ⟨d1, d2, d3, d4, d5, d6⟩ := h2.2.2.2.2.1 e he
    refine iv_put h2 ?_
    unfold gv_E
    simp +decide only [gs_s, gs_f]
    refine ⟨d1, d2, ?_, d4, d5, d6⟩
    unfold gv_c at *
    omega
  · refine ⟨a1, a2, a3, a4, gv_up (e := e) (n := gm_N G) a5 (fun e' q f => ?_) (fun e' q => rfl) ?_, a6, a7, a8⟩
    · simp only [gs_e q]
    · unfold gv_E
      simp +decide only [gs_s, gs_f]
      refine ⟨b1, b2, ?_, b4, b5, b6⟩
      unfold gv_c at *; split <;> omega
theorem iv_win {K : Int} {G : gm_T} {e k : Nat} (hI : gv_I K G) (he : e < 2) (hk : k < 32) : gv_I K (gp_win G e k) := by
  obtain ⟨a1, a2, a3, a4, a5, a6, a7, a8⟩ := hI
  obtain ⟨b1, b2, b3, b4, b5, b6⟩ := a5 e he
  have l1 := a6.1 k hk
  unfold gp_win
  split
  · refine ⟨a1, a2, a3, a4, gv_up (e := e) (n := gm_N G) a5 (fun e' q f => ?_) (fun e' q => rfl) ?_, a6, a7, a8⟩
    · simp only [gs_e q]
    · unfold gv_E
      simp +decide only [gs_s, gs_f]
      refine ⟨b1, b2, ?_, b4, b5, b6⟩
      unfold gv_c at *; omega
  · exact ⟨a1, a2, a3, a4, a5, a6, a7, a8⟩
theorem iv_over' {K : Int} {G : gm_T} {e : Nat} {z : Int} (hI : gv_I K G) (he : e < 2) (h1 : 0 ≤ z) (h2 : z ≤ 6) : gv_I K (gp_over (gp_put G 20 e z) e 2) := by
  obtain ⟨a1, a2, a3, a4, a5, a6, a7, a8⟩ := hI
  obtain ⟨b1, b2, b3, b4, b5, b6⟩ := a5 e he
  refine ⟨a1, a2, a3, a4, gv_up (e := e) (n := gm_N G) a5 (fun e' q f => ?_) (fun e' q => ?_) ?_, a6, a7, a8⟩
  · simp only [gp_over, gp_put, gs_e q]
  · exact nn_O q
  · have hh : gm_H (gp_over (gp_put G 20 e z) e 2) e = fun _ => false := nn_E
    unfold gv_E
    rw [hh]
    simp +decide only [gp_over, gp_put, gs_s, gs_f]
    refine ⟨?_, ?_, ?_, ?_, ?_, ?_⟩
    · unfold gv_a at *; omega
    · unfold gv_p at *; omega
    · unfold gv_c at *; omega
    · unfold gv_d at *; omega
    · unfold gv_t at *; omega
    · unfold gv_r at *
      obtain ⟨q1, q2, q3, q4, q5, q6, q7, q8⟩ := b6
      exact ⟨q1, q2, q3, q4, q5, q6, q7, by omega, by omega, by omega, by omega, fun p z => by cases z⟩
theorem iv_late2 {K : Int} {G : gm_T} {e : Nat} (hI : gv_I K G) (he : e < 2) (h4 : 4 ≤ G.1 0 e) : gv_I K (gp_late2 G e) := by
  obtain ⟨a1, a2, a3, a4, a5, a6, a7, a8⟩ := hI
  obtain ⟨b1, b2, b3, b4, b5, b6⟩ := a5 e he
  have hv : 8 ≤ gp_hv G e ∧ gp_hv G e ≤ 20 := by unfold gp_hv; unfold gv_p at b2; omega
  refine ⟨a1, a2, a3, a4, gv_up (e := e) (n := gm_N G) a5 (fun e' q f => ?_) (fun e' q => rfl) ?_, a6, a7, a8⟩
  · simp only [gp_late2, gs_e q]
  · unfold gv_E
    simp +decide only [gp_late2, gs_s, gs_f]
    generalize gp_hv G e = hv at *
    refine ⟨b1, ?_, ?_, b4, b5, b6⟩
    · unfold gv_p at *; omega
    · unfold gv_c at *; omega
theorem iv_late {K : Int} {G : gm_T} {e : Nat} (hI : gv_I K G) (he : e < 2) (hs : 2 ≤ G.1 0 e) : gv_I K (gp_late G e) := by
  have hI0 := hI
  obtain ⟨a1, a2, a3, a4, a5, a6, a7, a8⟩ := hI
  obtain ⟨b1, b2, b3, b4, b5, b6⟩ := a5 e he
  unfold gp_late
  split
  · exact iv_over' hI0 he (by decide) (by decide)
  · rename_i hn
    have htr : 0 ≤ gp_tr G e ∧ gp_tr G e ≤ 5 := by unfold gp_tr; unfold gv_c at b3; split <;> omega
    have h1 : gv_I K (gp_late1 G e) := by
      refine ⟨a1, a2, a3, a4, gv_up (e := e) (n := gm_N G) a5 (fun e' q f => ?_) (fun e' q => rfl) ?_, a6, a7, a8⟩
      · simp only [gp_late1, gs_e q]
      · unfold gv_E
        simp +decide only [gp_late1, gs_s, gs_f]
        generalize gp_tr G e = tr at *
        refine ⟨b1, b2, ?_, ?_, ?_, b6⟩
        · unfold gv_c at *; omega
        · unfold gv_c gv_d at *; omega
        · unfold gv_t at *; omega
    have hST : (gp_late1 G e).1 0 e = G.1 0 e := by simp +decide only [gp_late1, gs_f]
    have hUU : (gp_late1 G e).1 3 e = G.1 3 e := by simp +decide only [gp_late1, gs_f]
    have hMM : (gp_late1 G e).1 5 e = G.1 5 e := by simp +decide only [gp_late1, gs_f]
    split
    · exact iv_send h1 he (by omega) (Or.inl rfl) (by omega) (by omega) (Or.inr (Or.inl rfl))
    · rename_i hum
      split
      · refine iv_send h1 he (by omega) (Or.inr (Or.inl rfl)) (by omega) (by omega) (Or.inl ?_)
        rw [hMM, show gp_len 1 0 = 1 from by decide]; unfold gv_p at b2; omega
      · rename_i h4
        have hv : 8 ≤ gp_hv (gp_late1 G e) e ∧ gp_hv (gp_late1 G e) e ≤ 20 := by unfold gp_hv; rw [hUU, hMM]; unfold gv_p at b2; omega
        have h2 : gv_I K (gp_late2 (gp_late1 G e) e) := by
          obtain ⟨a1, a2, a3, a4, a5, a6, a7, a8⟩ := h1
          obtain ⟨b1, b2, b3, b4, b5, b6⟩ := a5 e he
          refine ⟨a1, a2, a3, a4, gv_up (e := e) (n := gm_N G) a5 (fun e' q f => ?_) (fun e' q => rfl) ?_, a6, a7, a8⟩
          · simp only [gp_late2, gs_e q]
          · unfold gv_E
            simp +decide only [gp_late2, gs_s, gs_f]
            generalize gp_hv (gp_late1 G e) e = hv at *
            refine ⟨b1, ?_, ?_, b4, b5, b6⟩
            · rw [hUU, hST] at *; unfold gv_p at *; omega
            · unfold gv_c at *; omega
        split
        · exact iv_piece h2 he (by simp +decide only [gp_late2, gs_f]; omega) (by simp +decide only [gp_late2, gs_f]; rw [hUU, hMM]; unfold gv_p at b2; omega)
        · exact iv_flow h2 he
