/-! the bounds last: sending -/
theorem iv_post {K : Int} {G : gm_T} {e : Nat} {num flag ack win n : Int} {g : Int → Int} (hI : gv_I K G) (he : e < 2) (h1 : 0 ≤ num ∧ num ≤ 65535) (h2 : 0 ≤ flag ∧ flag ≤ 15) (h3 : 0 ≤ ack ∧ ack ≤ 65535) (h4 : 0 ≤ win ∧ win ≤ 24) (h5 : 0 ≤ n ∧ n ≤ 8) (h6 : ∀ i, 0 ≤ i → i < n → 0 ≤ g i ∧ g i ≤ 255) : gv_I K (gp_post G e num flag ack win n g) := by
  obtain ⟨a1, a2, a3, a4, a5, a6, a7, a8⟩ := hI
  refine ⟨a1, a2, a3, a4, gv_up (e := e) (n := gm_N G) a5 (fun e' q f => gs_e q) (fun e' q => rfl) ?_, ?_, a7, a8⟩
  · obtain ⟨b1, b2, b3, b4, b5, b6⟩ := a5 e he
    refine ⟨?_, b2, b3, b4, b5, b6⟩
    show gv_a (G.1 0 e) (G.1 1 e) (G.1 2 e) (gs_c G.1 30 e _ 30 e)
    rw [gs_s]
    unfold gv_a at *
    split <;> omega
  · show gv_L (if G.1 30 e < 16 then _ else _) (if G.1 30 e < 16 then _ else _)
    by_cases q : G.1 30 e < 16
    · rw [if_pos q, if_pos q]; exact gv_lpost a6 h1 h2 h3 h4 h5 h6
    · rw [if_neg q, if_neg q]; exact a6
theorem iv_rst {K : Int} {G : gm_T} {e : Nat} {num flag ack : Int} (hI : gv_I K G) (he : e < 2) (h1 : 0 ≤ num ∧ num ≤ 65535) (h2 : 0 ≤ flag ∧ flag ≤ 15) (h3 : 0 ≤ ack ∧ ack ≤ 65535) : gv_I K (gp_rst G e num flag ack) :=
  iv_post hI he h1 h2 h3 (by omega) (by omega) (fun i _ _ => by omega)
/-- the values behind a send -/
theorem sd_M {G : gm_T} {e : Nat} {fr flag n : Int} : (gp_send G e fr flag n).1 5 e = (if gp_len flag n ≠ 0 ∧ G.1 5 e < fr + gp_len flag n then fr + gp_len flag n else G.1 5 e) := by
  simp +decide only [gp_send, gt_4, gt_3, gt_2, gt_1, gp_sp, gp_post, gs_s, gs_f, gm_N]
theorem sd_RY {G : gm_T} {e : Nat} {fr flag n : Int} : (gp_send G e fr flag n).1 21 e = (if gp_len flag n ≠ 0 ∧ G.1 21 e < 0 then gm_N G + G.1 19 e else G.1 21 e) := by
  simp +decide only [gp_send, gt_4, gt_3, gt_2, gt_1, gp_sp, gp_post, gs_s, gs_f, gm_N]
theorem sd_TM {G : gm_T} {e : Nat} {fr flag n : Int} : (gp_send G e fr flag n).1 24 e = (if gp_len flag n ≠ 0 ∧ fr = G.1 5 e ∧ G.1 24 e < 0 then fr else G.1 24 e) := by
  simp +decide only [gp_send, gt_4, gt_3, gt_2, gt_1, gp_sp, gp_post, gs_s, gs_f, gm_N]
theorem sd_TA {G : gm_T} {e : Nat} {fr flag n : Int} : (gp_send G e fr flag n).1 25 e = (if gp_len flag n ≠ 0 ∧ fr = G.1 5 e ∧ G.1 24 e < 0 then gm_N G else G.1 25 e) := by
  simp +decide only [gp_send, gt_4, gt_3, gt_2, gt_1, gp_sp, gp_post, gs_s, gs_f, gm_N]
theorem sd_AK {G : gm_T} {e : Nat} {fr flag n : Int} : (gp_send G e fr flag n).1 22 e = -1 := by
  simp +decide only [gp_send, gt_4, gt_3, gt_2, gt_1, gp_sp, gp_post, gs_s, gs_f, gm_N]
theorem sd_RW {G : gm_T} {e : Nat} {fr flag n : Int} : (gp_send G e fr flag n).1 30 e = (if G.1 30 e < 16 then G.1 30 e + 1 else G.1 30 e) := by
  simp +decide only [gp_send, gt_4, gt_3, gt_2, gt_1, gp_sp, gp_post, gs_s, gs_f, gm_N]
theorem sd_o {G : gm_T} {e e' : Nat} {fr flag n : Int} (q : e' ≠ e) (f : Nat) : (gp_send G e fr flag n).1 f e' = G.1 f e' := by
  simp only [gp_send, gt_4, gt_3, gt_2, gt_1, gp_sp, gp_post, gs_e q]
theorem iv_send {K : Int} {G : gm_T} {e : Nat} {fr flag n : Int} (hI : gv_I K G) (he : e < 2) (hs : 2 ≤ G.1 0 e) (hf : flag = 0 ∨ flag = 1 ∨ flag = 4) (hn : 0 ≤ n) (hn8 : n ≤ 8) (hm : fr + gp_len flag n ≤ G.1 5 e ∨ gp_len flag n = 0 ∨ (4 ≤ G.1 0 e ∧ fr + gp_len flag n ≤ G.1 6 e + G.1 29 e)) : gv_I K (gp_send G e fr flag n) := by
  have hp0 := hI
  obtain ⟨a1, a2, a3, a4, a5, a6, a7, a8⟩ := hI
  obtain ⟨b1, b2, b3, b4, b5, b6⟩ := a5 e he
  have hl : 0 ≤ gp_len flag n := by unfold gp_len; omega
  have hp := iv_post (K := K) (G := G) (e := e) (num := (G.1 2 e + fr) % 65536) (flag := if G.1 0 e = 2 then flag else flag + 2) (ack := if G.1 0 e = 2 then 0 else (G.1 7 e + G.1 8 e) % 65536) (win := 24 - G.1 9 e) (n := n) (g := fun i => gm_W G e (fr + i)) hp0 he (by omega) (by split <;> omega) (by split <;> omega) (by unfold gv_r at b6; omega) ⟨hn, hn8⟩ (fun i _ _ => a7 e he _)
  obtain ⟨p1, p2, p3, p4, p5, p6, p7, p8⟩ := hp
  refine ⟨a1, a2, a3, a4, gv_up (e := e) (n := gm_N G) a5 (fun e' q f => sd_o q f) (fun e' q => rfl) ?_, p6, a7, a8⟩
  unfold gv_E
  rw [sd_M, sd_RY, sd_TM, sd_TA, sd_AK, sd_RW]
  refine ⟨?_, ?_, b3, ?_, ?_, b6⟩
  · show gv_a (G.1 0 e) (G.1 1 e) (G.1 2 e) _
    unfold gv_a at *
    split <;> omega
  · show gv_p K (G.1 0 e) (G.1 3 e) (G.1 4 e) _ (G.1 6 e) (G.1 29 e) (G.1 31 e) (G.1 32 e) (G.1 33 e)
    generalize gp_len flag n = len at *
    unfold gv_p at *
    obtain ⟨q1, q2, q3, q4, q5, q6⟩ := b2
    refine ⟨q1, q2, fun z => by omega, fun z => ?_, fun z => ?_, q6⟩
    · have := q4 z; split <;> omega
    · have := q5 z; split <;> omega
  · show gv_d (gm_N G) (G.1 0 e) _ _ (G.1 23 e)
    unfold gv_d gv_c at *
    split <;> omega
  · show gv_t (gm_N G) (G.1 0 e) (G.1 3 e) _ _ _ (G.1 26 e) (G.1 27 e) (G.1 28 e)
    generalize gp_len flag n = len at *
    unfold gv_t gv_p at *
    obtain ⟨q1, q2, q3⟩ := b5
    obtain ⟨r1, r2, r3, r4, r5, r6⟩ := b2
    have hM : 0 ≤ G.1 5 e ∧ G.1 3 e ≤ G.1 5 e := by omega
    refine ⟨?_, ?_, q3⟩
    · split <;> omega
    · intro z
      by_cases w : len ≠ 0 ∧ fr = G.1 5 e ∧ G.1 24 e < 0
      · rw [if_pos w, if_pos w]
        rw [if_pos ⟨w.1, by omega⟩]
        omega
      · rw [if_neg w] at z ⊢
        rw [if_neg w]
        have := q2 z
        split <;> omega
theorem iv_ack {K : Int} {G : gm_T} {e : Nat} (hI : gv_I K G) (he : e < 2) (hs : 2 ≤ G.1 0 e) : gv_I K (gp_ack G e) :=
  iv_send hI he hs (Or.inl rfl) (by omega) (by omega) (Or.inr (Or.inl rfl))
theorem sd_f {G : gm_T} {e e' : Nat} {fr flag n : Int} {f : Nat} (h1 : f ≠ 30) (h2 : f ≠ 22) (h3 : f ≠ 25) (h4 : f ≠ 24) (h5 : f ≠ 5) (h6 : f ≠ 21) : (gp_send G e fr flag n).1 f e' = G.1 f e' := by
  simp only [gp_send, gt_4, gt_3, gt_2, gt_1, gp_sp, gp_post, gs_f h1, gs_f h2, gs_f h3, gs_f h4, gs_f h5, gs_f h6]
theorem iv_put {K : Int} {G : gm_T} {f e : Nat} {z : Int} (hI : gv_I K G) (H : gv_E K (gm_N G) (gs_c G.1 f e z) (gm_H G) e) : gv_I K (gp_put G f e z) := by
  obtain ⟨a1, a2, a3, a4, a5, a6, a7, a8⟩ := hI
  exact ⟨a1, a2, a3, a4, gv_up (e := e) (n := gm_N G) a5 (fun e' q f => gs_e q) (fun e' q => rfl) H, a6, a7, a8⟩
theorem iv_setN {K : Int} {G : gm_T} {e : Nat} {z : Int} (hI : gv_I K G) (he : e < 2) (hs : 4 ≤ G.1 0 e) (h1 : G.1 3 e ≤ z) (h2 : z ≤ G.1 5 e) : gv_I K (gp_put G 4 e z) := by
  obtain ⟨b1, b2, b3, b4, b5, b6⟩ := hI.2.2.2.2.1 e he
  refine iv_put hI ⟨b1, ?_, b3, b4, b5, b6⟩
  show gv_p K (G.1 0 e) (G.1 3 e) (gs_c G.1 4 e z 4 e) (G.1 5 e) (G.1 6 e) (G.1 29 e) (G.1 31 e) (G.1 32 e) (G.1 33 e)
  rw [gs_s]
  obtain ⟨q1, q2, q3, q4, q5, q6⟩ := b2
  exact ⟨q1, q2, fun z => by omega, fun z => by omega, fun z => by have := q5 z; omega, q6⟩
theorem iv_setRY {K : Int} {G : gm_T} {e : Nat} {z : Int} (hI : gv_I K G) (he : e < 2) (hs : 2 ≤ G.1 0 e) (h1 : -1 ≤ z) (h2 : z ≤ gm_N G + 64) : gv_I K (gp_put G 21 e z) := by
  obtain ⟨b1, b2, b3, b4, b5, b6⟩ := hI.2.2.2.2.1 e he
  refine iv_put hI ⟨b1, b2, b3, ?_, b5, b6⟩
  show gv_d (gm_N G) (G.1 0 e) (gs_c G.1 21 e z 21 e) (G.1 22 e) (G.1 23 e)
  rw [gs_s]
  unfold gv_d at *
  omega
/-- one round of the flow -/
theorem iv_step {K : Int} {G : gm_T} {e : Nat} (hI : gv_I K G) (he : e < 2) (hs : 4 ≤ G.1 0 e) (hn : 0 < gp_nn G e) : gv_I K (gp_step G e) := by
  have h8 : gp_nn G e ≤ 8 ∧ gp_nn G e ≤ G.1 6 e - G.1 4 e := by unfold gp_nn; omega
  obtain ⟨b1, b2, b3, b4, b5, b6⟩ := hI.2.2.2.2.1 e he
  have hcl : 0 ≤ G.1 29 e ∧ G.1 3 e ≤ G.1 4 e := by unfold gv_p at b2; omega
  have hl : gp_len 0 (gp_nn G e) = gp_nn G e := by unfold gp_len; omega
  refine iv_setN (iv_send hI he (by omega) (Or.inl rfl) (by omega) (by omega) (Or.inr (Or.inr ⟨hs, by omega⟩))) he ?_ ?_ ?_
  · rw [sd_f (by decide) (by decide) (by decide) (by decide) (by decide) (by decide)]; exact hs
  · rw [sd_f (by decide) (by decide) (by decide) (by decide) (by decide) (by decide)]; omega
  · rw [sd_M, hl]; split <;> omega
theorem st_f {G : gm_T} {e e' : Nat} {f : Nat} (h1 : f ≠ 30) (h2 : f ≠ 22) (h3 : f ≠ 25) (h4 : f ≠ 24) (h5 : f ≠ 5) (h6 : f ≠ 21) (h7 : f ≠ 4) : (gp_step G e).1 f e' = G.1 f e' := by
  show gs_c _ _ _ _ _ _ = _
  rw [gs_f h7, sd_f h1 h2 h3 h4 h5 h6]
theorem st_N {G : gm_T} {e : Nat} : (gp_step G e).1 4 e = G.1 4 e + gp_nn G e := gs_s
theorem lo_f {f : Nat} (h1 : f ≠ 30) (h2 : f ≠ 22) (h3 : f ≠ 25) (h4 : f ≠ 24) (h5 : f ≠ 5) (h6 : f ≠ 21) (h7 : f ≠ 4) : ∀ (k : Nat) (G : gm_T) (e e' : Nat), (gp_loop k G e).1 f e' = G.1 f e' := by
  intro k
  induction k with
  | zero => intro G e e'; rfl
  | succ k ih =>
    intro G e e'
    unfold gp_loop
    split
    · rw [ih, st_f h1 h2 h3 h4 h5 h6 h7]
    · rfl
theorem iv_loop {K : Int} {e : Nat} (he : e < 2) : ∀ (k : Nat) (G : gm_T), gv_I K G → 4 ≤ G.1 0 e → gv_I K (gp_loop k G e) := by
  intro k
  induction k with
  | zero => intro G hI _; exact hI
  | succ k ih =>
    intro G hI hs
    unfold gp_loop
    split
    · refine ih _ (iv_step hI he hs (by omega)) ?_
      rw [st_f (by decide) (by decide) (by decide) (by decide) (by decide) (by decide) (by decide)]; exact hs
    · exact hI
theorem iv_fin {K : Int} {G : gm_T} {e : Nat} (hI : gv_I K G) (he : e < 2) (hs : 4 ≤ G.1 0 e) : gv_I K (gp_fin G e) := by
  unfold gp_fin
  split
  · rename_i q
    obtain ⟨b1, b2, b3, b4, b5, b6⟩ := hI.2.2.2.2.1 e he
    have hu : G.1 3 e ≤ G.1 4 e := by unfold gv_p at b2; omega
    have hl : gp_len 4 0 = 1 := by decide
    refine iv_setN (iv_send hI he (by omega) (Or.inr (Or.inr rfl)) (by omega) (by omega) (Or.inr (Or.inr ⟨hs, by omega⟩))) he ?_ ?_ ?_
    · rw [sd_f (by decide) (by decide) (by decide) (by decide) (by decide) (by decide)]; exact hs
    · rw [sd_f (by decide) (by decide) (by decide) (by decide) (by decide) (by decide)]; omega
    · rw [sd_M, hl]; split <;> omega
  · exact hI
theorem fi_f {G : gm_T} {e e' : Nat} {f : Nat} (h1 : f ≠ 30) (h2 : f ≠ 22) (h3 : f ≠ 25) (h4 : f ≠ 24) (h5 : f ≠ 5) (h6 : f ≠ 21) (h7 : f ≠ 4) : (gp_fin G e).1 f e' = G.1 f e' := by
  unfold gp_fin
  split
  · show gs_c _ _ _ _ _ _ = _
    rw [gs_f h7, sd_f h1 h2 h3 h4 h5 h6]
  · rfl
theorem iv_rest {K : Int} {G : gm_T} {e : Nat} (hI : gv_I K G) (he : e < 2) (hs : 4 ≤ G.1 0 e) : gv_I K (gp_rest G e) := by
  obtain ⟨b1, b2, b3, b4, b5, b6⟩ := hI.2.2.2.2.1 e he
  refine iv_setRY hI he (by omega) ?_ ?_
  · unfold gv_d gv_c at *; have := hI.2.2.1; split <;> omega
  · unfold gv_d gv_c at *; split <;> omega
theorem fl_f {f : Nat} (h1 : f ≠ 30) (h2 : f ≠ 22) (h3 : f ≠ 25) (h4 : f ≠ 24) (h5 : f ≠ 5) (h6 : f ≠ 21) (h7 : f ≠ 4) {G : gm_T} {e e' : Nat} : (gp_flow G e).1 f e' = G.1 f e' := by
  unfold gp_flow
  split
  · show gs_c _ _ _ _ _ _ = _
    rw [gs_f h6, fi_f h1 h2 h3 h4 h5 h6 h7, lo_f h1 h2 h3 h4 h5 h6 h7]
  · rfl
theorem iv_flow {K : Int} {G : gm_T} {e : Nat} (hI : gv_I K G) (he : e < 2) : gv_I K (gp_flow G e) := by
  unfold gp_flow
  split
  · have hs : 4 ≤ G.1 0 e := by omega
    have h1 : 4 ≤ (gp_loop 33 G e).1 0 e := by rw [lo_f (by decide) (by decide) (by decide) (by decide) (by decide) (by decide) (by decide)]; exact hs
    have h2 : 4 ≤ (gp_fin (gp_loop 33 G e) e).1 0 e := by rw [fi_f (by decide) (by decide) (by decide) (by decide) (by decide) (by decide) (by decide)]; exact h1
    exact iv_rest (iv_fin (iv_loop he 33 G hI hs) he h1) he h2
  · exact hI
theorem iv_piece {K : Int} {G : gm_T} {e : Nat} (hI : gv_I K G) (he : e < 2) (hs : 4 ≤ G.1 0 e) (hu : G.1 3 e < G.1 5 e) : gv_I K (gp_piece G e) := by
  have h8 : gp_pn G e ≤ 8 ∧ gp_pn G e ≤ G.1 5 e - G.1 3 e := by unfold gp_pn; omega
  unfold gp_piece
  split
  · have hl : gp_len 0 (gp_pn G e) = gp_pn G e := by unfold gp_len; omega
    exact iv_send hI he (by omega) (Or.inl rfl) (by omega) (by omega) (Or.inl (by omega))
  · have hl : gp_len 4 0 = 1 := by decide
    exact iv_send hI he (by omega) (Or.inr (Or.inr rfl)) (by omega) (by omega) (Or.inl (by omega))
theorem pc_f {f : Nat} (h1 : f ≠ 30) (h2 : f ≠ 22) (h3 : f ≠ 25) (h4 : f ≠ 24) (h5 : f ≠ 5) (h6 : f ≠ 21) {G : gm_T} {e e' : Nat} : (gp_piece G e).1 f e' = G.1 f e' := by
  unfold gp_piece
  split <;> rw [sd_f h1 h2 h3 h4 h5 h6]
theorem iv_meas {K : Int} {G : gm_T} {e : Nat} (hI : gv_I K G) (he : e < 2) (ht : 0 ≤ G.1 24 e) : gv_I K (gp_meas G e) := by
  obtain ⟨a1, a2, a3, a4, a5, a6, a7, a8⟩ := hI
  obtain ⟨b1, b2, b3, b4, b5, b6⟩ := a5 e he
  refine ⟨a1, a2, a3, a4, gv_up (e := e) (n := gm_N G) a5 (fun e' q f => ?_) (fun e' q => rfl) ?_, a6, a7, a8⟩
  · show gs_c (gs_c (gs_c (gs_c (gs_c _ _ _ _) _ _ _) _ _ _) _ _ _) _ _ _ _ _ = _
    rw [gs_e q, gs_e q, gs_e q, gs_e q, gs_e q]
  · have hr : 2 ≤ gp_rt G e ∧ gp_rt G e ≤ 64 := by unfold gp_rt; split <;> (try split) <;> omega
    have h1 : 0 ≤ gp_so G e ∧ gp_so G e ≤ 8 * gm_N G := by unfold gv_t at b5; unfold gp_so; split <;> omega
    have h2 : 0 ≤ gp_va G e ∧ gp_va G e ≤ 4 * gm_N G + 3 := by unfold gv_t at b5; unfold gp_va; split <;> (try split) <;> omega
    unfold gv_E
    simp +decide only [gp_meas, gs_s, gs_f]
    refine ⟨b1, b2, ?_, b4, ?_, b6⟩
    · unfold gv_c at *; omega
    · unfold gv_t at *; omega
theorem iv_over {K : Int} {G : gm_T} {e : Nat} {code : Int} (hI : gv_I K G) (he : e < 2) (h1 : 0 ≤ code) (h2 : code ≤ 2) : gv_I K (gp_over G e code) := by
  obtain ⟨a1, a2, a3, a4, a5, a6, a7, a8⟩ := hI
  obtain ⟨b1, b2, b3, b4, b5, b6⟩ := a5 e he
  refine ⟨a1, a2, a3, a4, gv_up (e := e) (n := gm_N G) a5 (fun e' q f => ?_) (fun e' q => ?_) ?_, a6, a7, a8⟩
  · simp only [gp_over, gs_e q]
  · exact nn_O q
  · have hh : gm_H (gp_over G e code) e = fun _ => false := nn_E
    unfold gv_E
    rw [hh]
    simp +decide only [gp_over, gs_s, gs_f]
    refine ⟨?_, ?_, ?_, ?_, ?_, ?_⟩
    · unfold gv_a at *; omega
    · unfold gv_p at *; omega
    · unfold gv_c at *; omega
    · unfold gv_d at *; omega
    · unfold gv_t at *; omega
    · unfold gv_r at *
      obtain ⟨q1, q2, q3, q4, q5, q6, q7, q8⟩ := b6
      exact ⟨q1, q2, q3, q4, q5, q6, q7, by omega, by omega, by omega, by omega, fun p z => by cases z⟩
