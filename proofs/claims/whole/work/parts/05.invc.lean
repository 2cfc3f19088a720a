/-! the bounds last: an end begins, opens, takes acknowledgements -/
theorem bg_o {G : gm_T} {e e' : Nat} {iss : Int} (q : e' ≠ e) (f : Nat) : (gp_begin G e iss).1 f e' = G.1 f e' := by
  simp only [gp_begin, if_neg q]
theorem bg_H {G : gm_T} {e : Nat} {iss : Int} : gm_H (gp_begin G e iss) e = fun _ => false := nn_E
theorem iv_listen {K : Int} {G : gm_T} {e : Nat} {iss : Int} (hI : gv_I K G) (he : e < 2) (h1 : 0 ≤ iss) (h2 : iss ≤ 65535) : gv_I K (gp_put (gp_begin G e iss) 0 e 1) := by
  obtain ⟨a1, a2, a3, a4, a5, a6, a7, a8⟩ := hI
  obtain ⟨b1, b2, b3, b4, b5, b6⟩ := a5 e he
  refine ⟨a1, a2, a3, a4, gv_up (e := e) (n := gm_N G) a5 (fun e' q f => ?_) (fun e' q => ?_) ?_, a6, a7, a8⟩
  · simp only [gp_put, gs_e q, bg_o q]
  · exact nn_O q
  · have hh : gm_H (gp_put (gp_begin G e iss) 0 e 1) e = fun _ => false := bg_H (iss := iss)
    unfold gv_E
    rw [hh]
    simp +decide only [gp_put, gp_begin, gs_s, gs_f, ↓reduceIte]
    refine ⟨?_, ?_, ?_, ?_, ?_, ?_⟩
    · unfold gv_a at *; omega
    · unfold gv_p at *; omega
    · unfold gv_c at *; omega
    · unfold gv_d at *; omega
    · unfold gv_t at *; omega
    · unfold gv_r at *
      exact ⟨by omega, by omega, by omega, by omega, by omega, by omega, by omega, by omega, by omega, by omega, by omega, fun p z => by cases z⟩
/-- the first segment of an end -/
theorem iv_syn {K : Int} {G : gm_T} {e : Nat} {s : Int} (hI : gv_I K (gp_put G 0 e 1)) (he : e < 2) (hs : s = 2 ∨ s = 3) (hu : s = 3 → G.1 10 e + G.1 9 e = G.1 8 e) : gv_I K (gp_put (gp_send (gp_put G 0 e s) e 0 1 0) 4 e 1) := by
  obtain ⟨a1, a2, a3, a4, a5, a6, a7, a8⟩ := hI
  obtain ⟨b1, b2, b3, b4, b5, b6⟩ := a5 e he
  rw [show gm_N (gp_put G 0 e 1) = gm_N G from rfl] at b4 b5
  simp +decide only [gp_put, gs_s, gs_f] at b1 b2 b3 b4 b5 b6
  have hl : gp_len 1 0 = 1 := by decide
  refine ⟨a1, a2, a3, a4, gv_up (e := e) (n := gm_N G) a5 (fun e' q f => ?_) (fun e' q => rfl) ?_, ?_, a7, a8⟩
  · show gs_c _ _ _ _ _ _ = gs_c _ _ _ _ _ _
    rw [gs_e q, sd_o q, gs_e q]
    exact gs_e q
  · have e1 : (gp_put G 0 e s).1 5 e = 0 := by rw [pu_f (by decide)]; unfold gv_p at b2; omega
    have e2 : (gp_put G 0 e s).1 24 e < 0 := by rw [pu_f (by decide)]; unfold gv_t at b5; omega
    have e3 : (gp_put G 0 e s).1 21 e < 0 := by rw [pu_f (by decide)]; unfold gv_d at b4; omega
    have sM : (gp_send (gp_put G 0 e s) e 0 1 0).1 5 e = 1 := by rw [sd_M, hl, e1]; rfl
    have sT : (gp_send (gp_put G 0 e s) e 0 1 0).1 24 e = 0 := by rw [sd_TM, hl, if_pos ⟨by decide, e1.symm, e2⟩]
    have sA : (gp_send (gp_put G 0 e s) e 0 1 0).1 25 e = gm_N G := by rw [sd_TA, hl, if_pos ⟨by decide, e1.symm, e2⟩]; rfl
    have sR : (gp_send (gp_put G 0 e s) e 0 1 0).1 21 e = gm_N G + G.1 19 e := by rw [sd_RY, hl, if_pos ⟨by decide, e3⟩]; rfl
    have sW : (gp_send (gp_put G 0 e s) e 0 1 0).1 30 e = if G.1 30 e < 16 then G.1 30 e + 1 else G.1 30 e := by rw [sd_RW]; rfl
    have sS : (gp_send (gp_put G 0 e s) e 0 1 0).1 0 e = s := by rw [sd_f (by decide) (by decide) (by decide) (by decide) (by decide) (by decide)]; exact gs_s
    have sf : ∀ f, f ≠ 30 → f ≠ 22 → f ≠ 25 → f ≠ 24 → f ≠ 5 → f ≠ 21 → f ≠ 0 → (gp_send (gp_put G 0 e s) e 0 1 0).1 f e = G.1 f e := fun f h1 h2 h3 h4 h5 h6 h7 => by rw [sd_f h1 h2 h3 h4 h5 h6]; exact gs_f h7
    unfold gv_E
    simp +decide only [gp_put, gs_s, gs_f]
    simp only [gp_put] at sM sT sA sR sW sS sf
    rw [sM, sT, sA, sR, sW, sS, sd_AK]
    simp +decide only [sf]
    refine ⟨?_, ?_, ?_, ?_, ?_, ?_⟩
    · unfold gv_a at *; split <;> omega
    · unfold gv_p at *; omega
    · unfold gv_c at *; omega
    · unfold gv_c at b3; unfold gv_d at *; omega
    · unfold gv_p at b2; unfold gv_t at *; omega
    · unfold gv_r at *
      obtain ⟨q1, q2, q3, q4, q5, q6, q7, q8, q9, qa, qb, qc⟩ := b6
      exact ⟨q1, q2, q3, q4, q5, q6, q7, by omega, by omega, qa, by omega, fun p z => by have := qc p z; omega⟩
  · have := (iv_post (K := K) (G := gp_put G 0 e 1) (e := e) (num := ((gp_put G 0 e s).1 2 e + 0) % 65536) (flag := if (gp_put G 0 e s).1 0 e = 2 then 1 else 1 + 2) (ack := if (gp_put G 0 e s).1 0 e = 2 then 0 else ((gp_put G 0 e s).1 7 e + (gp_put G 0 e s).1 8 e) % 65536) (win := 24 - (gp_put G 0 e s).1 9 e) (n := 0) (g := fun i => gm_W (gp_put G 0 e s) e (0 + i)) ⟨a1, a2, a3, a4, a5, a6, a7, a8⟩ he (by omega) (by split <;> omega) (by split <;> omega) (by show 0 ≤ 24 - G.1 9 e ∧ 24 - G.1 9 e ≤ 24; unfold gv_r at b6; omega) (by omega) (fun i _ _ => a7 e he _)).2.2.2.2.2.1
    exact this
theorem iv_open {K : Int} {G : gm_T} {e : Nat} {act : Bool} {iss : Int} (hI : gv_I K G) (he : e < 2) (h1 : 0 ≤ iss) (h2 : iss ≤ 65535) : gv_I K (gp_open G e act iss) := by
  unfold gp_open
  split
  · exact iv_syn (iv_listen hI he h1 h2) he (Or.inl rfl) (fun z => by omega)
  · exact iv_listen hI he h1 h2
theorem iv_hear {K : Int} {G : gm_T} {e k : Nat} (hI : gv_I K G) (he : e < 2) (hk : k < 32) (hs : G.1 0 e = 1 ∨ G.1 0 e = 2) : gv_I K (gp_hear G e k) := by
  obtain ⟨a1, a2, a3, a4, a5, a6, a7, a8⟩ := hI
  obtain ⟨b1, b2, b3, b4, b5, b6⟩ := a5 e he
  have l1 := a6.1 k hk
  refine ⟨a1, a2, a3, a4, gv_up (e := e) (n := gm_N G) a5 (fun e' q f => ?_) (fun e' q => rfl) ?_, a6, a7, a8⟩
  · simp only [gp_hear, gs_e q]
  · unfold gv_E
    simp +decide only [gp_hear, gs_s, gs_f]
    refine ⟨b1, b2, ?_, b4, b5, ?_⟩
    · unfold gv_c at *; omega
    · unfold gv_r at *
      obtain ⟨q1, q2, q3, q4, q5, q6, q7, q8, q9, qa, qb, qc⟩ := b6
      exact ⟨by omega, by omega, by omega, by omega, q5, q6, by omega, q8, by omega, qa, by omega, fun p z => by have := qc p z; omega⟩
theorem iv_toListen {K : Int} {G : gm_T} {e k : Nat} (hI : gv_I K G) (he : e < 2) (hk : k < 32) (hs : G.1 0 e = 1) : gv_I K (gp_toListen G e k) := by
  have l1 := hI.2.2.2.2.2.1.1 k hk
  unfold gp_toListen
  split
  · exact hI
  · split
    · exact iv_rst hI he (by omega) (by omega) (by omega)
    · split
      · have h1 := iv_hear hI he hk (Or.inl hs)
        refine iv_syn ?_ he (Or.inr rfl) (fun _ => ?_)
        · have e1 : gs_c (gp_hear G e k).1 0 e 1 = (gp_hear G e k).1 := by
            funext f e'
            by_cases q : f = 0 ∧ e' = e
            · obtain ⟨rfl, rfl⟩ := q
              rw [gs_s]; simp +decide only [gp_hear, gs_f]; exact hs.symm
            · exact if_neg q
          show gv_I K (gs_c (gp_hear G e k).1 0 e 1, (gp_hear G e k).2)
          rw [e1]; exact h1
        · simp +decide only [gp_hear, gs_s, gs_f]
          obtain ⟨b1, b2, b3, b4, b5, b6⟩ := hI.2.2.2.2.1 e he
          unfold gv_r at b6; omega
      · exact hI
theorem iv_toClosed {K : Int} {G : gm_T} {e k : Nat} (hI : gv_I K G) (he : e < 2) (hk : k < 32) : gv_I K (gp_toClosed G e k) := by
  have l1 := hI.2.2.2.2.2.1.1 k hk
  unfold gp_toClosed
  split
  · exact hI
  · split
    · exact iv_rst hI he (by omega) (by omega) (by omega)
    · exact iv_rst hI he (by omega) (by omega) (by omega)
theorem iv_reset {K : Int} {G : gm_T} {e : Nat} (hI : gv_I K G) (he : e < 2) : gv_I K (gp_reset G e) := iv_over hI he (by split <;> omega) (by split <;> omega)
theorem iv_opened {K : Int} {G : gm_T} {e : Nat} (hI : gv_I K G) (he : e < 2) (hs : G.1 0 e = 2) (hu : G.1 10 e + G.1 9 e = G.1 8 e) : gv_I K (gp_put (gp_tmeas (gp_opened G e) e) 0 e 4) := by
  obtain ⟨a1, a2, a3, a4, a5, a6, a7, a8⟩ := hI
  obtain ⟨b1, b2, b3, b4, b5, b6⟩ := a5 e he
  have hT : (gp_opened G e).1 24 e = G.1 24 e := by simp +decide only [gp_opened, gs_f]
  have hr : 2 ≤ gp_rt (gp_opened G e) e ∧ gp_rt (gp_opened G e) e ≤ 64 := by unfold gp_rt; split <;> (try split) <;> omega
  unfold gp_tmeas
  rw [hT]
  by_cases z : 0 ≤ G.1 24 e
  · rw [if_pos z]
    have hso : 0 ≤ gp_so (gp_opened G e) e ∧ gp_so (gp_opened G e) e ≤ 8 * gm_N G := by
      unfold gp_so; rw [show gm_N (gp_opened G e) = gm_N G from rfl]; simp +decide only [gp_opened, gs_f]; unfold gv_t at b5; split <;> omega
    have hva : 0 ≤ gp_va (gp_opened G e) e ∧ gp_va (gp_opened G e) e ≤ 4 * gm_N G + 3 := by
      unfold gp_va; rw [show gm_N (gp_opened G e) = gm_N G from rfl]; simp +decide only [gp_opened, gs_f]; unfold gv_t at b5; split <;> (try split) <;> omega
    refine ⟨a1, a2, a3, a4, gv_up (e := e) (n := gm_N G) a5 (fun e' q f => ?_) (fun e' q => rfl) ?_, a6, a7, a8⟩
    · simp only [gp_put, gp_meas, gp_opened, gs_e q]
    · unfold gv_E
      simp +decide only [gp_put, gp_meas, gs_s, gs_f]
      generalize gp_so (gp_opened G e) e = so at *
      generalize gp_va (gp_opened G e) e = va at *
      generalize gp_rt (gp_opened G e) e = rt at *
      simp +decide only [gp_opened, gs_s, gs_f]
      refine ⟨?_, ?_, ?_, ?_, ?_, ?_⟩
      · unfold gv_a at *; omega
      · unfold gv_p at *; omega
      · unfold gv_c at *; omega
      · unfold gv_d at *; omega
      · unfold gv_t at *; omega
      · unfold gv_r at *
        obtain ⟨q1, q2, q3, q4, q5, q6, q7, q8, q9, qa, qb, qc⟩ := b6
        exact ⟨q1, q2, q3, q4, q5, q6, q7, by omega, by omega, qa, by omega, fun p z => by have := qc p z; omega⟩
  · rw [if_neg z]
    refine ⟨a1, a2, a3, a4, gv_up (e := e) (n := gm_N G) a5 (fun e' q f => ?_) (fun e' q => rfl) ?_, a6, a7, a8⟩
    · simp only [gp_put, gp_opened, gs_e q]
    · unfold gv_E
      simp +decide only [gp_put, gp_opened, gs_s, gs_f]
      refine ⟨?_, ?_, ?_, ?_, ?_, ?_⟩
      · unfold gv_a at *; omega
      · unfold gv_p at *; omega
      · unfold gv_c at *; omega
      · unfold gv_d at *; omega
      · unfold gv_t at *; omega
      · unfold gv_r at *
        obtain ⟨q1, q2, q3, q4, q5, q6, q7, q8, q9, qa, qb, qc⟩ := b6
        exact ⟨q1, q2, q3, q4, q5, q6, q7, by omega, by omega, qa, by omega, fun p z => by have := qc p z; omega⟩
theorem iv_half {K : Int} {G : gm_T} {e : Nat} (hI : gv_I K G) (he : e < 2) (hs : G.1 0 e = 2) (hu : G.1 10 e + G.1 9 e = G.1 8 e) : gv_I K (gp_put G 0 e 3) := by
  obtain ⟨b1, b2, b3, b4, b5, b6⟩ := hI.2.2.2.2.1 e he
  refine iv_put hI ?_
  unfold gv_E
  simp +decide only [gs_s, gs_f]
  refine ⟨?_, ?_, ?_, ?_, ?_, ?_⟩
  · unfold gv_a at *; omega
  · unfold gv_p at *; omega
  · unfold gv_c at *; omega
  · unfold gv_d at *; omega
  · unfold gv_t at *; omega
  · unfold gv_r at *
    obtain ⟨q1, q2, q3, q4, q5, q6, q7, q8, q9, qa, qb, qc⟩ := b6
    exact ⟨q1, q2, q3, q4, q5, q6, q7, by omega, by omega, qa, by omega, fun p z => by have := qc p z; omega⟩
theorem iv_toOpen {K : Int} {G : gm_T} {e k : Nat} (hI : gv_I K G) (he : e < 2) (hk : k < 32) (hs : G.1 0 e = 2) : gv_I K (gp_toOpen G e k) := by
  have l1 := hI.2.2.2.2.2.1.1 k hk
  have hh := iv_hear hI he hk (Or.inr hs)
  have h2 : (gp_hear G e k).1 0 e = 2 := by simp +decide only [gp_hear, gs_f]; exact hs
  have h3 : (gp_hear G e k).1 10 e + (gp_hear G e k).1 9 e = (gp_hear G e k).1 8 e := by
    simp +decide only [gp_hear, gs_s, gs_f]
    obtain ⟨b1, b2, b3, b4, b5, b6⟩ := hI.2.2.2.2.1 e he
    unfold gv_r at b6; omega
  unfold gp_toOpen
  split
  · split
    · exact hI
    · exact iv_rst hI he (by omega) (by omega) (by omega)
  · split
    · split
      · exact iv_reset hI he
      · exact hI
    · split
      · split
        · refine iv_flow (iv_ack (iv_opened hh he h2 h3) he ?_) he
          show 2 ≤ gs_c _ _ _ _ _ _
          rw [gs_s]; decide
        · have h4 := iv_half hh he h2 h3
          refine iv_flow (iv_send h4 he ?_ (Or.inr (Or.inl rfl)) (by omega) (by omega) (Or.inl ?_)) he
          · show 2 ≤ gs_c _ _ _ _ _ _
            rw [gs_s]; decide
          · rw [pu_f (by decide), show gp_len 1 0 = 1 from by decide]
            obtain ⟨b1, b2, b3, b4, b5, b6⟩ := hh.2.2.2.2.1 e he
            unfold gv_p at b2; omega
      · exact hI
