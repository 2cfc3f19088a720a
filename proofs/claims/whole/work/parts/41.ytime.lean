/-! the reference: time -/
theorem ov_YT {G : gm_T} {e : Nat} {z code : Int} : gp_over (gp_put G 35 e z) e code = gp_over G e code := by
  refine Prod.ext ?_ rfl
  funext f e'
  by_cases y : e' = e
  · subst y
    simp only [gp_over, gp_put, gs_c]
    by_cases z : f = 35
    · subst z; simp +decide only [true_and, and_true, ↓reduceIte]
    · simp only [z, false_and, ↓reduceIte]
  · rw [ov_o y, ov_o y, pu_o y]
theorem yl_late {q K : Int} {G : gm_T} {u : SY} {p : Int32} {P : SY → Prop} (hv : vy_S q G u) (hI : gv_I K G) (hp : vp_in p 2) (hs : 2 ≤ G.1 0 p.toNatClampNeg) (hP : ∀ u', vy_S q (gp_late G p.toNatClampNeg) u' → P u') : wpY_late P u p := by
  obtain ⟨f_now, f_sent, a_seq, a_flags, a_acked, a_window, a_many, a_data, a_rows, a_state, a_error, a_iss, a_una, a_nxt, a_max, a_last, a_closed, a_written, a_irs, a_unread, a_bytes, a_held, a_rcv, a_finAt, a_marked, a_wnd, a_peak, a_half, a_rto, a_same, a_tries, a_smooth, a_spread, a_byNumber, a_byAck, a_sampled, a_told, a_retry, a_ackAt, a_waitAt, a_timedAt, a_timed⟩ := u
  have hv0 := hv
  obtain ⟨h_now, h_sent, h_seq, h_flags, h_acked, h_window, h_many, h_data, h_rows, h_state, h_error, h_iss, h_una, h_nxt, h_max, h_last, h_closed, h_written, h_irs, h_unread, h_bytes, h_held, h_rcv, h_finAt, h_marked, h_wnd, h_peak, h_half, h_rto, h_same, h_tries, h_smooth, h_spread, h_byNumber, h_byAck, h_sampled, h_told, h_retry, h_ackAt, h_waitAt, h_timedAt, h_timed⟩ := hv0
  have he := pe_lt hp
  have n2 := hI.2.1
  obtain ⟨y1, y2, y3, y4⟩ := gv_yy hI he (by omega)
  obtain ⟨b1, b2, b3, b4, b5, b6⟩ := hI.2.2.2.2.1 _ he
  unfold gv_a at b1
  unfold gv_p at b2
  unfold gv_c at b3
  have hpos : 0 ≤ G.1 3 p.toNatClampNeg ∧ G.1 3 p.toNatClampNeg ≤ G.1 5 p.toNatClampNeg ∧ G.1 5 p.toNatClampNeg - G.1 3 p.toNatClampNeg ≤ 40 ∧ G.1 5 p.toNatClampNeg ≤ 10000 ∧ (G.1 0 p.toNatClampNeg < 4 → G.1 3 p.toNatClampNeg = 0 ∧ G.1 5 p.toNatClampNeg = 1) := by
    have r2 := b2.2.2.2.2.2
    have t := b2.1 (by omega)
    by_cases w : 4 ≤ G.1 0 p.toNatClampNeg
    · have := b2.2.2.2.2.1 w; omega
    · have := b2.2.2.2.1 (by omega); omega
  have htr : G.1 20 p.toNatClampNeg ≤ 5 := (b3.2.2.2.2.2.2.2.2.2.2.2.2.2.2.2.1 (by omega)).1
  have hIL : ¬ (G.1 3 p.toNatClampNeg ≠ G.1 5 p.toNatClampNeg ∧ G.1 20 p.toNatClampNeg + 1 = 6) → gv_I K (gp_late1 G p.toNatClampNeg) := by
    intro hn
    obtain ⟨a1, a2, a3, a4, a5, a6, a7, a8⟩ := hI
    obtain ⟨b1, b2, b3, b4, b5, b6⟩ := a5 _ he
    have htr : 0 ≤ gp_tr G p.toNatClampNeg ∧ gp_tr G p.toNatClampNeg ≤ 5 := by unfold gp_tr; unfold gv_c at b3; split <;> omega
    refine ⟨a1, a2, a3, a4, gv_up (e := p.toNatClampNeg) (n := gm_N G) a5 (fun e' q f => ?_) (fun e' q => rfl) ?_, a6, a7, a8⟩
    · simp only [gp_late1, gs_e q]
    · unfold gv_E
      simp +decide only [gp_late1, gs_s, gs_f]
      generalize gp_tr G p.toNatClampNeg = tr at *
      refine ⟨b1, b2, ?_, ?_, ?_, b6⟩
      · unfold gv_c at *; omega
      · unfold gv_c gv_d at *; omega
      · unfold gv_t at *; omega
  have s0 : ∀ f, f = 0 ∨ f = 3 ∨ f = 5 ∨ f = 2 ∨ f = 7 ∨ f = 6 ∨ f = 12 ∨ f = 32 → (gp_late1 G p.toNatClampNeg).1 f p.toNatClampNeg = G.1 f p.toNatClampNeg := by
    intro f hf
    rcases hf with rfl | rfl | rfl | rfl | rfl | rfl | rfl | rfl <;> simp +decide only [gp_late1, gs_f]
  have huna : a_una p.toNatClampNeg = zl_n (G.1 3 p.toNatClampNeg) := by rw [← y1]; exact h_una _ he
  have hP' : ∀ u', vy_S q (gp_late G p.toNatClampNeg) u' → (match u' with | (f_now, f_sent, a_seq, a_flags, a_acked, a_window, a_many, a_data, a_rows, a_state, a_error, a_iss, a_una, a_nxt, a_max, a_last, a_closed, a_written, a_irs, a_unread, a_bytes, a_held, a_rcv, a_finAt, a_marked, a_wnd, a_peak, a_half, a_rto, a_same, a_tries, a_smooth, a_spread, a_byNumber, a_byAck, a_sampled, a_told, a_retry, a_ackAt, a_waitAt, a_timedAt, a_timed) => P (f_now, f_sent, a_seq, a_flags, a_acked, a_window, a_many, a_data, a_rows, a_state, a_error, a_iss, a_una, a_nxt, a_max, a_last, a_closed, a_written, a_irs, a_unread, a_bytes, a_held, a_rcv, a_finAt, a_marked, a_wnd, a_peak, a_half, a_rto, a_same, a_tries, a_smooth, a_spread, a_byNumber, a_byAck, a_sampled, a_told, a_retry, a_ackAt, a_waitAt, a_timedAt, a_timed)) := by
    intro u1 hv1
    have := hP u1 hv1
    obtain ⟨f_now, f_sent, a_seq, a_flags, a_acked, a_window, a_many, a_data, a_rows, a_state, a_error, a_iss, a_una, a_nxt, a_max, a_last, a_closed, a_written, a_irs, a_unread, a_bytes, a_held, a_rcv, a_finAt, a_marked, a_wnd, a_peak, a_half, a_rto, a_same, a_tries, a_smooth, a_spread, a_byNumber, a_byAck, a_sampled, a_told, a_retry, a_ackAt, a_waitAt, a_timedAt, a_timed⟩ := u1
    exact this
  have k83 : ∀ (TX : Nat → Int32) (x2 z0 : Int32), ¬ (G.1 3 p.toNatClampNeg ≠ G.1 5 p.toNatClampNeg ∧ G.1 20 p.toNatClampNeg + 1 = 6) → (∀ e', e' < 2 → TX e' = zi_n ((gp_late1 G p.toNatClampNeg).1 35 e')) → (x2 = 0 ↔ ¬ G.1 3 p.toNatClampNeg = G.1 5 p.toNatClampNeg) → z0 = zi_n (min 64 (2 * G.1 19 p.toNatClampNeg)) → wY_late_83 P p x2 z0 p f_now f_sent a_seq a_flags a_acked a_window a_many a_data a_rows a_state a_error a_iss a_una a_nxt a_max a_last a_closed a_written a_irs a_unread a_bytes a_held a_rcv a_finAt a_marked a_wnd a_peak a_half a_rto a_same (TX) a_smooth a_spread a_byNumber a_byAck a_sampled a_told a_retry a_ackAt a_waitAt a_timedAt a_timed := by
    intro TX x2 z0 hn hTX hx2 hz0
    have hI1 := hIL hn
    have hv1 : vy_S q (gp_late1 G p.toNatClampNeg) (f_now, f_sent, a_seq, a_flags, a_acked, a_window, a_many, a_data, a_rows, a_state, a_error, a_iss, a_una, a_nxt, a_max, a_last, a_closed, a_written, a_irs, a_unread, a_bytes, a_held, a_rcv, a_finAt, a_marked, a_wnd, a_peak, a_half, upd a_rto p.toNatClampNeg z0, a_same, TX, a_smooth, a_spread, a_byNumber, a_byAck, a_sampled, a_told, upd a_retry p.toNatClampNeg (f_now + z0), a_ackAt, a_waitAt, a_timedAt, vp_updL a_timed p.toNatClampNeg (-1)) := by
      have o : ∀ e' f, e' ≠ p.toNatClampNeg → (gp_late1 G p.toNatClampNeg).1 f e' = G.1 f e' := fun e' f y => by simp only [gp_late1, gs_e y]
      clear hP hP' hIL huna
      generalize p.toNatClampNeg = e at *
      refine (vy_mk h_now h_sent h_seq h_flags h_acked h_window h_many h_data h_rows h_state h_error h_iss h_una h_nxt h_max h_last h_closed h_written h_irs h_unread h_bytes h_held h_rcv h_finAt h_marked h_wnd h_peak h_half (vu_e h_rto ?a1 (fun e' y => o e' 19 y)) h_same (hTX) h_smooth h_spread h_byNumber h_byAck h_sampled h_told (vu_e h_retry ?a2 (fun e' y => o e' 21 y)) h_ackAt h_waitAt h_timedAt (vu_l h_timed ?a3 (fun e' y => o e' 24 y)))
      case a1 => simp +decide only [gp_late1, gs_s, gs_f]; exact hz0
      case a2 => simp +decide only [gp_late1, gs_s, gs_f]; rw [h_now, hz0, zi_add]
      case a3 => simp +decide only [gp_late1, gs_s, gs_f] <;> rfl
    unfold wY_late_83
    refine ⟨hp, nm_e ⟨hp, hp, nm_r (e' := upd a_retry p.toNatClampNeg (f_now + z0)) (by rw [zu_s]) ⟨hp, nm_e ?_⟩⟩⟩
    by_cases w : G.1 3 p.toNatClampNeg = G.1 5 p.toNatClampNeg
    · have hl : gp_late G p.toNatClampNeg = gp_send (gp_late1 G p.toNatClampNeg) p.toNatClampNeg (G.1 3 p.toNatClampNeg - 1) 0 0 := by unfold gp_late; rw [if_neg hn, if_pos w]
      rw [hl] at hP'
      refine br_f (fun z => hx2.mp z w) ⟨hp, ?_⟩
      exact yl_send hv1 hp (by rw [huna, zk_l1, zl_sub]) zk_0 zk_0 (gv_ii hI1 he) (sk_of hI1 he (by rw [s0 0 (by omega)]; omega) (Or.inl rfl) (by omega) (by omega) (by rw [s0 3 (by omega)]; omega) (by rw [s0 5 (by omega)]; omega) (by omega)) hP'
    · refine br_t (hx2.mpr w) ⟨hp, ?_⟩
      by_cases h4 : 4 ≤ G.1 0 p.toNatClampNeg
      · have hl : gp_late G p.toNatClampNeg = if G.1 12 p.toNatClampNeg = 0 then gp_piece (gp_late2 (gp_late1 G p.toNatClampNeg) p.toNatClampNeg) p.toNatClampNeg else gp_flow (gp_late2 (gp_late1 G p.toNatClampNeg) p.toNatClampNeg) p.toNatClampNeg := by unfold gp_late; rw [if_neg hn, if_neg w, if_neg (by omega)]
        rw [hl, ← s0 12 (by omega)] at hP'
        have hI2 := iv_late2 hI1 he (by rw [s0 0 (by omega)]; omega)
        refine br_t (by rw [h_state _ he, zk_4, zi_le (by omega) (by omega) (by omega) (by omega)]; exact h4) ?_
        refine yl_halved hp (h_max _ he) huna (by omega) (by omega) ⟨hp, nm_e ⟨hp, nm_e ⟨hp, nm_e ⟨hp, hp, nm_e ⟨hp, ?_⟩⟩⟩⟩⟩
        have s4 := s0 0 (by omega)
        have s5 := s0 3 (by omega)
        have s6 := s0 5 (by omega)
        have s7 := s0 12 (by omega)
        have s8 := s0 32 (by omega)
        have hv2 : vy_S q (gp_late2 (gp_late1 G p.toNatClampNeg) p.toNatClampNeg) (f_now, f_sent, a_seq, a_flags, a_acked, a_window, a_many, a_data, a_rows, a_state, a_error, a_iss, a_una, vp_updL a_nxt p.toNatClampNeg (a_una p.toNatClampNeg), a_max, a_last, a_closed, a_written, a_irs, a_unread, a_bytes, a_held, a_rcv, a_finAt, a_marked, a_wnd, upd a_peak p.toNatClampNeg 8, upd a_half p.toNatClampNeg (zi_n (max 8 ((G.1 5 p.toNatClampNeg - G.1 3 p.toNatClampNeg) / 2))), upd a_rto p.toNatClampNeg z0, upd a_same p.toNatClampNeg 0, TX, a_smooth, a_spread, a_byNumber, a_byAck, a_sampled, a_told, upd a_retry p.toNatClampNeg (f_now + z0), a_ackAt, a_waitAt, a_timedAt, vp_updL a_timed p.toNatClampNeg (-1)) := by
          clear hP hP' hIL hl
          generalize gp_late1 G p.toNatClampNeg = G1 at *
          have o : ∀ e' f, e' ≠ p.toNatClampNeg → (gp_late2 G1 p.toNatClampNeg).1 f e' = G1.1 f e' := fun e' f y => by simp only [gp_late2, gs_e y]
          clear h_half h_peak h_same h_nxt
          obtain ⟨h_now, h_sent, h_seq, h_flags, h_acked, h_window, h_many, h_data, h_rows, h_state, h_error, h_iss, h_una, h_nxt, h_max, h_last, h_closed, h_written, h_irs, h_unread, h_bytes, h_held, h_rcv, h_finAt, h_marked, h_wnd, h_peak, h_half, h_rto, h_same, h_tries, h_smooth, h_spread, h_byNumber, h_byAck, h_sampled, h_told, h_retry, h_ackAt, h_waitAt, h_timedAt, h_timed⟩ := hv1
          refine (vy_mk h_now h_sent h_seq h_flags h_acked h_window h_many h_data h_rows h_state h_error h_iss h_una (vu_l h_nxt ?a4 (fun e' y => o e' 4 y)) h_max h_last h_closed h_written h_irs h_unread h_bytes h_held h_rcv h_finAt h_marked h_wnd (vu_e h_peak ?a2 (fun e' y => o e' 16 y)) (vu_e h_half ?a1 (fun e' y => o e' 17 y)) h_rto (vu_e h_same ?a3 (fun e' y => o e' 34 y)) h_tries h_smooth h_spread h_byNumber h_byAck h_sampled h_told h_retry h_ackAt h_waitAt h_timedAt h_timed)
          case a1 => simp +decide only [gp_late2, gs_s, gs_f]; unfold gp_hv; rw [s5, s6]
          case a2 => simp +decide only [gp_late2, gs_s, gs_f] <;> rfl
          case a3 => simp +decide only [gp_late2, gs_s, gs_f] <;> rfl
          case a4 => simp +decide only [gp_late2, gs_s, gs_f]; rw [s5]; exact huna
        have t4 : (gp_late2 (gp_late1 G p.toNatClampNeg) p.toNatClampNeg).1 0 p.toNatClampNeg = G.1 0 p.toNatClampNeg := by simp +decide only [gp_late2, gs_f]; exact s4
        have t5 : (gp_late2 (gp_late1 G p.toNatClampNeg) p.toNatClampNeg).1 3 p.toNatClampNeg = G.1 3 p.toNatClampNeg := by simp +decide only [gp_late2, gs_f]; exact s5
        have t6 : (gp_late2 (gp_late1 G p.toNatClampNeg) p.toNatClampNeg).1 5 p.toNatClampNeg = G.1 5 p.toNatClampNeg := by simp +decide only [gp_late2, gs_f]; exact s6
        by_cases w3 : G.1 12 p.toNatClampNeg = 0
        · rw [if_pos (by rw [s7]; exact w3)] at hP'
          exact br_t (by rw [h_wnd _ he, w3]; rfl) (yl_piece hv2 hI2 hp (by omega) (by omega) hP')
        · rw [if_neg (by rw [s7]; exact w3)] at hP'
          exact br_f (by rw [h_wnd _ he, zk_0, zi_eq (by omega) (by omega) (by omega) (by omega)]; exact w3) (yl_flow hv2 hI2 hp hP')
      · have hl : gp_late G p.toNatClampNeg = gp_send (gp_late1 G p.toNatClampNeg) p.toNatClampNeg 0 1 0 := by unfold gp_late; rw [if_neg hn, if_neg w, if_pos (by omega)]
        rw [hl] at hP'
        have := hpos.2.2.2.2 (by omega)
        refine br_f (by rw [h_state _ he, zk_4, zi_le (by omega) (by omega) (by omega) (by omega)]; exact h4) ?_
        exact yl_send hv1 hp zk_l0 zk_1 zk_0 (gv_ii hI1 he) (sk_of hI1 he (by rw [s0 0 (by omega)]; omega) (Or.inr (Or.inl rfl)) (by omega) (by omega) (by rw [s0 3 (by omega)]; omega) (by rw [s0 5 (by omega)]; omega) (by omega)) hP'
  have k54 : ∀ (TX : Nat → Int32) (x2 : Int32), ¬ (G.1 3 p.toNatClampNeg ≠ G.1 5 p.toNatClampNeg ∧ G.1 20 p.toNatClampNeg + 1 = 6) → (∀ e', e' < 2 → TX e' = zi_n ((gp_late1 G p.toNatClampNeg).1 35 e')) → (x2 = 0 ↔ ¬ G.1 3 p.toNatClampNeg = G.1 5 p.toNatClampNeg) → wY_late_54 P p x2 f_now f_sent a_seq a_flags a_acked a_window a_many a_data a_rows a_state a_error a_iss a_una a_nxt a_max a_last a_closed a_written a_irs a_unread a_bytes a_held a_rcv a_finAt a_marked a_wnd a_peak a_half a_rto a_same (TX) a_smooth a_spread a_byNumber a_byAck a_sampled a_told a_retry a_ackAt a_waitAt a_timedAt a_timed := by
    intro TX x2 hn hTX hx2
    unfold wY_late_54
    refine ⟨hp, ?_⟩
    by_cases w : G.1 19 p.toNatClampNeg ≤ 32
    · exact br_t (by rw [h_rto _ he, zk_32, zi_le (by omega) (by omega) (by omega) (by omega)]; exact w) ⟨hp, k83 TX x2 _ hn hTX hx2 (by rw [h_rto _ he, zk_2, zi_mul]; congr 1; omega)⟩
    · exact br_f (by rw [h_rto _ he, zk_32, zi_le (by omega) (by omega) (by omega) (by omega)]; exact w) (k83 TX x2 64 hn hTX hx2 (by rw [zk_64]; congr 1; omega))
  have vYT : (gp_late1 G p.toNatClampNeg).1 35 p.toNatClampNeg = gp_tr G p.toNatClampNeg := by simp +decide only [gp_late1, gs_s, gs_f]
  have oYT : ∀ e', e' ≠ p.toNatClampNeg → (gp_late1 G p.toNatClampNeg).1 35 e' = G.1 35 e' := fun e' y => by simp only [gp_late1, gs_e y]
  have htries : a_tries p.toNatClampNeg = zi_n (G.1 20 p.toNatClampNeg) := by rw [← y4]; exact h_tries _ he
  unfold wpY_late
  refine ⟨hp, hp, ?_⟩
  by_cases w : G.1 3 p.toNatClampNeg = G.1 5 p.toNatClampNeg
  · refine br_t (by rw [huna, h_max _ he, w]) ?_
    unfold wY_late_21
    refine br_f (by decide) (k54 a_tries 1 (fun z => z.1 w) (fun e' he' => ?_) ⟨fun z => absurd z (by decide), fun z => absurd w z⟩)
    by_cases y : e' = p.toNatClampNeg
    · rw [y, vYT]; unfold gp_tr; rw [if_pos w]; exact htries
    · rw [oYT e' y]; exact h_tries e' he'
  · refine br_f (by rw [huna, h_max _ he, zl_eq (by omega) (by omega) (by omega) (by omega)]; exact w) ?_
    unfold wY_late_21
    refine br_t rfl ⟨hp, hp, nm_r (e' := upd a_tries p.toNatClampNeg (zi_n (G.1 20 p.toNatClampNeg + 1))) (by rw [htries, zk_1, zi_add]) ⟨hp, ?_⟩⟩
    by_cases w2 : G.1 20 p.toNatClampNeg + 1 = 6
    · have hl : gp_late G p.toNatClampNeg = gp_over (gp_put G 20 p.toNatClampNeg 6) p.toNatClampNeg 2 := if_pos ⟨w, w2⟩
      rw [hl] at hP'
      have hv1 : vy_S q (gp_put (gp_put G 20 p.toNatClampNeg 6) 35 p.toNatClampNeg 6) (f_now, f_sent, a_seq, a_flags, a_acked, a_window, a_many, a_data, a_rows, a_state, a_error, a_iss, a_una, a_nxt, a_max, a_last, a_closed, a_written, a_irs, a_unread, a_bytes, a_held, a_rcv, a_finAt, a_marked, a_wnd, a_peak, a_half, a_rto, a_same, upd a_tries p.toNatClampNeg (zi_n (G.1 20 p.toNatClampNeg + 1)), a_smooth, a_spread, a_byNumber, a_byAck, a_sampled, a_told, a_retry, a_ackAt, a_waitAt, a_timedAt, a_timed) := by
        refine (vy_mk h_now h_sent h_seq h_flags h_acked h_window h_many h_data h_rows h_state h_error h_iss h_una h_nxt h_max h_last h_closed h_written h_irs h_unread h_bytes h_held h_rcv h_finAt h_marked h_wnd h_peak h_half h_rto h_same (vu_e h_tries ?a1 (fun e' y => ?a2)) h_smooth h_spread h_byNumber h_byAck h_sampled h_told h_retry h_ackAt h_waitAt h_timedAt h_timed)
        case a1 => rw [pu_s, w2]
        case a2 => rw [pu_o y, pu_o y]
      refine br_t (by rw [zu_s, w2]; rfl) (yl_over hv1 hp zk_2 fun u1 hv2 => ?_)
      rw [ov_YT] at hv2
      exact hP' u1 hv2
    · refine br_f (by rw [zu_s, zk_6, zi_eq (by omega) (by omega) (by omega) (by omega)]; exact w2) (k54 _ 0 (fun z => w2 z.2) (fun e' he' => ?_) ⟨fun _ => w, fun _ => rfl⟩)
      by_cases y : e' = p.toNatClampNeg
      · rw [y, vYT, zu_s]; unfold gp_tr; rw [if_neg w]
      · rw [oYT e' y, zu_n y]; exact h_tries e' he'
theorem yp_36 {q K : Int} {G : gm_T} {f_now : Int32} {f_sent : Int32} {a_seq : (Nat → Int32)} {a_flags : (Nat → Int32)} {a_acked : (Nat → Int32)} {a_window : (Nat → Int32)} {a_many : (Nat → Int32)} {a_data : (Nat → Int32)} {a_rows : (Nat → Int32)} {a_state : (Nat → Int32)} {a_error : (Nat → Int32)} {a_iss : (Nat → Int32)} {a_una : (Nat → Int64)} {a_nxt : (Nat → Int64)} {a_max : (Nat → Int64)} {a_last : (Nat → Int64)} {a_closed : (Nat → Int32)} {a_written : (Nat → Int32)} {a_irs : (Nat → Int32)} {a_unread : (Nat → Int32)} {a_bytes : (Nat → Int32)} {a_held : (Nat → Int32)} {a_rcv : (Nat → Int64)} {a_finAt : (Nat → Int64)} {a_marked : (Nat → Int32)} {a_wnd : (Nat → Int32)} {a_peak : (Nat → Int32)} {a_half : (Nat → Int32)} {a_rto : (Nat → Int32)} {a_same : (Nat → Int32)} {a_tries : (Nat → Int32)} {a_smooth : (Nat → Int32)} {a_spread : (Nat → Int32)} {a_byNumber : (Nat → Int32)} {a_byAck : (Nat → Int32)} {a_sampled : (Nat → Int32)} {a_told : (Nat → Int32)} {a_retry : (Nat → Int32)} {a_ackAt : (Nat → Int32)} {a_waitAt : (Nat → Int32)} {a_timedAt : (Nat → Int32)} {a_timed : (Nat → Int64)} {p : Int32} {P : SY → Prop} (hv : vy_S q G (f_now, f_sent, a_seq, a_flags, a_acked, a_window, a_many, a_data, a_rows, a_state, a_error, a_iss, a_una, a_nxt, a_max, a_last, a_closed, a_written, a_irs, a_unread, a_bytes, a_held, a_rcv, a_finAt, a_marked, a_wnd, a_peak, a_half, a_rto, a_same, a_tries, a_smooth, a_spread, a_byNumber, a_byAck, a_sampled, a_told, a_retry, a_ackAt, a_waitAt, a_timedAt, a_timed)) (hI : gv_I K G) (hp : vp_in p 2) (hP : ∀ u', vy_S q (gp_pass3 G p.toNatClampNeg) u' → P u') : wY_pass_36 P p f_now f_sent a_seq a_flags a_acked a_window a_many a_data a_rows a_state a_error a_iss a_una a_nxt a_max a_last a_closed a_written a_irs a_unread a_bytes a_held a_rcv a_finAt a_marked a_wnd a_peak a_half a_rto a_same a_tries a_smooth a_spread a_byNumber a_byAck a_sampled a_told a_retry a_ackAt a_waitAt a_timedAt a_timed := by
  have hv0 := hv
  obtain ⟨h_now, h_sent, h_seq, h_flags, h_acked, h_window, h_many, h_data, h_rows, h_state, h_error, h_iss, h_una, h_nxt, h_max, h_last, h_closed, h_written, h_irs, h_unread, h_bytes, h_held, h_rcv, h_finAt, h_marked, h_wnd, h_peak, h_half, h_rto, h_same, h_tries, h_smooth, h_spread, h_byNumber, h_byAck, h_sampled, h_told, h_retry, h_ackAt, h_waitAt, h_timedAt, h_timed⟩ := hv0
  have he := pe_lt hp
  have n1 := hI.2.1
  have n2 := hI.2.2.1
  have n3 := hI.2.2.2.1
  obtain ⟨b1, b2, b3, b4, b5, b6⟩ := hI.2.2.2.2.1 _ he
  unfold gv_d at b4
  unfold wY_pass_36
  refine ⟨hp, ?_⟩
  by_cases w : G.1 23 p.toNatClampNeg = gm_N G
  · have e1 : gp_pass3 G p.toNatClampNeg = gp_over G p.toNatClampNeg (G.1 1 p.toNatClampNeg) := if_pos w
    rw [e1] at hP
    refine br_t (by rw [h_waitAt _ he, h_now, w]) ⟨hp, yl_over hv hp (h_error _ he) fun u1 hv1 => ?_⟩
    have := hP u1 hv1
    obtain ⟨f_now, f_sent, a_seq, a_flags, a_acked, a_window, a_many, a_data, a_rows, a_state, a_error, a_iss, a_una, a_nxt, a_max, a_last, a_closed, a_written, a_irs, a_unread, a_bytes, a_held, a_rcv, a_finAt, a_marked, a_wnd, a_peak, a_half, a_rto, a_same, a_tries, a_smooth, a_spread, a_byNumber, a_byAck, a_sampled, a_told, a_retry, a_ackAt, a_waitAt, a_timedAt, a_timed⟩ := u1
    exact this
  · have e1 : gp_pass3 G p.toNatClampNeg = G := if_neg w
    rw [e1] at hP
    exact br_f (by rw [h_waitAt _ he, h_now, zi_eq (by omega) (by omega) (by omega) (by omega)]; exact w) (hP _ hv)
theorem yp_18 {q K : Int} {G : gm_T} {f_now : Int32} {f_sent : Int32} {a_seq : (Nat → Int32)} {a_flags : (Nat → Int32)} {a_acked : (Nat → Int32)} {a_window : (Nat → Int32)} {a_many : (Nat → Int32)} {a_data : (Nat → Int32)} {a_rows : (Nat → Int32)} {a_state : (Nat → Int32)} {a_error : (Nat → Int32)} {a_iss : (Nat → Int32)} {a_una : (Nat → Int64)} {a_nxt : (Nat → Int64)} {a_max : (Nat → Int64)} {a_last : (Nat → Int64)} {a_closed : (Nat → Int32)} {a_written : (Nat → Int32)} {a_irs : (Nat → Int32)} {a_unread : (Nat → Int32)} {a_bytes : (Nat → Int32)} {a_held : (Nat → Int32)} {a_rcv : (Nat → Int64)} {a_finAt : (Nat → Int64)} {a_marked : (Nat → Int32)} {a_wnd : (Nat → Int32)} {a_peak : (Nat → Int32)} {a_half : (Nat → Int32)} {a_rto : (Nat → Int32)} {a_same : (Nat → Int32)} {a_tries : (Nat → Int32)} {a_smooth : (Nat → Int32)} {a_spread : (Nat → Int32)} {a_byNumber : (Nat → Int32)} {a_byAck : (Nat → Int32)} {a_sampled : (Nat → Int32)} {a_told : (Nat → Int32)} {a_retry : (Nat → Int32)} {a_ackAt : (Nat → Int32)} {a_waitAt : (Nat → Int32)} {a_timedAt : (Nat → Int32)} {a_timed : (Nat → Int64)} {p : Int32} {P : SY → Prop} (hv : vy_S q G (f_now, f_sent, a_seq, a_flags, a_acked, a_window, a_many, a_data, a_rows, a_state, a_error, a_iss, a_una, a_nxt, a_max, a_last, a_closed, a_written, a_irs, a_unread, a_bytes, a_held, a_rcv, a_finAt, a_marked, a_wnd, a_peak, a_half, a_rto, a_same, a_tries, a_smooth, a_spread, a_byNumber, a_byAck, a_sampled, a_told, a_retry, a_ackAt, a_waitAt, a_timedAt, a_timed)) (hI : gv_I K G) (hp : vp_in p 2) (hP : ∀ u', vy_S q (gp_pass3 (gp_pass2 G p.toNatClampNeg) p.toNatClampNeg) u' → P u') : wY_pass_18 P p f_now f_sent a_seq a_flags a_acked a_window a_many a_data a_rows a_state a_error a_iss a_una a_nxt a_max a_last a_closed a_written a_irs a_unread a_bytes a_held a_rcv a_finAt a_marked a_wnd a_peak a_half a_rto a_same a_tries a_smooth a_spread a_byNumber a_byAck a_sampled a_told a_retry a_ackAt a_waitAt a_timedAt a_timed := by
  have hv0 := hv
  obtain ⟨h_now, h_sent, h_seq, h_flags, h_acked, h_window, h_many, h_data, h_rows, h_state, h_error, h_iss, h_una, h_nxt, h_max, h_last, h_closed, h_written, h_irs, h_unread, h_bytes, h_held, h_rcv, h_finAt, h_marked, h_wnd, h_peak, h_half, h_rto, h_same, h_tries, h_smooth, h_spread, h_byNumber, h_byAck, h_sampled, h_told, h_retry, h_ackAt, h_waitAt, h_timedAt, h_timed⟩ := hv0
  have he := pe_lt hp
  have n1 := hI.2.1
  have n2 := hI.2.2.1
  have n3 := hI.2.2.2.1
  obtain ⟨b1, b2, b3, b4, b5, b6⟩ := hI.2.2.2.2.1 _ he
  unfold gv_d at b4
  unfold wY_pass_18
  refine ⟨hp, ?_⟩
  by_cases w : G.1 22 p.toNatClampNeg = gm_N G
  · have e1 : gp_pass2 G p.toNatClampNeg = gp_ack G p.toNatClampNeg := if_pos w
    rw [e1] at hP
    have h3 : 3 ≤ G.1 0 p.toNatClampNeg := by omega
    refine br_t (by rw [h_ackAt _ he, h_now, w]) (yl_ack hv hI hp (by omega) fun u1 hv1 => ?_)
    obtain ⟨f_now, f_sent, a_seq, a_flags, a_acked, a_window, a_many, a_data, a_rows, a_state, a_error, a_iss, a_una, a_nxt, a_max, a_last, a_closed, a_written, a_irs, a_unread, a_bytes, a_held, a_rcv, a_finAt, a_marked, a_wnd, a_peak, a_half, a_rto, a_same, a_tries, a_smooth, a_spread, a_byNumber, a_byAck, a_sampled, a_told, a_retry, a_ackAt, a_waitAt, a_timedAt, a_timed⟩ := u1
    exact yp_36 hv1 (iv_ack hI he (by omega)) hp hP
  · have e1 : gp_pass2 G p.toNatClampNeg = G := if_neg w
    rw [e1] at hP
    exact br_f (by rw [h_ackAt _ he, h_now, zi_eq (by omega) (by omega) (by omega) (by omega)]; exact w) (yp_36 hv hI hp hP)
theorem yl_pass {q K : Int} {G : gm_T} {u : SY} {p : Int32} {P : SY → Prop} (hv : vy_S q G u) (hI : gv_I K G) (hp : vp_in p 2) (hP : ∀ u', vy_S q (gp_pass G p.toNatClampNeg) u' → P u') : wpY_pass P u p := by
  obtain ⟨f_now, f_sent, a_seq, a_flags, a_acked, a_window, a_many, a_data, a_rows, a_state, a_error, a_iss, a_una, a_nxt, a_max, a_last, a_closed, a_written, a_irs, a_unread, a_bytes, a_held, a_rcv, a_finAt, a_marked, a_wnd, a_peak, a_half, a_rto, a_same, a_tries, a_smooth, a_spread, a_byNumber, a_byAck, a_sampled, a_told, a_retry, a_ackAt, a_waitAt, a_timedAt, a_timed⟩ := u
  have hv0 := hv
  obtain ⟨h_now, h_sent, h_seq, h_flags, h_acked, h_window, h_many, h_data, h_rows, h_state, h_error, h_iss, h_una, h_nxt, h_max, h_last, h_closed, h_written, h_irs, h_unread, h_bytes, h_held, h_rcv, h_finAt, h_marked, h_wnd, h_peak, h_half, h_rto, h_same, h_tries, h_smooth, h_spread, h_byNumber, h_byAck, h_sampled, h_told, h_retry, h_ackAt, h_waitAt, h_timedAt, h_timed⟩ := hv0
  have he := pe_lt hp
  have n1 := hI.2.1
  have n2 := hI.2.2.1
  have n3 := hI.2.2.2.1
  obtain ⟨b1, b2, b3, b4, b5, b6⟩ := hI.2.2.2.2.1 _ he
  unfold gv_d at b4
  unfold wpY_pass
  refine ⟨hp, ?_⟩
  by_cases w : G.1 21 p.toNatClampNeg = gm_N G
  · have e1 : gp_pass G p.toNatClampNeg = gp_pass3 (gp_pass2 (gp_late G p.toNatClampNeg) p.toNatClampNeg) p.toNatClampNeg := by unfold gp_pass; rw [show gp_pass1 G p.toNatClampNeg = gp_late G p.toNatClampNeg from if_pos w]
    rw [e1] at hP
    have h3 : 2 ≤ G.1 0 p.toNatClampNeg := by omega
    refine br_t (by rw [h_retry _ he, h_now, w]) (yl_late hv hI hp h3 fun u1 hv1 => ?_)
    obtain ⟨f_now, f_sent, a_seq, a_flags, a_acked, a_window, a_many, a_data, a_rows, a_state, a_error, a_iss, a_una, a_nxt, a_max, a_last, a_closed, a_written, a_irs, a_unread, a_bytes, a_held, a_rcv, a_finAt, a_marked, a_wnd, a_peak, a_half, a_rto, a_same, a_tries, a_smooth, a_spread, a_byNumber, a_byAck, a_sampled, a_told, a_retry, a_ackAt, a_waitAt, a_timedAt, a_timed⟩ := u1
    exact yp_18 hv1 (iv_late hI he h3) hp hP
  · have e1 : gp_pass G p.toNatClampNeg = gp_pass3 (gp_pass2 G p.toNatClampNeg) p.toNatClampNeg := by unfold gp_pass; rw [show gp_pass1 G p.toNatClampNeg = G from if_neg w]
    rw [e1] at hP
    exact br_f (by rw [h_retry _ he, h_now, zi_eq (by omega) (by omega) (by omega) (by omega)]; exact w) (yp_18 hv hI hp hP)
theorem yt_20 {q K : Int} {P : Int32 → SY → Prop} {x : Int32} {n : Nat} (hx : x = zi_n (n : Int)) (hn : n ≤ 1000) : ∀ (d i f : Nat) (G : gm_T) (f_now : Int32) (f_sent : Int32) (a_seq : (Nat → Int32)) (a_flags : (Nat → Int32)) (a_acked : (Nat → Int32)) (a_window : (Nat → Int32)) (a_many : (Nat → Int32)) (a_data : (Nat → Int32)) (a_rows : (Nat → Int32)) (a_state : (Nat → Int32)) (a_error : (Nat → Int32)) (a_iss : (Nat → Int32)) (a_una : (Nat → Int64)) (a_nxt : (Nat → Int64)) (a_max : (Nat → Int64)) (a_last : (Nat → Int64)) (a_closed : (Nat → Int32)) (a_written : (Nat → Int32)) (a_irs : (Nat → Int32)) (a_unread : (Nat → Int32)) (a_bytes : (Nat → Int32)) (a_held : (Nat → Int32)) (a_rcv : (Nat → Int64)) (a_finAt : (Nat → Int64)) (a_marked : (Nat → Int32)) (a_wnd : (Nat → Int32)) (a_peak : (Nat → Int32)) (a_half : (Nat → Int32)) (a_rto : (Nat → Int32)) (a_same : (Nat → Int32)) (a_tries : (Nat → Int32)) (a_smooth : (Nat → Int32)) (a_spread : (Nat → Int32)) (a_byNumber : (Nat → Int32)) (a_byAck : (Nat → Int32)) (a_sampled : (Nat → Int32)) (a_told : (Nat → Int32)) (a_retry : (Nat → Int32)) (a_ackAt : (Nat → Int32)) (a_waitAt : (Nat → Int32)) (a_timedAt : (Nat → Int32)) (a_timed : (Nat → Int64)), i + d = n → d < f → vy_S q G (f_now, f_sent, a_seq, a_flags, a_acked, a_window, a_many, a_data, a_rows, a_state, a_error, a_iss, a_una, a_nxt, a_max, a_last, a_closed, a_written, a_irs, a_unread, a_bytes, a_held, a_rcv, a_finAt, a_marked, a_wnd, a_peak, a_half, a_rto, a_same, a_tries, a_smooth, a_spread, a_byNumber, a_byAck, a_sampled, a_told, a_retry, a_ackAt, a_waitAt, a_timedAt, a_timed) → gv_I K G → gm_N G + d ≤ 125 * K → (∀ u', vy_S q (gp_ticks d G) u' → (match u' with | (f_now, f_sent, a_seq, a_flags, a_acked, a_window, a_many, a_data, a_rows, a_state, a_error, a_iss, a_una, a_nxt, a_max, a_last, a_closed, a_written, a_irs, a_unread, a_bytes, a_held, a_rcv, a_finAt, a_marked, a_wnd, a_peak, a_half, a_rto, a_same, a_tries, a_smooth, a_spread, a_byNumber, a_byAck, a_sampled, a_told, a_retry, a_ackAt, a_waitAt, a_timedAt, a_timed) => P f_sent (f_now, f_sent, a_seq, a_flags, a_acked, a_window, a_many, a_data, a_rows, a_state, a_error, a_iss, a_una, a_nxt, a_max, a_last, a_closed, a_written, a_irs, a_unread, a_bytes, a_held, a_rcv, a_finAt, a_marked, a_wnd, a_peak, a_half, a_rto, a_same, a_tries, a_smooth, a_spread, a_byNumber, a_byAck, a_sampled, a_told, a_retry, a_ackAt, a_waitAt, a_timedAt, a_timed))) → wY_tick_20 P x f (nI i) f_now f_sent a_seq a_flags a_acked a_window a_many a_data a_rows a_state a_error a_iss a_una a_nxt a_max a_last a_closed a_written a_irs a_unread a_bytes a_held a_rcv a_finAt a_marked a_wnd a_peak a_half a_rto a_same a_tries a_smooth a_spread a_byNumber a_byAck a_sampled a_told a_retry a_ackAt a_waitAt a_timedAt a_timed := by
  have p0 : vp_in 0 2 := zi_in (a := 0) (by omega) (by omega) (by omega)
  have p1 : vp_in 1 2 := zi_in (a := 1) (by omega) (by omega) (by omega)
  have c0 : (0 : Int32).toNatClampNeg = 0 := by decide
  have c1 : (1 : Int32).toNatClampNeg = 1 := by decide
  intro d
  induction d with
  | zero =>
    intro i f G f_now f_sent a_seq a_flags a_acked a_window a_many a_data a_rows a_state a_error a_iss a_una a_nxt a_max a_last a_closed a_written a_irs a_unread a_bytes a_held a_rcv a_finAt a_marked a_wnd a_peak a_half a_rto a_same a_tries a_smooth a_spread a_byNumber a_byAck a_sampled a_told a_retry a_ackAt a_waitAt a_timedAt a_timed hi hf hv hI hN hP
    obtain ⟨f, rfl⟩ : ∃ g, f = g + 1 := ⟨f - 1, by omega⟩
    obtain rfl : i = n := by omega
    exact br_t (by rw [hx, zi_nI]; exact Int32.le_refl _) (hP (f_now, f_sent, a_seq, a_flags, a_acked, a_window, a_many, a_data, a_rows, a_state, a_error, a_iss, a_una, a_nxt, a_max, a_last, a_closed, a_written, a_irs, a_unread, a_bytes, a_held, a_rcv, a_finAt, a_marked, a_wnd, a_peak, a_half, a_rto, a_same, a_tries, a_smooth, a_spread, a_byNumber, a_byAck, a_sampled, a_told, a_retry, a_ackAt, a_waitAt, a_timedAt, a_timed) hv)
  | succ d ih =>
    intro i f G f_now f_sent a_seq a_flags a_acked a_window a_many a_data a_rows a_state a_error a_iss a_una a_nxt a_max a_last a_closed a_written a_irs a_unread a_bytes a_held a_rcv a_finAt a_marked a_wnd a_peak a_half a_rto a_same a_tries a_smooth a_spread a_byNumber a_byAck a_sampled a_told a_retry a_ackAt a_waitAt a_timedAt a_timed hi hf hv hI hN hP
    obtain ⟨f, rfl⟩ : ∃ g, f = g + 1 := ⟨f - 1, by omega⟩
    have hI1 := iv_now hI (by omega)
    have hv1 : vy_S q (gp_now G) (f_now + 1, f_sent, a_seq, a_flags, a_acked, a_window, a_many, a_data, a_rows, a_state, a_error, a_iss, a_una, a_nxt, a_max, a_last, a_closed, a_written, a_irs, a_unread, a_bytes, a_held, a_rcv, a_finAt, a_marked, a_wnd, a_peak, a_half, a_rto, a_same, a_tries, a_smooth, a_spread, a_byNumber, a_byAck, a_sampled, a_told, a_retry, a_ackAt, a_waitAt, a_timedAt, a_timed) := by
      obtain ⟨h_now, h_sent, h_seq, h_flags, h_acked, h_window, h_many, h_data, h_rows, h_state, h_error, h_iss, h_una, h_nxt, h_max, h_last, h_closed, h_written, h_irs, h_unread, h_bytes, h_held, h_rcv, h_finAt, h_marked, h_wnd, h_peak, h_half, h_rto, h_same, h_tries, h_smooth, h_spread, h_byNumber, h_byAck, h_sampled, h_told, h_retry, h_ackAt, h_waitAt, h_timedAt, h_timed⟩ := hv
      refine (vy_mk (?_) h_sent h_seq h_flags h_acked h_window h_many h_data h_rows h_state h_error h_iss h_una h_nxt h_max h_last h_closed h_written h_irs h_unread h_bytes h_held h_rcv h_finAt h_marked h_wnd h_peak h_half h_rto h_same h_tries h_smooth h_spread h_byNumber h_byAck h_sampled h_told h_retry h_ackAt h_waitAt h_timedAt h_timed)
      show _ = zi_n (gm_N G + 1)
      rw [h_now, zk_1, zi_add]
    refine br_f (by rw [hx, zi_nI, zi_le (by omega) (by omega) (by omega) (by omega)]; omega) (nm_e (yl_pass hv1 hI1 p0 fun u1 hv2 => ?_))
    rw [c0] at hv2
    have hI2 := iv_pass (e := 0) hI1 (by omega)
    obtain ⟨f_now, f_sent, a_seq, a_flags, a_acked, a_window, a_many, a_data, a_rows, a_state, a_error, a_iss, a_una, a_nxt, a_max, a_last, a_closed, a_written, a_irs, a_unread, a_bytes, a_held, a_rcv, a_finAt, a_marked, a_wnd, a_peak, a_half, a_rto, a_same, a_tries, a_smooth, a_spread, a_byNumber, a_byAck, a_sampled, a_told, a_retry, a_ackAt, a_waitAt, a_timedAt, a_timed⟩ := u1
    refine yl_pass hv2 hI2 p1 fun u2 hv3 => ?_
    rw [c1] at hv3
    have hI3 := iv_pass (e := 1) hI2 (by omega)
    obtain ⟨f_now, f_sent, a_seq, a_flags, a_acked, a_window, a_many, a_data, a_rows, a_state, a_error, a_iss, a_una, a_nxt, a_max, a_last, a_closed, a_written, a_irs, a_unread, a_bytes, a_held, a_rcv, a_finAt, a_marked, a_wnd, a_peak, a_half, a_rto, a_same, a_tries, a_smooth, a_spread, a_byNumber, a_byAck, a_sampled, a_told, a_retry, a_ackAt, a_waitAt, a_timedAt, a_timed⟩ := u2
    refine nm_r (nI_1 i) (ih (i + 1) f (gp_pass (gp_pass (gp_now G) 0) 1) f_now f_sent a_seq a_flags a_acked a_window a_many a_data a_rows a_state a_error a_iss a_una a_nxt a_max a_last a_closed a_written a_irs a_unread a_bytes a_held a_rcv a_finAt a_marked a_wnd a_peak a_half a_rto a_same a_tries a_smooth a_spread a_byNumber a_byAck a_sampled a_told a_retry a_ackAt a_waitAt a_timedAt a_timed (by omega) (by omega) hv3 hI3 ?_ hP)
    rw [ps_N, ps_N, tk_S0]; omega
theorem vy_zero {q : Int} {G : gm_T} {f_now : Int32} {f_sent : Int32} {a_seq : (Nat → Int32)} {a_flags : (Nat → Int32)} {a_acked : (Nat → Int32)} {a_window : (Nat → Int32)} {a_many : (Nat → Int32)} {a_data : (Nat → Int32)} {a_rows : (Nat → Int32)} {a_state : (Nat → Int32)} {a_error : (Nat → Int32)} {a_iss : (Nat → Int32)} {a_una : (Nat → Int64)} {a_nxt : (Nat → Int64)} {a_max : (Nat → Int64)} {a_last : (Nat → Int64)} {a_closed : (Nat → Int32)} {a_written : (Nat → Int32)} {a_irs : (Nat → Int32)} {a_unread : (Nat → Int32)} {a_bytes : (Nat → Int32)} {a_held : (Nat → Int32)} {a_rcv : (Nat → Int64)} {a_finAt : (Nat → Int64)} {a_marked : (Nat → Int32)} {a_wnd : (Nat → Int32)} {a_peak : (Nat → Int32)} {a_half : (Nat → Int32)} {a_rto : (Nat → Int32)} {a_same : (Nat → Int32)} {a_tries : (Nat → Int32)} {a_smooth : (Nat → Int32)} {a_spread : (Nat → Int32)} {a_byNumber : (Nat → Int32)} {a_byAck : (Nat → Int32)} {a_sampled : (Nat → Int32)} {a_told : (Nat → Int32)} {a_retry : (Nat → Int32)} {a_ackAt : (Nat → Int32)} {a_waitAt : (Nat → Int32)} {a_timedAt : (Nat → Int32)} {a_timed : (Nat → Int64)} (hv : vy_S q G (f_now, f_sent, a_seq, a_flags, a_acked, a_window, a_many, a_data, a_rows, a_state, a_error, a_iss, a_una, a_nxt, a_max, a_last, a_closed, a_written, a_irs, a_unread, a_bytes, a_held, a_rcv, a_finAt, a_marked, a_wnd, a_peak, a_half, a_rto, a_same, a_tries, a_smooth, a_spread, a_byNumber, a_byAck, a_sampled, a_told, a_retry, a_ackAt, a_waitAt, a_timedAt, a_timed)) : vy_S 0 (gp_zero G) (f_now, 0, a_seq, a_flags, a_acked, a_window, a_many, a_data, a_rows, a_state, a_error, a_iss, a_una, a_nxt, a_max, a_last, a_closed, a_written, a_irs, a_unread, a_bytes, a_held, a_rcv, a_finAt, a_marked, a_wnd, a_peak, a_half, a_rto, a_same, a_tries, a_smooth, a_spread, a_byNumber, a_byAck, a_sampled, a_told, a_retry, a_ackAt, a_waitAt, a_timedAt, a_timed) := by
  obtain ⟨h_now, h_sent, h_seq, h_flags, h_acked, h_window, h_many, h_data, h_rows, h_state, h_error, h_iss, h_una, h_nxt, h_max, h_last, h_closed, h_written, h_irs, h_unread, h_bytes, h_held, h_rcv, h_finAt, h_marked, h_wnd, h_peak, h_half, h_rto, h_same, h_tries, h_smooth, h_spread, h_byNumber, h_byAck, h_sampled, h_told, h_retry, h_ackAt, h_waitAt, h_timedAt, h_timed⟩ := hv
  exact (vy_mk h_now ((by show (0 : Int32) = zi_n (0 + 0); rfl)) h_seq h_flags h_acked h_window h_many h_data h_rows h_state h_error h_iss h_una h_nxt h_max h_last h_closed h_written h_irs h_unread h_bytes h_held h_rcv h_finAt h_marked h_wnd h_peak h_half h_rto h_same h_tries h_smooth h_spread h_byNumber h_byAck h_sampled h_told h_retry h_ackAt h_waitAt h_timedAt h_timed)
theorem yl_tick {q K : Int} {G : gm_T} {u : SY} {P : Int32 → SY → Prop} {x : Int32} {n : Int} (hv : vy_S q G u) (hI : gv_I K G) (hx : x = zi_n n) (h0 : -2147483648 ≤ n) (h1 : n < 2147483648) (hN : gm_N G + 1000 ≤ 125 * K) (hA : ¬ (1 ≤ n ∧ n ≤ 1000) → P (-1) u) (hB : 1 ≤ n → n ≤ 1000 → ∀ u', vy_S 0 (gp_ticks n.toNat (gp_zero G)) u' → P (zi_n (gm_S (gp_ticks n.toNat (gp_zero G)))) u') : wpY_tick P u x := by
  obtain ⟨f_now, f_sent, a_seq, a_flags, a_acked, a_window, a_many, a_data, a_rows, a_state, a_error, a_iss, a_una, a_nxt, a_max, a_last, a_closed, a_written, a_irs, a_unread, a_bytes, a_held, a_rcv, a_finAt, a_marked, a_wnd, a_peak, a_half, a_rto, a_same, a_tries, a_smooth, a_spread, a_byNumber, a_byAck, a_sampled, a_told, a_retry, a_ackAt, a_waitAt, a_timedAt, a_timed⟩ := u
  unfold wpY_tick
  refine yl_no hx zk_1 zk_1000 h0 h1 (by omega) (by omega) (by omega) (by omega) (fun w1 w2 => ?_) (fun w => br_f (by decide) (hA w))
  refine br_t rfl ⟨n.toNat + 1, ?_⟩
  refine yt_20 (q := 0) (K := K) (n := n.toNat) (by rw [hx]; congr 1; omega) (by omega) n.toNat 0 (n.toNat + 1) (gp_zero G) f_now (0) a_seq a_flags a_acked a_window a_many a_data a_rows a_state a_error a_iss a_una a_nxt a_max a_last a_closed a_written a_irs a_unread a_bytes a_held a_rcv a_finAt a_marked a_wnd a_peak a_half a_rto a_same a_tries a_smooth a_spread a_byNumber a_byAck a_sampled a_told a_retry a_ackAt a_waitAt a_timedAt a_timed (by omega) (by omega) (vy_zero hv) hI ?_ fun u1 hv1 => ?_
  · show gm_N G + _ ≤ _
    omega
  · have := hB w1 w2 u1 hv1
    obtain ⟨f_now, f_sent, a_seq, a_flags, a_acked, a_window, a_many, a_data, a_rows, a_state, a_error, a_iss, a_una, a_nxt, a_max, a_last, a_closed, a_written, a_irs, a_unread, a_bytes, a_held, a_rcv, a_finAt, a_marked, a_wnd, a_peak, a_half, a_rto, a_same, a_tries, a_smooth, a_spread, a_byNumber, a_byAck, a_sampled, a_told, a_retry, a_ackAt, a_waitAt, a_timedAt, a_timed⟩ := u1
    obtain ⟨h_now, h_sent, h_seq, h_flags, h_acked, h_window, h_many, h_data, h_rows, h_state, h_error, h_iss, h_una, h_nxt, h_max, h_last, h_closed, h_written, h_irs, h_unread, h_bytes, h_held, h_rcv, h_finAt, h_marked, h_wnd, h_peak, h_half, h_rto, h_same, h_tries, h_smooth, h_spread, h_byNumber, h_byAck, h_sampled, h_told, h_retry, h_ackAt, h_waitAt, h_timedAt, h_timed⟩ := hv1
    have hs : zi_n (gm_S (gp_ticks n.toNat (gp_zero G))) = f_sent := by rw [h_sent, Int.add_zero]
    rw [hs] at this
    exact this
