/-! the reference: measured; pieces; acknowledgements -/
theorem yl_measure {q : Int} {G : gm_T} {u : SY} {p : Int32} {P : SY → Prop} (hv : vy_S q G u) (hp : vp_in p 2) (ok : mq_ok G p.toNatClampNeg) (hP : ∀ u', vy_S q (gp_meas G p.toNatClampNeg) u' → P u') : wpY_measure P u p := by
  obtain ⟨f_now, f_sent, a_seq, a_flags, a_acked, a_window, a_many, a_data, a_rows, a_state, a_error, a_iss, a_una, a_nxt, a_max, a_last, a_closed, a_written, a_irs, a_unread, a_bytes, a_held, a_rcv, a_finAt, a_marked, a_wnd, a_peak, a_half, a_rto, a_same, a_tries, a_smooth, a_spread, a_byNumber, a_byAck, a_sampled, a_told, a_retry, a_ackAt, a_waitAt, a_timedAt, a_timed⟩ := u
  obtain ⟨h_now, h_sent, h_seq, h_flags, h_acked, h_window, h_many, h_data, h_rows, h_state, h_error, h_iss, h_una, h_nxt, h_max, h_last, h_closed, h_written, h_irs, h_unread, h_bytes, h_held, h_rcv, h_finAt, h_marked, h_wnd, h_peak, h_half, h_rto, h_same, h_tries, h_smooth, h_spread, h_byNumber, h_byAck, h_sampled, h_told, h_retry, h_ackAt, h_waitAt, h_timedAt, h_timed⟩ := hv
  have he := pe_lt hp
  obtain ⟨⟨r1, r2⟩, r3, r4⟩ := mq_r ok
  obtain ⟨k1, k2, k3, k4, k5, k6, k7, k8, k9⟩ := ok
  have fin : ∀ x : Int32, x = zi_n (gp_rt G p.toNatClampNeg) → P (f_now, f_sent, a_seq, a_flags, a_acked, a_window, a_many, a_data, a_rows, a_state, a_error, a_iss, a_una, a_nxt, a_max, a_last, a_closed, a_written, a_irs, a_unread, a_bytes, a_held, a_rcv, a_finAt, a_marked, a_wnd, a_peak, a_half, upd a_rto p.toNatClampNeg x, a_same, a_tries, upd a_smooth p.toNatClampNeg (zi_n (gp_so G p.toNatClampNeg)), upd a_spread p.toNatClampNeg (zi_n (gp_va G p.toNatClampNeg)), a_byNumber, a_byAck, upd a_sampled p.toNatClampNeg (vp_nar .boolean 1), a_told, a_retry, a_ackAt, a_waitAt, a_timedAt, vp_updL a_timed p.toNatClampNeg (-1)) := by
    intro x hx
    refine hP _ ?_
    generalize p.toNatClampNeg = e at *
    refine (vy_mk h_now h_sent h_seq h_flags h_acked h_window h_many h_data h_rows h_state h_error h_iss h_una h_nxt h_max h_last h_closed h_written h_irs h_unread h_bytes h_held h_rcv h_finAt h_marked h_wnd h_peak h_half (vu_e h_rto ?a4 (fun e' y => ms_o y _)) h_same h_tries (vu_e h_smooth ?a1 (fun e' y => ms_o y _)) (vu_e h_spread ?a2 (fun e' y => ms_o y _)) h_byNumber h_byAck (vu_e h_sampled ?a3 (fun e' y => ms_o y _)) h_told h_retry h_ackAt h_waitAt h_timedAt (vu_l h_timed ?a5 (fun e' y => ms_o y _)))
    case a1 => simp +decide only [gp_meas, gs_s, gs_f]
    case a2 => simp +decide only [gp_meas, gs_s, gs_f]
    case a3 => simp +decide only [gp_meas, gs_s, gs_f] <;> rfl
    case a4 => simp +decide only [gp_meas, gs_s, gs_f]; exact hx
    case a5 => simp +decide only [gp_meas, gs_s, gs_f] <;> rfl
  have k93 : wY_measure_93 P p f_now f_sent a_seq a_flags a_acked a_window a_many a_data a_rows a_state a_error a_iss a_una a_nxt a_max a_last a_closed a_written a_irs a_unread a_bytes a_held a_rcv a_finAt a_marked a_wnd a_peak a_half a_rto a_same a_tries (upd a_smooth p.toNatClampNeg (zi_n (gp_so G p.toNatClampNeg))) (upd a_spread p.toNatClampNeg (zi_n (gp_va G p.toNatClampNeg))) a_byNumber a_byAck a_sampled a_told a_retry a_ackAt a_waitAt a_timedAt a_timed := by
    unfold wY_measure_93
    have hrt : gp_rt G p.toNatClampNeg = if gp_so G p.toNatClampNeg / 8 + gp_va G p.toNatClampNeg < 2 then 2 else if 64 < gp_so G p.toNatClampNeg / 8 + gp_va G p.toNatClampNeg then 64 else gp_so G p.toNatClampNeg / 8 + gp_va G p.toNatClampNeg := rfl
    refine ⟨hp, nm_e ⟨hp, by decide, hp, nm_r (e' := zi_n (gp_so G p.toNatClampNeg / 8 + gp_va G p.toNatClampNeg)) (by rw [zu_s, zu_s, zk_8, zi_div r1 (by omega) (by omega) (by omega), zi_add]) ?_⟩⟩
    by_cases w : 2 ≤ gp_so G p.toNatClampNeg / 8 + gp_va G p.toNatClampNeg
    · refine br_t (by rw [zk_2, zi_le (by omega) (by omega) (by omega) (by omega)]; exact w) ?_
      by_cases w2 : gp_so G p.toNatClampNeg / 8 + gp_va G p.toNatClampNeg ≤ 64
      · refine br_t (by rw [zk_64, zi_le (by omega) (by omega) (by omega) (by omega)]; exact w2) ⟨hp, nm_e ⟨hp, nm_e (fin _ ?_)⟩⟩
        rw [hrt, if_neg (by omega), if_neg (by omega)]
      · refine br_f (by rw [zk_64, zi_le (by omega) (by omega) (by omega) (by omega)]; exact w2) ⟨hp, nm_e ⟨hp, nm_e (fin _ ?_)⟩⟩
        rw [hrt, if_neg (by omega), if_pos (by omega)]; rfl
    · refine br_f (by rw [zk_2, zi_le (by omega) (by omega) (by omega) (by omega)]; exact w) ⟨hp, nm_e ⟨hp, nm_e (fin _ ?_)⟩⟩
      rw [hrt, if_pos (by omega)]; rfl
  unfold wpY_measure
  refine ⟨hp, nm_r (e' := zi_n (gm_N G - G.1 25 p.toNatClampNeg)) (by rw [h_timedAt _ he, h_now, zi_sub]) ⟨hp, ?_⟩⟩
  rcases k6 with w | w
  · have e1 : gp_so G p.toNatClampNeg = 8 * (gm_N G - G.1 25 p.toNatClampNeg) := by unfold gp_so; rw [if_neg (by omega)]
    have e2 : gp_va G p.toNatClampNeg = 2 * (gm_N G - G.1 25 p.toNatClampNeg) := by unfold gp_va; rw [if_neg (by omega)]
    refine br_t (by rw [h_sampled _ he, w]; rfl) ⟨hp, nm_r (e' := upd a_smooth p.toNatClampNeg (zi_n (gp_so G p.toNatClampNeg))) (by rw [zk_8, zi_mul, e1]) ⟨hp, nm_r (e' := upd a_spread p.toNatClampNeg (zi_n (gp_va G p.toNatClampNeg))) (by rw [zk_2, zi_mul, e2]) k93⟩⟩
  · have k7' := k7 w
    have e1 : gp_so G p.toNatClampNeg = G.1 27 p.toNatClampNeg + ((gm_N G - G.1 25 p.toNatClampNeg) - G.1 27 p.toNatClampNeg / 8) := by unfold gp_so; rw [if_pos w]
    have e2 : gp_va G p.toNatClampNeg = G.1 28 p.toNatClampNeg + ((if (gm_N G - G.1 25 p.toNatClampNeg) - G.1 27 p.toNatClampNeg / 8 < 0 then - ((gm_N G - G.1 25 p.toNatClampNeg) - G.1 27 p.toNatClampNeg / 8) else (gm_N G - G.1 25 p.toNatClampNeg) - G.1 27 p.toNatClampNeg / 8) - G.1 28 p.toNatClampNeg / 4) := by unfold gp_va; rw [if_pos w]
    have hsm := h_smooth _ he
    have hva := h_spread _ he
    refine br_f (by rw [h_sampled _ he, w]; decide) ⟨hp, by decide, nm_r (e' := zi_n ((gm_N G - G.1 25 p.toNatClampNeg) - G.1 27 p.toNatClampNeg / 8)) (by rw [hsm, zk_8, zi_div (by omega) (by omega) (by omega) (by omega), zi_sub]) ⟨hp, hp, nm_r (e' := upd a_smooth p.toNatClampNeg (zi_n (gp_so G p.toNatClampNeg))) (by rw [hsm, zi_add, e1]) ⟨hp, ?_⟩⟩⟩
    have k60 : ∀ z : Int, z = (if (gm_N G - G.1 25 p.toNatClampNeg) - G.1 27 p.toNatClampNeg / 8 < 0 then - ((gm_N G - G.1 25 p.toNatClampNeg) - G.1 27 p.toNatClampNeg / 8) else (gm_N G - G.1 25 p.toNatClampNeg) - G.1 27 p.toNatClampNeg / 8) → wY_measure_60 P p (zi_n z) (a_spread p.toNatClampNeg) p f_now f_sent a_seq a_flags a_acked a_window a_many a_data a_rows a_state a_error a_iss a_una a_nxt a_max a_last a_closed a_written a_irs a_unread a_bytes a_held a_rcv a_finAt a_marked a_wnd a_peak a_half a_rto a_same a_tries (upd a_smooth p.toNatClampNeg (zi_n (gp_so G p.toNatClampNeg))) a_spread a_byNumber a_byAck a_sampled a_told a_retry a_ackAt a_waitAt a_timedAt a_timed := by
      intro z hz
      unfold wY_measure_60
      refine ⟨hp, by decide, hp, nm_r (e' := upd a_spread p.toNatClampNeg (zi_n (gp_va G p.toNatClampNeg))) ?_ k93⟩
      rw [hva, zk_4, zi_div (by omega) (by omega) (by omega) (by omega), zi_sub, zi_add, e2, hz]
    by_cases w2 : 0 ≤ (gm_N G - G.1 25 p.toNatClampNeg) - G.1 27 p.toNatClampNeg / 8
    · exact br_t (by rw [zk_0, zi_le (by omega) (by omega) (by omega) (by omega)]; exact w2) (k60 _ (by rw [if_neg (by omega)]))
    · refine br_f (by rw [zk_0, zi_le (by omega) (by omega) (by omega) (by omega)]; exact w2) ?_
      rw [zi_neg]
      exact k60 _ (by rw [if_pos (by omega)])
theorem yl_piece {q K : Int} {G : gm_T} {u : SY} {p : Int32} {P : SY → Prop} (hv : vy_S q G u) (hI : gv_I K G) (hp : vp_in p 2) (h4 : 4 ≤ G.1 0 p.toNatClampNeg) (hum : G.1 3 p.toNatClampNeg < G.1 5 p.toNatClampNeg) (hP : ∀ u', vy_S q (gp_piece G p.toNatClampNeg) u' → P u') : wpY_firstPiece P u p := by
  obtain ⟨f_now, f_sent, a_seq, a_flags, a_acked, a_window, a_many, a_data, a_rows, a_state, a_error, a_iss, a_una, a_nxt, a_max, a_last, a_closed, a_written, a_irs, a_unread, a_bytes, a_held, a_rcv, a_finAt, a_marked, a_wnd, a_peak, a_half, a_rto, a_same, a_tries, a_smooth, a_spread, a_byNumber, a_byAck, a_sampled, a_told, a_retry, a_ackAt, a_waitAt, a_timedAt, a_timed⟩ := u
  have hv0 := hv
  obtain ⟨h_now, h_sent, h_seq, h_flags, h_acked, h_window, h_many, h_data, h_rows, h_state, h_error, h_iss, h_una, h_nxt, h_max, h_last, h_closed, h_written, h_irs, h_unread, h_bytes, h_held, h_rcv, h_finAt, h_marked, h_wnd, h_peak, h_half, h_rto, h_same, h_tries, h_smooth, h_spread, h_byNumber, h_byAck, h_sampled, h_told, h_retry, h_ackAt, h_waitAt, h_timedAt, h_timed⟩ := hv0
  have he := pe_lt hp
  have n2 := hI.2.1
  obtain ⟨y1, y2, y3, y4⟩ := gv_yy hI he (by omega)
  obtain ⟨b1, b2, b3, b4, b5, b6⟩ := hI.2.2.2.2.1 _ he
  unfold gv_p at b2
  have hu := (b2.2.2.2.2.1 h4)
  have hl := b2.1 (by omega)
  have hk := b2.2.2.2.2.2
  have huna : a_una p.toNatClampNeg = zl_n (G.1 3 p.toNatClampNeg) := by rw [← y1]; exact h_una _ he
  have hlast : a_last p.toNatClampNeg = zl_n (G.1 6 p.toNatClampNeg) := by rw [← y2]; exact h_last _ he
  have hpn : gp_pn G p.toNatClampNeg = min (min (G.1 5 p.toNatClampNeg) (G.1 6 p.toNatClampNeg) - G.1 3 p.toNatClampNeg) 8 := rfl
  have k61 : wY_firstPiece_61 P p (zi_n (gp_pn G p.toNatClampNeg)) f_now f_sent a_seq a_flags a_acked a_window a_many a_data a_rows a_state a_error a_iss a_una a_nxt a_max a_last a_closed a_written a_irs a_unread a_bytes a_held a_rcv a_finAt a_marked a_wnd a_peak a_half a_rto a_same a_tries a_smooth a_spread a_byNumber a_byAck a_sampled a_told a_retry a_ackAt a_waitAt a_timedAt a_timed := by
    unfold wY_firstPiece_61
    by_cases w : gp_pn G p.toNatClampNeg ≤ 0
    · have hpc : gp_piece G p.toNatClampNeg = gp_send G p.toNatClampNeg (G.1 3 p.toNatClampNeg) 4 0 := if_neg (by omega)
      rw [hpc] at hP
      refine br_t (by rw [zk_0, zi_le (by omega) (by omega) (by omega) (by omega)]; exact w) ⟨hp, hp, br_f (by rw [h_max _ he, huna, zl_le (by omega) (by omega) (by omega) (by omega)]; omega) ⟨hp, yl_send hv hp huna zk_4 zk_0 (gv_ii hI he) (sk_of hI he (by omega) (Or.inr (Or.inr rfl)) (by omega) (by omega) (by omega) (by omega) (by omega)) fun u1 hv1 => ?_⟩⟩
      have := hP u1 hv1
      obtain ⟨f_now, f_sent, a_seq, a_flags, a_acked, a_window, a_many, a_data, a_rows, a_state, a_error, a_iss, a_una, a_nxt, a_max, a_last, a_closed, a_written, a_irs, a_unread, a_bytes, a_held, a_rcv, a_finAt, a_marked, a_wnd, a_peak, a_half, a_rto, a_same, a_tries, a_smooth, a_spread, a_byNumber, a_byAck, a_sampled, a_told, a_retry, a_ackAt, a_waitAt, a_timedAt, a_timed⟩ := u1
      exact this
    · have hpc : gp_piece G p.toNatClampNeg = gp_send G p.toNatClampNeg (G.1 3 p.toNatClampNeg) 0 (gp_pn G p.toNatClampNeg) := if_pos (by omega)
      rw [hpc] at hP
      refine br_f (by rw [zk_0, zi_le (by omega) (by omega) (by omega) (by omega)]; exact w) ⟨hp, yl_send hv hp huna zk_0 rfl (gv_ii hI he) (sk_of hI he (by omega) (Or.inl rfl) (by omega) (by omega) (by omega) (by omega) (fun _ => ⟨h4, by omega, by omega⟩)) fun u1 hv1 => ?_⟩
      have := hP u1 hv1
      obtain ⟨f_now, f_sent, a_seq, a_flags, a_acked, a_window, a_many, a_data, a_rows, a_state, a_error, a_iss, a_una, a_nxt, a_max, a_last, a_closed, a_written, a_irs, a_unread, a_bytes, a_held, a_rcv, a_finAt, a_marked, a_wnd, a_peak, a_half, a_rto, a_same, a_tries, a_smooth, a_spread, a_byNumber, a_byAck, a_sampled, a_told, a_retry, a_ackAt, a_waitAt, a_timedAt, a_timed⟩ := u1
      exact this
  have k31 : ∀ t : Int, t = min (G.1 5 p.toNatClampNeg) (G.1 6 p.toNatClampNeg) → wY_firstPiece_31 P p (zl_n t) f_now f_sent a_seq a_flags a_acked a_window a_many a_data a_rows a_state a_error a_iss a_una a_nxt a_max a_last a_closed a_written a_irs a_unread a_bytes a_held a_rcv a_finAt a_marked a_wnd a_peak a_half a_rto a_same a_tries a_smooth a_spread a_byNumber a_byAck a_sampled a_told a_retry a_ackAt a_waitAt a_timedAt a_timed := by
    intro t ht
    unfold wY_firstPiece_31
    have e1 : zl_n t - a_una p.toNatClampNeg = zl_n (t - G.1 3 p.toNatClampNeg) := by rw [huna, zl_sub]
    refine ⟨hp, ?_⟩
    by_cases w : 8 ≤ t - G.1 3 p.toNatClampNeg
    · refine br_t (by rw [e1, zk_l8, zl_le (by omega) (by omega) (by omega) (by omega)]; exact w) ?_
      rw [zk_8, show (8 : Int) = gp_pn G p.toNatClampNeg from by omega]; exact k61
    · refine br_f (by rw [e1, zk_l8, zl_le (by omega) (by omega) (by omega) (by omega)]; exact w) ⟨hp, ?_⟩
      rw [e1, zl_i, show t - G.1 3 p.toNatClampNeg = gp_pn G p.toNatClampNeg from by omega]; exact k61
  unfold wpY_firstPiece
  refine ⟨hp, hp, ?_⟩
  by_cases w : G.1 6 p.toNatClampNeg ≤ G.1 5 p.toNatClampNeg
  · refine br_t (by rw [hlast, h_max _ he, zl_le (by omega) (by omega) (by omega) (by omega)]; exact w) ⟨hp, ?_⟩
    rw [hlast]; exact k31 _ (by omega)
  · refine br_f (by rw [hlast, h_max _ he, zl_le (by omega) (by omega) (by omega) (by omega)]; exact w) ⟨hp, ?_⟩
    rw [h_max _ he]; exact k31 _ (by omega)
theorem vy_put {q : Int} {G : gm_T} {f_now : Int32} {f_sent : Int32} {a_seq : (Nat → Int32)} {a_flags : (Nat → Int32)} {a_acked : (Nat → Int32)} {a_window : (Nat → Int32)} {a_many : (Nat → Int32)} {a_data : (Nat → Int32)} {a_rows : (Nat → Int32)} {a_state : (Nat → Int32)} {a_error : (Nat → Int32)} {a_iss : (Nat → Int32)} {a_una : (Nat → Int64)} {a_nxt : (Nat → Int64)} {a_max : (Nat → Int64)} {a_last : (Nat → Int64)} {a_closed : (Nat → Int32)} {a_written : (Nat → Int32)} {a_irs : (Nat → Int32)} {a_unread : (Nat → Int32)} {a_bytes : (Nat → Int32)} {a_held : (Nat → Int32)} {a_rcv : (Nat → Int64)} {a_finAt : (Nat → Int64)} {a_marked : (Nat → Int32)} {a_wnd : (Nat → Int32)} {a_peak : (Nat → Int32)} {a_half : (Nat → Int32)} {a_rto : (Nat → Int32)} {a_same : (Nat → Int32)} {a_tries : (Nat → Int32)} {a_smooth : (Nat → Int32)} {a_spread : (Nat → Int32)} {a_byNumber : (Nat → Int32)} {a_byAck : (Nat → Int32)} {a_sampled : (Nat → Int32)} {a_told : (Nat → Int32)} {a_retry : (Nat → Int32)} {a_ackAt : (Nat → Int32)} {a_waitAt : (Nat → Int32)} {a_timedAt : (Nat → Int32)} {a_timed : (Nat → Int64)} {e : Nat} {s : Int} {y : Int32} (hv : vy_S q G (f_now, f_sent, a_seq, a_flags, a_acked, a_window, a_many, a_data, a_rows, a_state, a_error, a_iss, a_una, a_nxt, a_max, a_last, a_closed, a_written, a_irs, a_unread, a_bytes, a_held, a_rcv, a_finAt, a_marked, a_wnd, a_peak, a_half, a_rto, a_same, a_tries, a_smooth, a_spread, a_byNumber, a_byAck, a_sampled, a_told, a_retry, a_ackAt, a_waitAt, a_timedAt, a_timed)) (hy : y = zi_n s) : vy_S q (gp_put G 0 e s) (f_now, f_sent, a_seq, a_flags, a_acked, a_window, a_many, a_data, a_rows, upd a_state e y, a_error, a_iss, a_una, a_nxt, a_max, a_last, a_closed, a_written, a_irs, a_unread, a_bytes, a_held, a_rcv, a_finAt, a_marked, a_wnd, a_peak, a_half, a_rto, a_same, a_tries, a_smooth, a_spread, a_byNumber, a_byAck, a_sampled, a_told, a_retry, a_ackAt, a_waitAt, a_timedAt, a_timed) := by
  obtain ⟨h_now, h_sent, h_seq, h_flags, h_acked, h_window, h_many, h_data, h_rows, h_state, h_error, h_iss, h_una, h_nxt, h_max, h_last, h_closed, h_written, h_irs, h_unread, h_bytes, h_held, h_rcv, h_finAt, h_marked, h_wnd, h_peak, h_half, h_rto, h_same, h_tries, h_smooth, h_spread, h_byNumber, h_byAck, h_sampled, h_told, h_retry, h_ackAt, h_waitAt, h_timedAt, h_timed⟩ := hv
  exact (vy_mk h_now h_sent h_seq h_flags h_acked h_window h_many h_data h_rows (vu_e h_state (by rw [pu_s]; exact hy) (fun e' q => pu_o q _)) h_error h_iss h_una h_nxt h_max h_last h_closed h_written h_irs h_unread h_bytes h_held h_rcv h_finAt h_marked h_wnd h_peak h_half h_rto h_same h_tries h_smooth h_spread h_byNumber h_byAck h_sampled h_told h_retry h_ackAt h_waitAt h_timedAt h_timed)
theorem yl_linger {q : Int} {G : gm_T} {u : SY} {p : Int32} {P : SY → Prop} (hv : vy_S q G u) (hp : vp_in p 2) (hP : ∀ u', vy_S q (gp_wait G p.toNatClampNeg) u' → P u') : wpY_linger P u p := by
  obtain ⟨f_now, f_sent, a_seq, a_flags, a_acked, a_window, a_many, a_data, a_rows, a_state, a_error, a_iss, a_una, a_nxt, a_max, a_last, a_closed, a_written, a_irs, a_unread, a_bytes, a_held, a_rcv, a_finAt, a_marked, a_wnd, a_peak, a_half, a_rto, a_same, a_tries, a_smooth, a_spread, a_byNumber, a_byAck, a_sampled, a_told, a_retry, a_ackAt, a_waitAt, a_timedAt, a_timed⟩ := u
  obtain ⟨h_now, h_sent, h_seq, h_flags, h_acked, h_window, h_many, h_data, h_rows, h_state, h_error, h_iss, h_una, h_nxt, h_max, h_last, h_closed, h_written, h_irs, h_unread, h_bytes, h_held, h_rcv, h_finAt, h_marked, h_wnd, h_peak, h_half, h_rto, h_same, h_tries, h_smooth, h_spread, h_byNumber, h_byAck, h_sampled, h_told, h_retry, h_ackAt, h_waitAt, h_timedAt, h_timed⟩ := hv
  unfold wpY_linger
  refine ⟨hp, nm_e ⟨hp, nm_e (hP _ ?_)⟩⟩
  refine (vy_mk h_now h_sent h_seq h_flags h_acked h_window h_many h_data h_rows (vu_e h_state ?a1 (fun e' y => ?a2)) h_error h_iss h_una h_nxt h_max h_last h_closed h_written h_irs h_unread h_bytes h_held h_rcv h_finAt h_marked h_wnd h_peak h_half h_rto h_same h_tries h_smooth h_spread h_byNumber h_byAck h_sampled h_told h_retry h_ackAt (vu_e h_waitAt ?a3 (fun e' y => ?a4)) h_timedAt h_timed)
  case a1 => simp +decide only [gp_wait, gs_s, gs_f] <;> rfl
  case a2 => simp only [gp_wait, gs_e y]
  case a3 => simp +decide only [gp_wait, gs_s, gs_f]; rw [h_now, zk_20, zi_add]
  case a4 => simp only [gp_wait, gs_e y]
theorem yl_halved {P : Int32 → Prop} {f_now : Int32} {f_sent : Int32} {a_seq : (Nat → Int32)} {a_flags : (Nat → Int32)} {a_acked : (Nat → Int32)} {a_window : (Nat → Int32)} {a_many : (Nat → Int32)} {a_data : (Nat → Int32)} {a_rows : (Nat → Int32)} {a_state : (Nat → Int32)} {a_error : (Nat → Int32)} {a_iss : (Nat → Int32)} {a_una : (Nat → Int64)} {a_nxt : (Nat → Int64)} {a_max : (Nat → Int64)} {a_last : (Nat → Int64)} {a_closed : (Nat → Int32)} {a_written : (Nat → Int32)} {a_irs : (Nat → Int32)} {a_unread : (Nat → Int32)} {a_bytes : (Nat → Int32)} {a_held : (Nat → Int32)} {a_rcv : (Nat → Int64)} {a_finAt : (Nat → Int64)} {a_marked : (Nat → Int32)} {a_wnd : (Nat → Int32)} {a_peak : (Nat → Int32)} {a_half : (Nat → Int32)} {a_rto : (Nat → Int32)} {a_same : (Nat → Int32)} {a_tries : (Nat → Int32)} {a_smooth : (Nat → Int32)} {a_spread : (Nat → Int32)} {a_byNumber : (Nat → Int32)} {a_byAck : (Nat → Int32)} {a_sampled : (Nat → Int32)} {a_told : (Nat → Int32)} {a_retry : (Nat → Int32)} {a_ackAt : (Nat → Int32)} {a_waitAt : (Nat → Int32)} {a_timedAt : (Nat → Int32)} {a_timed : (Nat → Int64)} {p : Int32} {m v : Int} (hp : vp_in p 2) (hm : a_max p.toNatClampNeg = zl_n m) (hu : a_una p.toNatClampNeg = zl_n v) (h0 : 0 ≤ m - v) (h1 : m - v ≤ 100) (h : P (zi_n (max 8 ((m - v) / 2)))) : wpY_halved P (f_now, f_sent, a_seq, a_flags, a_acked, a_window, a_many, a_data, a_rows, a_state, a_error, a_iss, a_una, a_nxt, a_max, a_last, a_closed, a_written, a_irs, a_unread, a_bytes, a_held, a_rcv, a_finAt, a_marked, a_wnd, a_peak, a_half, a_rto, a_same, a_tries, a_smooth, a_spread, a_byNumber, a_byAck, a_sampled, a_told, a_retry, a_ackAt, a_waitAt, a_timedAt, a_timed) p := by
  unfold wpY_halved
  refine ⟨hp, hp, by decide, nm_r (e' := zi_n ((m - v) / 2)) (by rw [hm, hu, zl_sub, zl_i, zk_2, zi_div (by omega) (by omega) (by omega) (by omega)]) ?_⟩
  by_cases w : 8 ≤ (m - v) / 2
  · refine br_t (by rw [zk_8, zi_le (by omega) (by omega) (by omega) (by omega)]; exact w) ?_
    rw [show (m - v) / 2 = max 8 ((m - v) / 2) from by omega]; exact h
  · refine br_f (by rw [zk_8, zi_le (by omega) (by omega) (by omega) (by omega)]; exact w) ?_
    rw [show max 8 ((m - v) / 2) = 8 from by omega] at h; exact h
