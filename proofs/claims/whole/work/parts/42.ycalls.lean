/-! the reference: the calls -/
theorem yl_none {q K : Int} {G : gm_T} {u : SY} {P : Int32 → Prop} {x y : Int32} {k : Int} (hv : vy_S q G u) (hI : gv_I K G) (hy : y = zi_n k) (h0 : -2147483648 ≤ k) (h1 : k < 2147483648) (ht : vp_in x 2 → 0 ≤ k → k < G.1 30 x.toNatClampNeg → P 0) (hf : ¬ (vp_in x 2 ∧ 0 ≤ k ∧ k < G.1 30 x.toNatClampNeg) → P 1) : wpY_none P u x y := by
  obtain ⟨f_now, f_sent, a_seq, a_flags, a_acked, a_window, a_many, a_data, a_rows, a_state, a_error, a_iss, a_una, a_nxt, a_max, a_last, a_closed, a_written, a_irs, a_unread, a_bytes, a_held, a_rcv, a_finAt, a_marked, a_wnd, a_peak, a_half, a_rto, a_same, a_tries, a_smooth, a_spread, a_byNumber, a_byAck, a_sampled, a_told, a_retry, a_ackAt, a_waitAt, a_timedAt, a_timed⟩ := u
  obtain ⟨h_now, h_sent, h_seq, h_flags, h_acked, h_window, h_many, h_data, h_rows, h_state, h_error, h_iss, h_una, h_nxt, h_max, h_last, h_closed, h_written, h_irs, h_unread, h_bytes, h_held, h_rcv, h_finAt, h_marked, h_wnd, h_peak, h_half, h_rto, h_same, h_tries, h_smooth, h_spread, h_byNumber, h_byAck, h_sampled, h_told, h_retry, h_ackAt, h_waitAt, h_timedAt, h_timed⟩ := hv
  unfold wpY_none
  refine yl_end (fun hp => ?_) (fun hp => br_f (by decide) (hf (fun w => hp w.1)))
  have he := pe_lt hp
  obtain ⟨b1, b2, b3, b4, b5, b6⟩ := hI.2.2.2.2.1 _ he
  unfold gv_a at b1
  exact br_t rfl ⟨hp, yl_no (b := G.1 30 x.toNatClampNeg - 1) hy zk_0 (by rw [h_rows _ he, zk_1, zi_sub]) h0 h1 (by omega) (by omega) (by omega) (by omega) (fun w1 w2 => br_t rfl (ht hp w1 (by omega))) (fun w => br_f (by decide) (hf (fun z => w ⟨z.2.1, by have := z.2.2; omega⟩)))⟩
theorem yl_open {q K : Int} {G : gm_T} {u : SY} {P : Int32 → SY → Prop} {x y z : Int32} {iss : Int} (hv : vy_S q G u) (hI : gv_I K G) (hz : z = zi_n iss) (h0 : -2147483648 ≤ iss) (h1 : iss < 2147483648) (hA : ¬ (vp_in x 2 ∧ (0 ≤ iss ∧ iss ≤ 65535) ∧ G.1 0 x.toNatClampNeg = 0) → P (-1) u) (hB : vp_in x 2 → (0 ≤ iss ∧ iss ≤ 65535) → G.1 0 x.toNatClampNeg = 0 → ∀ u', vy_S q (gp_open G x.toNatClampNeg (decide (¬ y = 0)) iss) u' → P (if y = 0 then 1 else 2) u') : wpY_open P u x y z := by
  obtain ⟨f_now, f_sent, a_seq, a_flags, a_acked, a_window, a_many, a_data, a_rows, a_state, a_error, a_iss, a_una, a_nxt, a_max, a_last, a_closed, a_written, a_irs, a_unread, a_bytes, a_held, a_rcv, a_finAt, a_marked, a_wnd, a_peak, a_half, a_rto, a_same, a_tries, a_smooth, a_spread, a_byNumber, a_byAck, a_sampled, a_told, a_retry, a_ackAt, a_waitAt, a_timedAt, a_timed⟩ := u
  have hv0 := hv
  obtain ⟨h_now, h_sent, h_seq, h_flags, h_acked, h_window, h_many, h_data, h_rows, h_state, h_error, h_iss, h_una, h_nxt, h_max, h_last, h_closed, h_written, h_irs, h_unread, h_bytes, h_held, h_rcv, h_finAt, h_marked, h_wnd, h_peak, h_half, h_rto, h_same, h_tries, h_smooth, h_spread, h_byNumber, h_byAck, h_sampled, h_told, h_retry, h_ackAt, h_waitAt, h_timedAt, h_timed⟩ := hv0
  unfold wpY_open
  refine yl_end (fun hp => ?_) (fun hp => br_f (by decide) (hA (fun w => hp w.1)))
  have he := pe_lt hp
  obtain ⟨b1, b2, b3, b4, b5, b6⟩ := hI.2.2.2.2.1 _ he
  unfold gv_a at b1
  refine br_t rfl ⟨hp, ?_⟩
  by_cases w : G.1 0 x.toNatClampNeg = 0
  · refine br_t (by rw [h_state _ he, w]; rfl) (yl_no hz zk_0 zk_65535 h0 h1 (by omega) (by omega) (by omega) (by omega) (fun i1 i2 => ?_) (fun hi => br_f (by decide) (hA (fun t => hi t.2.1))))
    have hBB := hB hp ⟨i1, i2⟩ w
    refine br_t rfl (yl_first hv hp hz fun u1 hv1 => ?_)
    have hIl := iv_listen hI he i1 i2
    have hok := sk_syn hIl he (Or.inl rfl)
    have hii := gv_ii hIl he
    rw [pu_f (by decide), pu_f (by decide)] at hii
    unfold gp_open at hBB
    generalize gp_begin G x.toNatClampNeg iss = G1 at *
    obtain ⟨f_now, f_sent, a_seq, a_flags, a_acked, a_window, a_many, a_data, a_rows, a_state, a_error, a_iss, a_una, a_nxt, a_max, a_last, a_closed, a_written, a_irs, a_unread, a_bytes, a_held, a_rcv, a_finAt, a_marked, a_wnd, a_peak, a_half, a_rto, a_same, a_tries, a_smooth, a_spread, a_byNumber, a_byAck, a_sampled, a_told, a_retry, a_ackAt, a_waitAt, a_timedAt, a_timed⟩ := u1
    by_cases w2 : y = 0
    · refine br_t w2 ?_
      unfold wY_open_50
      refine ⟨hp, nm_e (br_t w2 ⟨hp, ?_⟩)⟩
      rw [zu_s]
      have e1 : decide (¬ y = 0) = false := by rw [w2]; rfl
      rw [e1, if_neg (by decide), if_pos w2] at hBB
      exact hBB _ (vy_put hv1 rfl)
    · have e1 : decide (¬ y = 0) = true := decide_eq_true w2
      rw [e1, if_pos rfl, if_neg w2] at hBB
      refine br_f w2 ?_
      unfold wY_open_50
      refine ⟨hp, nm_e (br_f w2 (yl_send (G := gp_put G1 0 x.toNatClampNeg 2) (fr := 0) (vy_put hv1 rfl) hp zk_l0 zk_1 zk_0 (by rw [pu_f (by decide), pu_f (by decide)]; exact hii) hok fun u2 hv2 => ?_))⟩
      have hst : (gp_send (gp_put G1 0 x.toNatClampNeg 2) x.toNatClampNeg 0 1 0).1 0 x.toNatClampNeg = 2 := by rw [sd_f (by decide) (by decide) (by decide) (by decide) (by decide) (by decide), pu_s]
      obtain ⟨f_now, f_sent, a_seq, a_flags, a_acked, a_window, a_many, a_data, a_rows, a_state, a_error, a_iss, a_una, a_nxt, a_max, a_last, a_closed, a_written, a_irs, a_unread, a_bytes, a_held, a_rcv, a_finAt, a_marked, a_wnd, a_peak, a_half, a_rto, a_same, a_tries, a_smooth, a_spread, a_byNumber, a_byAck, a_sampled, a_told, a_retry, a_ackAt, a_waitAt, a_timedAt, a_timed⟩ := u2
      have hv3 := hv2
      clear h_state
      obtain ⟨h_now, h_sent, h_seq, h_flags, h_acked, h_window, h_many, h_data, h_rows, h_state, h_error, h_iss, h_una, h_nxt, h_max, h_last, h_closed, h_written, h_irs, h_unread, h_bytes, h_held, h_rcv, h_finAt, h_marked, h_wnd, h_peak, h_half, h_rto, h_same, h_tries, h_smooth, h_spread, h_byNumber, h_byAck, h_sampled, h_told, h_retry, h_ackAt, h_waitAt, h_timedAt, h_timed⟩ := hv3
      refine ⟨hp, nm_e ⟨hp, ?_⟩⟩
      rw [h_state _ he, hst]
      exact hBB _ (vy_N hv2 rfl)
  · exact br_f (by rw [h_state _ he, zk_0, zi_eq (by omega) (by omega) (by omega) (by omega)]; exact w) (hA (fun z => w z.2.2))
theorem yl_close {q K : Int} {G : gm_T} {u : SY} {P : Int32 → SY → Prop} {x : Int32} (hv : vy_S q G u) (hI : gv_I K G) (hA : ¬ (vp_in x 2 ∧ (G.1 0 x.toNatClampNeg = 1 ∨ G.1 0 x.toNatClampNeg = 2 ∨ G.1 0 x.toNatClampNeg = 4 ∨ G.1 0 x.toNatClampNeg = 7)) → P (-1) u) (hB : vp_in x 2 → (G.1 0 x.toNatClampNeg = 1 ∨ G.1 0 x.toNatClampNeg = 2 ∨ G.1 0 x.toNatClampNeg = 4 ∨ G.1 0 x.toNatClampNeg = 7) → ∀ u', vy_S q (gp_close G x.toNatClampNeg) u' → P (zi_n ((gp_close G x.toNatClampNeg).1 0 x.toNatClampNeg)) u') : wpY_close P u x := by
  obtain ⟨f_now, f_sent, a_seq, a_flags, a_acked, a_window, a_many, a_data, a_rows, a_state, a_error, a_iss, a_una, a_nxt, a_max, a_last, a_closed, a_written, a_irs, a_unread, a_bytes, a_held, a_rcv, a_finAt, a_marked, a_wnd, a_peak, a_half, a_rto, a_same, a_tries, a_smooth, a_spread, a_byNumber, a_byAck, a_sampled, a_told, a_retry, a_ackAt, a_waitAt, a_timedAt, a_timed⟩ := u
  have hv0 := hv
  obtain ⟨h_now, h_sent, h_seq, h_flags, h_acked, h_window, h_many, h_data, h_rows, h_state, h_error, h_iss, h_una, h_nxt, h_max, h_last, h_closed, h_written, h_irs, h_unread, h_bytes, h_held, h_rcv, h_finAt, h_marked, h_wnd, h_peak, h_half, h_rto, h_same, h_tries, h_smooth, h_spread, h_byNumber, h_byAck, h_sampled, h_told, h_retry, h_ackAt, h_waitAt, h_timedAt, h_timed⟩ := hv0
  unfold wpY_close
  refine yl_end (fun hp => ?a) (fun hp => br_f (by decide) ?b)
  case b =>
    unfold wY_close_19
    exact br_f (by decide) (br_f (by decide) (br_f (by decide) (br_f (by decide) (hA (fun w => hp w.1)))))
  have he := pe_lt hp
  obtain ⟨b1, b2, b3, b4, b5, b6⟩ := hI.2.2.2.2.1 _ he
  unfold gv_a at b1
  have hs := h_state _ he
  refine br_t rfl ⟨hp, ?_⟩
  rw [hs]
  have fin : ∀ u2, vy_S q (gp_close G x.toNatClampNeg) u2 → (G.1 0 x.toNatClampNeg = 1 ∨ G.1 0 x.toNatClampNeg = 2 ∨ G.1 0 x.toNatClampNeg = 4 ∨ G.1 0 x.toNatClampNeg = 7) → (match u2 with | (f_now, f_sent, a_seq, a_flags, a_acked, a_window, a_many, a_data, a_rows, a_state, a_error, a_iss, a_una, a_nxt, a_max, a_last, a_closed, a_written, a_irs, a_unread, a_bytes, a_held, a_rcv, a_finAt, a_marked, a_wnd, a_peak, a_half, a_rto, a_same, a_tries, a_smooth, a_spread, a_byNumber, a_byAck, a_sampled, a_told, a_retry, a_ackAt, a_waitAt, a_timedAt, a_timed) => (vp_in x 2 ∧ P (a_state x.toNatClampNeg) (f_now, f_sent, a_seq, a_flags, a_acked, a_window, a_many, a_data, a_rows, a_state, a_error, a_iss, a_una, a_nxt, a_max, a_last, a_closed, a_written, a_irs, a_unread, a_bytes, a_held, a_rcv, a_finAt, a_marked, a_wnd, a_peak, a_half, a_rto, a_same, a_tries, a_smooth, a_spread, a_byNumber, a_byAck, a_sampled, a_told, a_retry, a_ackAt, a_waitAt, a_timedAt, a_timed))) := by
    intro u2 hv2 hst
    have hb := hB hp hst u2 hv2
    obtain ⟨f_now, f_sent, a_seq, a_flags, a_acked, a_window, a_many, a_data, a_rows, a_state, a_error, a_iss, a_una, a_nxt, a_max, a_last, a_closed, a_written, a_irs, a_unread, a_bytes, a_held, a_rcv, a_finAt, a_marked, a_wnd, a_peak, a_half, a_rto, a_same, a_tries, a_smooth, a_spread, a_byNumber, a_byAck, a_sampled, a_told, a_retry, a_ackAt, a_waitAt, a_timedAt, a_timed⟩ := u2
    clear h_state
    obtain ⟨h_now, h_sent, h_seq, h_flags, h_acked, h_window, h_many, h_data, h_rows, h_state, h_error, h_iss, h_una, h_nxt, h_max, h_last, h_closed, h_written, h_irs, h_unread, h_bytes, h_held, h_rcv, h_finAt, h_marked, h_wnd, h_peak, h_half, h_rto, h_same, h_tries, h_smooth, h_spread, h_byNumber, h_byAck, h_sampled, h_told, h_retry, h_ackAt, h_waitAt, h_timedAt, h_timed⟩ := hv2
    refine ⟨hp, ?_⟩
    rw [h_state _ he]
    exact hb
  have k30 : (G.1 0 x.toNatClampNeg = 1 ∨ G.1 0 x.toNatClampNeg = 2) → wY_close_30 P x f_now f_sent a_seq a_flags a_acked a_window a_many a_data a_rows a_state a_error a_iss a_una a_nxt a_max a_last a_closed a_written a_irs a_unread a_bytes a_held a_rcv a_finAt a_marked a_wnd a_peak a_half a_rto a_same a_tries a_smooth a_spread a_byNumber a_byAck a_sampled a_told a_retry a_ackAt a_waitAt a_timedAt a_timed := by
    intro h12
    have hc : gp_close G x.toNatClampNeg = gp_over G x.toNatClampNeg 0 := if_pos h12
    unfold wY_close_30
    refine yl_over hv hp zk_0 fun u1 hv1 => ?_
    rw [← hc] at hv1
    exact fin u1 hv1 (by omega)
  have k67 : ∀ (s : Int) (z : Int32), z = zi_n s → ((G.1 0 x.toNatClampNeg = 4 ∧ s = 5) ∨ (G.1 0 x.toNatClampNeg = 7 ∧ s = 9)) → wY_close_67 P x z x f_now f_sent a_seq a_flags a_acked a_window a_many a_data a_rows a_state a_error a_iss a_una a_nxt a_max a_last a_closed a_written a_irs a_unread a_bytes a_held a_rcv a_finAt a_marked a_wnd a_peak a_half a_rto a_same a_tries a_smooth a_spread a_byNumber a_byAck a_sampled a_told a_retry a_ackAt a_waitAt a_timedAt a_timed := by
    intro s z hz hss
    have hc : gp_close G x.toNatClampNeg = gp_flow (gs_c (gs_c G.1 0 x.toNatClampNeg s) 29 x.toNatClampNeg 1, G.2) x.toNatClampNeg := by
      unfold gp_close
      rcases hss with ⟨h1, h2⟩ | ⟨h1, h2⟩
      · rw [if_neg (by omega), if_pos h1, h2]
      · rw [if_neg (by omega), if_neg (by omega), if_pos h1, h2]
    have hIc := iv_cls hI he hss
    unfold wY_close_67
    refine ⟨hp, nm_e ⟨hp, nm_e ?_⟩⟩
    refine yl_flow (q := q) (G := (gs_c (gs_c G.1 0 x.toNatClampNeg s) 29 x.toNatClampNeg 1, G.2)) ?_ hIc hp fun u1 hv1 => ?_
    · refine (vy_mk h_now h_sent h_seq h_flags h_acked h_window h_many h_data h_rows (vu_e h_state ?a1 (fun e' y => ?a2)) h_error h_iss h_una h_nxt h_max h_last (vu_e h_closed ?a3 (fun e' y => ?a4)) h_written h_irs h_unread h_bytes h_held h_rcv h_finAt h_marked h_wnd h_peak h_half h_rto h_same h_tries h_smooth h_spread h_byNumber h_byAck h_sampled h_told h_retry h_ackAt h_waitAt h_timedAt h_timed)
      case a1 => simp +decide only [gs_s, gs_f]; exact hz
      case a2 => simp only [gs_e y]
      case a3 => simp +decide only [gs_s, gs_f] <;> rfl
      case a4 => simp only [gs_e y]
    · rw [← hc] at hv1
      exact fin u1 hv1 (by omega)
  unfold wY_close_19
  by_cases w1 : G.1 0 x.toNatClampNeg = 1
  · exact br_t (by rw [w1]; rfl) (k30 (Or.inl w1))
  refine br_f (by rw [zk_1, zi_eq (by omega) (by omega) (by omega) (by omega)]; exact w1) ?_
  by_cases w2 : G.1 0 x.toNatClampNeg = 2
  · exact br_t (by rw [w2]; rfl) (k30 (Or.inr w2))
  refine br_f (by rw [zk_2, zi_eq (by omega) (by omega) (by omega) (by omega)]; exact w2) ?_
  by_cases w4 : G.1 0 x.toNatClampNeg = 4
  · refine br_t (by rw [w4]; rfl) ?_
    unfold wY_close_50
    exact br_f (by rw [w4]; decide) (k67 5 5 zk_5 (Or.inl ⟨w4, rfl⟩))
  refine br_f (by rw [zk_4, zi_eq (by omega) (by omega) (by omega) (by omega)]; exact w4) ?_
  by_cases w7 : G.1 0 x.toNatClampNeg = 7
  · refine br_t (by rw [w7]; rfl) ?_
    unfold wY_close_50
    exact br_t (by rw [w7]; rfl) (k67 9 9 zk_9 (Or.inr ⟨w7, rfl⟩))
  exact br_f (by rw [zk_7, zi_eq (by omega) (by omega) (by omega) (by omega)]; exact w7) (hA (fun z => by have := z.2; omega))
theorem yl_abort {q K : Int} {G : gm_T} {u : SY} {P : Int32 → SY → Prop} {x : Int32} (hv : vy_S q G u) (hI : gv_I K G) (hA : ¬ (vp_in x 2 ∧ G.1 0 x.toNatClampNeg ≠ 0) → P (-1) u) (hB : vp_in x 2 → G.1 0 x.toNatClampNeg ≠ 0 → ∀ u', vy_S q (gp_abort G x.toNatClampNeg) u' → P (zi_n (G.1 0 x.toNatClampNeg)) u') : wpY_abort P u x := by
  obtain ⟨f_now, f_sent, a_seq, a_flags, a_acked, a_window, a_many, a_data, a_rows, a_state, a_error, a_iss, a_una, a_nxt, a_max, a_last, a_closed, a_written, a_irs, a_unread, a_bytes, a_held, a_rcv, a_finAt, a_marked, a_wnd, a_peak, a_half, a_rto, a_same, a_tries, a_smooth, a_spread, a_byNumber, a_byAck, a_sampled, a_told, a_retry, a_ackAt, a_waitAt, a_timedAt, a_timed⟩ := u
  have hv0 := hv
  obtain ⟨h_now, h_sent, h_seq, h_flags, h_acked, h_window, h_many, h_data, h_rows, h_state, h_error, h_iss, h_una, h_nxt, h_max, h_last, h_closed, h_written, h_irs, h_unread, h_bytes, h_held, h_rcv, h_finAt, h_marked, h_wnd, h_peak, h_half, h_rto, h_same, h_tries, h_smooth, h_spread, h_byNumber, h_byAck, h_sampled, h_told, h_retry, h_ackAt, h_waitAt, h_timedAt, h_timed⟩ := hv0
  unfold wpY_abort
  refine yl_end (fun hp => ?_) (fun hp => br_f (by decide) (hA (fun w => hp w.1)))
  have he := pe_lt hp
  obtain ⟨b1, b2, b3, b4, b5, b6⟩ := hI.2.2.2.2.1 _ he
  unfold gv_a at b1
  refine br_t rfl ⟨hp, ?_⟩
  by_cases w : G.1 0 x.toNatClampNeg = 0
  · exact br_t (by rw [h_state _ he, w]; rfl) (hA (fun z => z.2 w))
  · have hb := hB hp w
    refine br_f (by rw [h_state _ he, zk_0, zi_eq (by omega) (by omega) (by omega) (by omega)]; exact w) ⟨hp, nm_r (h_state _ he) ?_⟩
    have k56 : ∀ (G1 : gm_T) (u1 : SY), vy_S q G1 u1 → gp_over G1 x.toNatClampNeg 0 = gp_abort G x.toNatClampNeg → (match u1 with | (f_now, f_sent, a_seq, a_flags, a_acked, a_window, a_many, a_data, a_rows, a_state, a_error, a_iss, a_una, a_nxt, a_max, a_last, a_closed, a_written, a_irs, a_unread, a_bytes, a_held, a_rcv, a_finAt, a_marked, a_wnd, a_peak, a_half, a_rto, a_same, a_tries, a_smooth, a_spread, a_byNumber, a_byAck, a_sampled, a_told, a_retry, a_ackAt, a_waitAt, a_timedAt, a_timed) => wY_abort_56 P x (zi_n (G.1 0 x.toNatClampNeg)) f_now f_sent a_seq a_flags a_acked a_window a_many a_data a_rows a_state a_error a_iss a_una a_nxt a_max a_last a_closed a_written a_irs a_unread a_bytes a_held a_rcv a_finAt a_marked a_wnd a_peak a_half a_rto a_same a_tries a_smooth a_spread a_byNumber a_byAck a_sampled a_told a_retry a_ackAt a_waitAt a_timedAt a_timed) := by
      intro G1 u1 hv1 hov
      obtain ⟨f_now, f_sent, a_seq, a_flags, a_acked, a_window, a_many, a_data, a_rows, a_state, a_error, a_iss, a_una, a_nxt, a_max, a_last, a_closed, a_written, a_irs, a_unread, a_bytes, a_held, a_rcv, a_finAt, a_marked, a_wnd, a_peak, a_half, a_rto, a_same, a_tries, a_smooth, a_spread, a_byNumber, a_byAck, a_sampled, a_told, a_retry, a_ackAt, a_waitAt, a_timedAt, a_timed⟩ := u1
      show wY_abort_56 P x _ f_now f_sent a_seq a_flags a_acked a_window a_many a_data a_rows a_state a_error a_iss a_una a_nxt a_max a_last a_closed a_written a_irs a_unread a_bytes a_held a_rcv a_finAt a_marked a_wnd a_peak a_half a_rto a_same a_tries a_smooth a_spread a_byNumber a_byAck a_sampled a_told a_retry a_ackAt a_waitAt a_timedAt a_timed
      unfold wY_abort_56
      refine yl_over hv1 hp zk_0 fun u2 hv2 => ?_
      rw [hov] at hv2
      have := hb u2 hv2
      obtain ⟨f_now, f_sent, a_seq, a_flags, a_acked, a_window, a_many, a_data, a_rows, a_state, a_error, a_iss, a_una, a_nxt, a_max, a_last, a_closed, a_written, a_irs, a_unread, a_bytes, a_held, a_rcv, a_finAt, a_marked, a_wnd, a_peak, a_half, a_rto, a_same, a_tries, a_smooth, a_spread, a_byNumber, a_byAck, a_sampled, a_told, a_retry, a_ackAt, a_waitAt, a_timedAt, a_timed⟩ := u2
      exact this
    by_cases w2 : G.1 0 x.toNatClampNeg ≤ 2
    · refine br_t (by rw [zk_2, zi_le (by omega) (by omega) (by omega) (by omega)]; exact w2) ?_
      refine k56 G (f_now, f_sent, a_seq, a_flags, a_acked, a_window, a_many, a_data, a_rows, a_state, a_error, a_iss, a_una, a_nxt, a_max, a_last, a_closed, a_written, a_irs, a_unread, a_bytes, a_held, a_rcv, a_finAt, a_marked, a_wnd, a_peak, a_half, a_rto, a_same, a_tries, a_smooth, a_spread, a_byNumber, a_byAck, a_sampled, a_told, a_retry, a_ackAt, a_waitAt, a_timedAt, a_timed) hv ?_
      unfold gp_abort; rw [if_neg (by omega)]
    · refine br_f (by rw [zk_2, zi_le (by omega) (by omega) (by omega) (by omega)]; exact w2) ?_
      by_cases w3 : 10 ≤ G.1 0 x.toNatClampNeg
      · refine br_t (by rw [zk_10, zi_le (by omega) (by omega) (by omega) (by omega)]; exact w3) ?_
        refine k56 G (f_now, f_sent, a_seq, a_flags, a_acked, a_window, a_many, a_data, a_rows, a_state, a_error, a_iss, a_una, a_nxt, a_max, a_last, a_closed, a_written, a_irs, a_unread, a_bytes, a_held, a_rcv, a_finAt, a_marked, a_wnd, a_peak, a_half, a_rto, a_same, a_tries, a_smooth, a_spread, a_byNumber, a_byAck, a_sampled, a_told, a_retry, a_ackAt, a_waitAt, a_timedAt, a_timed) hv ?_
        unfold gp_abort; rw [if_neg (by omega)]
      · refine br_f (by rw [zk_10, zi_le (by omega) (by omega) (by omega) (by omega)]; exact w3) ⟨hp, yl_number (a := G.1 4 x.toNatClampNeg) hp (h_iss _ he) (by omega) (by omega) (h_nxt _ he) ?_⟩
        refine yl_refuse hv hp (by omega) (by omega) rfl fun u1 hv1 => ?_
        exact k56 _ u1 hv1 (by unfold gp_abort; rw [if_pos (by omega)])
theorem yl_drop {q K : Int} {G : gm_T} {u : SY} {P : Int32 → SY → Prop} {x y : Int32} {k : Int} (hv : vy_S q G u) (hI : gv_I K G) (hy : y = zi_n k) (h0 : -2147483648 ≤ k) (h1 : k < 2147483648) (hA : ¬ (vp_in x 2 ∧ 0 ≤ k ∧ k < G.1 30 x.toNatClampNeg) → P (-1) u) (hB : vp_in x 2 → 0 ≤ k → k < G.1 30 x.toNatClampNeg → ∀ u', vy_S q (gp_rm G x.toNatClampNeg k.toNat) u' → P (zi_n (G.1 30 x.toNatClampNeg - 1)) u') : wpY_drop P u x y := by
  obtain ⟨f_now, f_sent, a_seq, a_flags, a_acked, a_window, a_many, a_data, a_rows, a_state, a_error, a_iss, a_una, a_nxt, a_max, a_last, a_closed, a_written, a_irs, a_unread, a_bytes, a_held, a_rcv, a_finAt, a_marked, a_wnd, a_peak, a_half, a_rto, a_same, a_tries, a_smooth, a_spread, a_byNumber, a_byAck, a_sampled, a_told, a_retry, a_ackAt, a_waitAt, a_timedAt, a_timed⟩ := u
  unfold wpY_drop
  refine yl_none hv hI hy h0 h1 (fun hp k0 k1 => ?_) (fun h => br_f (by decide) (hA h))
  have he := pe_lt hp
  obtain ⟨b1, b2, b3, b4, b5, b6⟩ := hI.2.2.2.2.1 _ he
  unfold gv_a at b1
  refine br_t rfl (yl_take (k := k.toNat) hv hp (by rw [hy]; congr 1; omega) (by omega) (by omega) fun u1 hv1 => ?_)
  have hb := hB hp k0 k1 u1 hv1
  obtain ⟨f_now, f_sent, a_seq, a_flags, a_acked, a_window, a_many, a_data, a_rows, a_state, a_error, a_iss, a_una, a_nxt, a_max, a_last, a_closed, a_written, a_irs, a_unread, a_bytes, a_held, a_rcv, a_finAt, a_marked, a_wnd, a_peak, a_half, a_rto, a_same, a_tries, a_smooth, a_spread, a_byNumber, a_byAck, a_sampled, a_told, a_retry, a_ackAt, a_waitAt, a_timedAt, a_timed⟩ := u1
  obtain ⟨h_now, h_sent, h_seq, h_flags, h_acked, h_window, h_many, h_data, h_rows, h_state, h_error, h_iss, h_una, h_nxt, h_max, h_last, h_closed, h_written, h_irs, h_unread, h_bytes, h_held, h_rcv, h_finAt, h_marked, h_wnd, h_peak, h_half, h_rto, h_same, h_tries, h_smooth, h_spread, h_byNumber, h_byAck, h_sampled, h_told, h_retry, h_ackAt, h_waitAt, h_timedAt, h_timed⟩ := hv1
  refine ⟨hp, ?_⟩
  rw [h_rows _ he]
  show P (zi_n (gs_c _ _ _ _ _ _)) _
  rw [gs_s]
  exact hb
theorem yl_deliver {q K : Int} {G : gm_T} {u : SY} {P : Int32 → SY → Prop} {x y : Int32} {k : Int} (hv : vy_S q G u) (hI : gv_I K G) (hK : K + 8 ≤ 5000) (hy : y = zi_n k) (h0 : -2147483648 ≤ k) (h1 : k < 2147483648) (hA : ¬ (vp_in x 2 ∧ 0 ≤ k ∧ k < G.1 30 x.toNatClampNeg) → P (-1) u) (hB : vp_in x 2 → 0 ≤ k → k < G.1 30 x.toNatClampNeg → ∀ u', vy_S 0 (gp_deliver G x.toNatClampNeg k.toNat) u' → P (zi_n (gm_S (gp_deliver G x.toNatClampNeg k.toNat))) u') : wpY_deliver P u x y := by
  obtain ⟨f_now, f_sent, a_seq, a_flags, a_acked, a_window, a_many, a_data, a_rows, a_state, a_error, a_iss, a_una, a_nxt, a_max, a_last, a_closed, a_written, a_irs, a_unread, a_bytes, a_held, a_rcv, a_finAt, a_marked, a_wnd, a_peak, a_half, a_rto, a_same, a_tries, a_smooth, a_spread, a_byNumber, a_byAck, a_sampled, a_told, a_retry, a_ackAt, a_waitAt, a_timedAt, a_timed⟩ := u
  unfold wpY_deliver
  refine yl_none hv hI hy h0 h1 (fun hp k0 k1 => ?_) (fun h => br_f (by decide) (hA h))
  have he := pe_lt hp
  have hz := pe_z hp
  obtain ⟨b1, b2, b3, b4, b5, b6⟩ := hI.2.2.2.2.1 _ he
  unfold gv_a at b1
  have e1 : 1 - x = zi_n (((1 - x.toNatClampNeg : Nat)) : Int) := by
    generalize x.toNatClampNeg = e at hz he
    rw [hz, zk_1, zi_sub]; congr 1; omega
  have e2 : (zi_n (((1 - x.toNatClampNeg : Nat)) : Int)).toNatClampNeg = 1 - x.toNatClampNeg := by rw [zi_cl (by omega) (by omega)]; omega
  have hp' : vp_in (zi_n (((1 - x.toNatClampNeg : Nat)) : Int)) 2 := zi_in (by omega) (by omega) (by omega)
  have he' : 1 - x.toNatClampNeg < 2 := by omega
  have e3 : 16 * x + y = zi_n ((16 * x.toNatClampNeg + k.toNat : Nat) : Int) := by
    generalize x.toNatClampNeg = e at hz he
    rw [hz, hy, zk_16, zi_mul, zi_add]; congr 1; omega
  have hb := hB hp k0 k1
  have hvz := vy_zero hv
  have hIz := iv_zero hI
  have kk : 16 * x.toNatClampNeg + k.toNat < 32 := by omega
  have hrow : 16 * x.toNatClampNeg + k.toNat < 16 * (zi_n (((1 - x.toNatClampNeg : Nat)) : Int)).toNatClampNeg ∨ 16 * (zi_n (((1 - x.toNatClampNeg : Nat)) : Int)).toNatClampNeg + 16 ≤ 16 * x.toNatClampNeg + k.toNat := by rw [e2]; omega
  refine br_t rfl ?_
  rw [e1, e3]
  refine yl_arrive hvz hIz hK hp' kk rfl hrow fun u1 hv1 => ?_
  rw [e2] at hv1
  have hrw : (gp_arrive (gp_zero G) (1 - x.toNatClampNeg) (16 * x.toNatClampNeg + k.toNat)).1 30 x.toNatClampNeg = G.1 30 x.toNatClampNeg := ar_o (by omega) _
  obtain ⟨f_now, f_sent, a_seq, a_flags, a_acked, a_window, a_many, a_data, a_rows, a_state, a_error, a_iss, a_una, a_nxt, a_max, a_last, a_closed, a_written, a_irs, a_unread, a_bytes, a_held, a_rcv, a_finAt, a_marked, a_wnd, a_peak, a_half, a_rto, a_same, a_tries, a_smooth, a_spread, a_byNumber, a_byAck, a_sampled, a_told, a_retry, a_ackAt, a_waitAt, a_timedAt, a_timed⟩ := u1
  refine yl_take (k := k.toNat) hv1 hp (by rw [hy]; congr 1; omega) (by rw [hrw]; omega) (by rw [hrw]; omega) fun u2 hv2 => ?_
  have hb2 := hb u2 hv2
  obtain ⟨f_now, f_sent, a_seq, a_flags, a_acked, a_window, a_many, a_data, a_rows, a_state, a_error, a_iss, a_una, a_nxt, a_max, a_last, a_closed, a_written, a_irs, a_unread, a_bytes, a_held, a_rcv, a_finAt, a_marked, a_wnd, a_peak, a_half, a_rto, a_same, a_tries, a_smooth, a_spread, a_byNumber, a_byAck, a_sampled, a_told, a_retry, a_ackAt, a_waitAt, a_timedAt, a_timed⟩ := u2
  obtain ⟨h_now, h_sent, h_seq, h_flags, h_acked, h_window, h_many, h_data, h_rows, h_state, h_error, h_iss, h_una, h_nxt, h_max, h_last, h_closed, h_written, h_irs, h_unread, h_bytes, h_held, h_rcv, h_finAt, h_marked, h_wnd, h_peak, h_half, h_rto, h_same, h_tries, h_smooth, h_spread, h_byNumber, h_byAck, h_sampled, h_told, h_retry, h_ackAt, h_waitAt, h_timedAt, h_timed⟩ := hv2
  have hs : zi_n (gm_S (gp_deliver G x.toNatClampNeg k.toNat)) = f_sent := by rw [h_sent, Int.add_zero]; rfl
  rw [hs] at hb2
  exact hb2
theorem yl_twice {q K : Int} {G : gm_T} {u : SY} {P : Int32 → SY → Prop} {x y : Int32} {k : Int} (hv : vy_S q G u) (hI : gv_I K G) (hy : y = zi_n k) (h0 : -2147483648 ≤ k) (h1 : k < 2147483648) (hA : ¬ (vp_in x 2 ∧ 0 ≤ k ∧ k < G.1 30 x.toNatClampNeg) → P (-1) u) (hF : vp_in x 2 → 0 ≤ k → k < G.1 30 x.toNatClampNeg → G.1 30 x.toNatClampNeg = 16 → P (-2) u) (hB : vp_in x 2 → 0 ≤ k → k < G.1 30 x.toNatClampNeg → G.1 30 x.toNatClampNeg < 16 → ∀ u', vy_S q (gp_twice G x.toNatClampNeg k.toNat) u' → P (zi_n (G.1 30 x.toNatClampNeg + 1)) u') : wpY_twice P u x y := by
  obtain ⟨f_now, f_sent, a_seq, a_flags, a_acked, a_window, a_many, a_data, a_rows, a_state, a_error, a_iss, a_una, a_nxt, a_max, a_last, a_closed, a_written, a_irs, a_unread, a_bytes, a_held, a_rcv, a_finAt, a_marked, a_wnd, a_peak, a_half, a_rto, a_same, a_tries, a_smooth, a_spread, a_byNumber, a_byAck, a_sampled, a_told, a_retry, a_ackAt, a_waitAt, a_timedAt, a_timed⟩ := u
  have hv0 := hv
  obtain ⟨h_now, h_sent, h_seq, h_flags, h_acked, h_window, h_many, h_data, h_rows, h_state, h_error, h_iss, h_una, h_nxt, h_max, h_last, h_closed, h_written, h_irs, h_unread, h_bytes, h_held, h_rcv, h_finAt, h_marked, h_wnd, h_peak, h_half, h_rto, h_same, h_tries, h_smooth, h_spread, h_byNumber, h_byAck, h_sampled, h_told, h_retry, h_ackAt, h_waitAt, h_timedAt, h_timed⟩ := hv0
  unfold wpY_twice
  refine yl_none hv hI hy h0 h1 (fun hp k0 k1 => ?_) (fun h => br_f (by decide) (hA h))
  have he := pe_lt hp
  have hz := pe_z hp
  obtain ⟨b1, b2, b3, b4, b5, b6⟩ := hI.2.2.2.2.1 _ he
  unfold gv_a at b1
  refine br_t rfl ⟨hp, ?_⟩
  by_cases w : G.1 30 x.toNatClampNeg = 16
  · exact br_t (by rw [h_rows _ he, w]; rfl) (hF hp k0 k1 w)
  · have hb := hB hp k0 k1 (by omega)
    refine br_f (by rw [h_rows _ he, zk_16, zi_eq (by omega) (by omega) (by omega) (by omega)]; exact w) ⟨hp, ?_⟩
    have e3 : 16 * x + y = zi_n ((16 * x.toNatClampNeg + k.toNat : Nat) : Int) := by
      generalize x.toNatClampNeg = e at hz he
      rw [hz, hy, zk_16, zi_mul, zi_add]; congr 1; omega
    have e4 : 16 * x + a_rows x.toNatClampNeg = zi_n ((16 * x.toNatClampNeg + (G.1 30 x.toNatClampNeg).toNat : Nat) : Int) := by
      rw [h_rows _ he]
      generalize x.toNatClampNeg = e at *
      rw [hz, zk_16, zi_mul, zi_add]; congr 1; omega
    refine yl_copy (a := 16 * x.toNatClampNeg + k.toNat) (b := 16 * x.toNatClampNeg + (G.1 30 x.toNatClampNeg).toNat) e3 e4 (by omega) (by omega) (by omega) fun SB hSB => ⟨hp, hp, nm_r (e' := upd a_rows x.toNatClampNeg (zi_n (G.1 30 x.toNatClampNeg + 1))) (by rw [h_rows _ he, zk_1, zi_add]) ⟨hp, ?_⟩⟩
    rw [zu_s]
    refine hb _ ?_
    refine (vy_mk h_now h_sent (vs_0 h_seq (h_seq _ (by omega))) (vs_1 h_flags (h_flags _ (by omega))) (vs_2 h_acked (h_acked _ (by omega))) (vs_3 h_window (h_window _ (by omega))) (vs_4 h_many (h_many _ (by omega))) (fun j hj => ?a2) (vu_e h_rows ?a1 (fun e' y => gs_e y)) h_state h_error h_iss h_una h_nxt h_max h_last h_closed h_written h_irs h_unread h_bytes h_held h_rcv h_finAt h_marked h_wnd h_peak h_half h_rto h_same h_tries h_smooth h_spread h_byNumber h_byAck h_sampled h_told h_retry h_ackAt h_waitAt h_timedAt h_timed)
    case a1 =>
      show _ = zi_n (gs_c _ _ _ _ _ _)
      rw [gs_s]
    case a2 =>
      have t : gm_D (gp_twice G x.toNatClampNeg k.toNat) j = gm_d (gm_D G) (16 * x.toNatClampNeg + (G.1 30 x.toNatClampNeg).toNat) 8 (fun i => gm_D G (8 * (16 * x.toNatClampNeg + k.toNat) + i.toNat)) j := rfl
      rw [hSB, t]
      unfold gm_d
      by_cases w2 : 8 * (16 * x.toNatClampNeg + (G.1 30 x.toNatClampNeg).toNat) ≤ j ∧ j < 8 * (16 * x.toNatClampNeg + (G.1 30 x.toNatClampNeg).toNat) + 8
      · rw [if_pos w2, if_pos (by omega), h_data _ (by omega)]
        congr 2; omega
      · rw [if_neg w2, if_neg (by omega)]; exact h_data j hj
theorem yl_state {q : Int} {G : gm_T} {u : SY} {P : Int32 → Prop} {x : Int32} (hv : vy_S q G u) (hA : ¬ vp_in x 2 → P (-1)) (hB : vp_in x 2 → P (zi_n (G.1 0 x.toNatClampNeg))) : wpY_state P u x := by
  obtain ⟨f_now, f_sent, a_seq, a_flags, a_acked, a_window, a_many, a_data, a_rows, a_state, a_error, a_iss, a_una, a_nxt, a_max, a_last, a_closed, a_written, a_irs, a_unread, a_bytes, a_held, a_rcv, a_finAt, a_marked, a_wnd, a_peak, a_half, a_rto, a_same, a_tries, a_smooth, a_spread, a_byNumber, a_byAck, a_sampled, a_told, a_retry, a_ackAt, a_waitAt, a_timedAt, a_timed⟩ := u
  obtain ⟨h_now, h_sent, h_seq, h_flags, h_acked, h_window, h_many, h_data, h_rows, h_state, h_error, h_iss, h_una, h_nxt, h_max, h_last, h_closed, h_written, h_irs, h_unread, h_bytes, h_held, h_rcv, h_finAt, h_marked, h_wnd, h_peak, h_half, h_rto, h_same, h_tries, h_smooth, h_spread, h_byNumber, h_byAck, h_sampled, h_told, h_retry, h_ackAt, h_waitAt, h_timedAt, h_timed⟩ := hv
  unfold wpY_state
  refine yl_end (fun hp => ?_) (fun hp => br_f (by decide) (hA hp))
  refine br_t rfl ⟨hp, ?_⟩
  rw [h_state _ (pe_lt hp)]
  exact hB hp
theorem yl_info {q K : Int} {G : gm_T} {u : SY} {P : Int32 → Prop} {x y : Int32} {w : Int} (hv : vy_S q G u) (hI : gv_I K G) (hy : y = zi_n w) (h0 : -2147483648 ≤ w) (h1 : w < 2147483648) (hA : ¬ (vp_in x 2 ∧ 0 ≤ w ∧ w ≤ 13) → P (-1)) (hB : vp_in x 2 → 0 ≤ w → w ≤ 13 → P (zi_n (gi_v G x.toNatClampNeg w))) : wpY_info P u x y := by
  obtain ⟨f_now, f_sent, a_seq, a_flags, a_acked, a_window, a_many, a_data, a_rows, a_state, a_error, a_iss, a_una, a_nxt, a_max, a_last, a_closed, a_written, a_irs, a_unread, a_bytes, a_held, a_rcv, a_finAt, a_marked, a_wnd, a_peak, a_half, a_rto, a_same, a_tries, a_smooth, a_spread, a_byNumber, a_byAck, a_sampled, a_told, a_retry, a_ackAt, a_waitAt, a_timedAt, a_timed⟩ := u
  have hv0 := hv
  obtain ⟨h_now, h_sent, h_seq, h_flags, h_acked, h_window, h_many, h_data, h_rows, h_state, h_error, h_iss, h_una, h_nxt, h_max, h_last, h_closed, h_written, h_irs, h_unread, h_bytes, h_held, h_rcv, h_finAt, h_marked, h_wnd, h_peak, h_half, h_rto, h_same, h_tries, h_smooth, h_spread, h_byNumber, h_byAck, h_sampled, h_told, h_retry, h_ackAt, h_waitAt, h_timedAt, h_timed⟩ := hv0
  unfold wpY_info
  refine yl_end (fun hp => ?_) (fun hp => br_f (by decide) (hA (fun z => hp z.1)))
  have he := pe_lt hp
  obtain ⟨b1, b2, b3, b4, b5, b6⟩ := hI.2.2.2.2.1 _ he
  have n1 := hI.2.1
  have n2 := hI.2.2.2.1
  have kp := kp_of hI he
  have ii := gv_ii hI he
  unfold gv_a at b1
  unfold gv_d at b4
  refine br_t rfl (yl_no hy zk_0 zk_13 h0 h1 (by omega) (by omega) (by omega) (by omega) (fun c0 c1 => ?_) (fun c => br_f (by decide) (hA (fun z => c z.2))))
  subst hy
  have hb := hB hp c0 c1
  refine br_t rfl ?_
  have hcase : w = 0 ∨ w = 1 ∨ w = 2 ∨ 2 < w := by omega
  rcases hcase with rfl | rfl | rfl | c2
  · refine br_t rfl ⟨hp, ?_⟩
    rw [h_error _ he]; exact hb
  · refine br_f (by decide) (br_t rfl (yl_kept hp (h_una _ he) (h_last _ he) kp.2.1 kp.2.2.1 kp.2.2.2.1 kp.2.2.2.2 ?_))
    rw [kp.1]; exact hb
  · refine br_f (by decide) (br_f (by decide) (br_t rfl ⟨hp, ?_⟩))
    rw [h_unread _ he]; exact hb
  refine br_f (by rw [zk_0, zi_eq h0 h1 (by omega) (by omega)]; omega) (br_f (by rw [zk_1, zi_eq h0 h1 (by omega) (by omega)]; omega) (br_f (by rw [zk_2, zi_eq h0 h1 (by omega) (by omega)]; omega) ⟨hp, ?_⟩))
  unfold gi_v at hb
  rw [if_neg (by omega), if_neg (by omega), if_neg (by omega)] at hb
  by_cases s2 : G.1 0 x.toNatClampNeg < 2
  · rw [if_pos s2] at hb
    refine br_f (by rw [h_state _ he, zk_2, zi_le (by omega) (by omega) (by omega) (by omega)]; omega) ?_
    by_cases c : w = 10
    · rw [if_pos c] at hb; exact br_t (by rw [c]; rfl) hb
    · rw [if_neg c] at hb; exact br_f (by rw [zk_10, zi_eq h0 h1 (by omega) (by omega)]; exact c) hb
  rw [if_neg s2] at hb
  obtain ⟨y1, y2, y3, y4⟩ := gv_yy hI he (by omega)
  refine br_t (by rw [h_state _ he, zk_2, zi_le (by omega) (by omega) (by omega) (by omega)]; omega) (br_f (by rw [zk_3, zi_lt h0 h1 (by omega) (by omega)]; omega) ?_)
  have hc2 : w = 3 ∨ w = 4 ∨ w = 5 ∨ w = 6 ∨ w = 7 ∨ w = 8 ∨ w = 9 ∨ w = 10 ∨ w = 11 ∨ w = 12 ∨ w = 13 := by omega
  rcases hc2 with rfl | rfl | rfl | rfl | rfl | rfl | rfl | rfl | rfl | rfl | rfl
  · refine br_f (by decide) (br_t (by decide) ⟨hp, yl_number (a := G.1 3 x.toNatClampNeg) hp (h_iss _ he) ii.1.1 ii.1.2 (by rw [h_una _ he, y1]) ?_⟩)
    exact hb
  · refine br_f (by decide) (br_f (by decide) (br_t (by decide) ⟨hp, yl_number (a := G.1 4 x.toNatClampNeg) hp (h_iss _ he) ii.1.1 ii.1.2 (h_nxt _ he) ?_⟩))
    exact hb
  · refine br_f (by decide) (br_f (by decide) (br_f (by decide) (br_t (by decide) (yl_due hp (h_irs _ he) ii.2.1 ii.2.2 (h_rcv _ he) ?_))))
    exact hb
  · refine br_f (by decide) (br_f (by decide) (br_f (by decide) (br_f (by decide) (br_t (by decide) ⟨hp, ?_⟩))))
    rw [h_wnd _ he]; exact hb
  · refine br_f (by decide) (br_f (by decide) (br_f (by decide) (br_f (by decide) (br_f (by decide) (br_t (by decide) ⟨hp, ?_⟩)))))
    rw [h_peak _ he]; exact hb
  · refine br_f (by decide) (br_f (by decide) (br_f (by decide) (br_f (by decide) (br_f (by decide) (br_f (by decide) (br_t (by decide) ⟨hp, ?_⟩))))))
    rw [h_half _ he]; exact hb
  · refine br_f (by decide) (br_f (by decide) (br_f (by decide) (br_f (by decide) (br_f (by decide) (br_f (by decide) (br_f (by decide) (br_t (by decide) ⟨hp, ?_⟩)))))))
    rw [h_rto _ he]; exact hb
  · refine br_f (by decide) (br_f (by decide) (br_f (by decide) (br_f (by decide) (br_f (by decide) (br_f (by decide) (br_f (by decide) (br_f (by decide) (br_t (by decide) ⟨hp, ?_⟩))))))))
    rw [h_retry _ he, h_now]
    by_cases r : G.1 21 x.toNatClampNeg < 0
    · exact br_f (by rw [zk_0, zi_le (by omega) (by omega) (by omega) (by omega)]; omega) (by have := hb; rw [if_neg (by decide), if_neg (by decide), if_neg (by decide), if_neg (by decide), if_neg (by decide), if_neg (by decide), if_neg (by decide), if_pos rfl, if_pos r] at this; exact this)
    · refine br_t (by rw [zk_0, zi_le (by omega) (by omega) (by omega) (by omega)]; omega) ⟨hp, ?_⟩
      rw [zi_sub]
      have := hb; rw [if_neg (by decide), if_neg (by decide), if_neg (by decide), if_neg (by decide), if_neg (by decide), if_neg (by decide), if_neg (by decide), if_pos rfl, if_neg r] at this; exact this
  · refine br_f (by decide) (br_f (by decide) (br_f (by decide) (br_f (by decide) (br_f (by decide) (br_f (by decide) (br_f (by decide) (br_f (by decide) (br_f (by decide) (br_t (by decide) ⟨hp, ?_⟩)))))))))
    rw [h_ackAt _ he]
    by_cases r : G.1 22 x.toNatClampNeg < 0
    · exact br_f (by rw [zk_0, zi_le (by omega) (by omega) (by omega) (by omega)]; omega) (by have := hb; rw [if_neg (by decide), if_neg (by decide), if_neg (by decide), if_neg (by decide), if_neg (by decide), if_neg (by decide), if_neg (by decide), if_neg (by decide), if_pos rfl, if_pos r] at this; exact this)
    · exact br_t (by rw [zk_0, zi_le (by omega) (by omega) (by omega) (by omega)]; omega) (by have := hb; rw [if_neg (by decide), if_neg (by decide), if_neg (by decide), if_neg (by decide), if_neg (by decide), if_neg (by decide), if_neg (by decide), if_neg (by decide), if_pos rfl, if_neg r] at this; exact this)
  · refine br_f (by decide) (br_f (by decide) (br_f (by decide) (br_f (by decide) (br_f (by decide) (br_f (by decide) (br_f (by decide) (br_f (by decide) (br_f (by decide) (br_f (by decide) (br_t (by decide) ⟨hp, ?_⟩))))))))))
    rw [h_tries _ he, y4]; exact hb
  · refine br_t (by decide) (yl_holds hv hI hp (fun z => ?_) (fun z => ?_))
    · refine br_f (by decide) ?_
      have := hb; rw [if_neg (by decide), if_neg (by decide), if_neg (by decide), if_neg (by decide), if_neg (by decide), if_neg (by decide), if_neg (by decide), if_neg (by decide), if_neg (by decide), if_neg (by decide), if_pos z] at this; exact this
    · refine br_t rfl ?_
      have := hb; rw [if_neg (by decide), if_neg (by decide), if_neg (by decide), if_neg (by decide), if_neg (by decide), if_neg (by decide), if_neg (by decide), if_neg (by decide), if_neg (by decide), if_neg (by decide), if_neg (by rw [z]; decide)] at this; exact this
theorem zk_12 : (12 : Int32) = zi_n 12 := rfl
theorem yl_wire {q K : Int} {G : gm_T} {u : SY} {P : Int32 → Prop} {x y z : Int32} {k w : Int} (hv : vy_S q G u) (hI : gv_I K G) (hy : y = zi_n k) (h0 : -2147483648 ≤ k) (h1 : k < 2147483648) (hz : z = zi_n w) (w0 : -2147483648 ≤ w) (w1 : w < 2147483648) (hA : ¬ vp_in x 2 → P (-1)) (hC : vp_in x 2 → w = -1 → P (zi_n (G.1 30 x.toNatClampNeg))) (hD : vp_in x 2 → w ≠ -1 → ¬ (0 ≤ k ∧ k < G.1 30 x.toNatClampNeg) → P (-1)) (hB : vp_in x 2 → w ≠ -1 → 0 ≤ k → k < G.1 30 x.toNatClampNeg → P (zi_n (gi_w G (16 * x.toNatClampNeg + k.toNat) w))) : wpY_wire P u x y z := by
  obtain ⟨f_now, f_sent, a_seq, a_flags, a_acked, a_window, a_many, a_data, a_rows, a_state, a_error, a_iss, a_una, a_nxt, a_max, a_last, a_closed, a_written, a_irs, a_unread, a_bytes, a_held, a_rcv, a_finAt, a_marked, a_wnd, a_peak, a_half, a_rto, a_same, a_tries, a_smooth, a_spread, a_byNumber, a_byAck, a_sampled, a_told, a_retry, a_ackAt, a_waitAt, a_timedAt, a_timed⟩ := u
  have hv0 := hv
  obtain ⟨h_now, h_sent, h_seq, h_flags, h_acked, h_window, h_many, h_data, h_rows, h_state, h_error, h_iss, h_una, h_nxt, h_max, h_last, h_closed, h_written, h_irs, h_unread, h_bytes, h_held, h_rcv, h_finAt, h_marked, h_wnd, h_peak, h_half, h_rto, h_same, h_tries, h_smooth, h_spread, h_byNumber, h_byAck, h_sampled, h_told, h_retry, h_ackAt, h_waitAt, h_timedAt, h_timed⟩ := hv0
  subst hz
  unfold wpY_wire
  by_cases c : w = -1
  · refine br_t (by rw [c]; rfl) (yl_end (fun hp => br_t rfl ⟨hp, ?_⟩) (fun hp => br_f (by decide) (hA hp)))
    rw [h_rows _ (pe_lt hp)]; exact hC hp c
  refine br_f (by rw [zk_m1, zi_eq w0 w1 (by omega) (by omega)]; exact c) (yl_none hv hI hy h0 h1 (fun hp k0 k1 => ?a) (fun h => br_f (by decide) ?b))
  case b =>
    by_cases hp : vp_in x 2
    · exact hD hp c (fun t => h ⟨hp, t⟩)
    · exact hA hp
  have he := pe_lt hp
  have hzz := pe_z hp
  obtain ⟨b1, b2, b3, b4, b5, b6⟩ := hI.2.2.2.2.1 _ he
  unfold gv_a at b1
  have kk : 16 * x.toNatClampNeg + k.toNat < 32 := by omega
  have l1 := hI.2.2.2.2.2.1.1 _ kk
  have hb := hB hp c k0 k1
  have e3 : 16 * x + y = zi_n ((16 * x.toNatClampNeg + k.toNat : Nat) : Int) := by
    generalize x.toNatClampNeg = e at hzz he
    rw [hzz, hy, zk_16, zi_mul, zi_add]; congr 1; omega
  generalize 16 * x.toNatClampNeg + k.toNat = s at *
  have hin : vp_in (zi_n (s : Int)) 32 := yk_in kk
  have hc : (zi_n (s : Int)).toNatClampNeg = s := sl_c (by omega)
  refine br_t rfl (yl_no rfl zk_0 zk_12 w0 w1 (by omega) (by omega) (by omega) (by omega) (fun c0 c1 => ?c) (fun cc => br_f (by decide) ?d))
  case d =>
    unfold gi_w at hb
    rw [if_neg (by omega), if_neg (by omega), if_neg (by omega), if_neg (by omega), if_neg (by omega), if_neg (by omega)] at hb
    exact hb
  refine br_t rfl (nm_r e3 (br_f (by rw [zk_0, zi_lt w0 w1 (by omega) (by omega)]; omega) ?_))
  rw [hc]
  have hcase : w = 0 ∨ w = 1 ∨ w = 2 ∨ w = 3 ∨ w = 4 ∨ 4 < w := by omega
  rcases hcase with rfl | rfl | rfl | rfl | rfl | c4
  · refine br_f (by decide) (br_t rfl ⟨hin, ?_⟩)
    rw [h_seq s kk]; exact hb
  · refine br_f (by decide) (br_f (by decide) (br_t rfl ⟨hin, ?_⟩))
    rw [h_flags s kk]; exact hb
  · refine br_f (by decide) (br_f (by decide) (br_f (by decide) (br_t rfl ⟨hin, ?_⟩)))
    rw [h_acked s kk]; exact hb
  · refine br_f (by decide) (br_f (by decide) (br_f (by decide) (br_f (by decide) (br_t rfl ⟨hin, ?_⟩))))
    rw [h_window s kk]; exact hb
  · refine br_f (by decide) (br_f (by decide) (br_f (by decide) (br_f (by decide) (br_f (by decide) (br_t rfl ⟨hin, ?_⟩)))))
    rw [h_many s kk]; exact hb
  · refine br_t (by rw [zk_4, zi_lt (by omega) (by omega) w0 w1]; exact c4) ⟨hin, ?_⟩
    unfold gi_w at hb
    rw [if_neg (by omega), if_neg (by omega), if_neg (by omega), if_neg (by omega), if_neg (by omega)] at hb
    rw [h_many s kk, zk_5, zi_sub]
    by_cases c5 : gm_L G 4 s ≤ w - 5
    · rw [if_neg (by omega)] at hb
      exact br_t (by rw [zi_le (by omega) (by omega) (by omega) (by omega)]; exact c5) hb
    · rw [if_pos (by omega)] at hb
      have e5 : 8 * zi_n (s : Int) + zi_n w - zi_n 5 = zi_n (((8 * s + (w - 5).toNat : Nat)) : Int) := by rw [zk_8, zi_mul, zi_add, zi_sub]; congr 1; omega
      refine br_f (by rw [zi_le (by omega) (by omega) (by omega) (by omega)]; exact c5) ?_
      rw [e5]
      refine ⟨zi_in (by omega) (by omega) (by omega), ?_⟩
      rw [zi_cl (by omega) (by omega), Int.toNat_natCast, h_data _ (by omega)]; exact hb
