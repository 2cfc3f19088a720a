/-! the reference: a segment arrives at an end that is closed, listens or opens -/
theorem yk_in {k : Nat} (hk : k < 32) : vp_in (zi_n (k : Int)) 32 := zi_in (by omega) (by omega) (by omega)
theorem yl_length {q K : Int} {G : gm_T} {u : SY} {x : Int32} {P : Int32 → Prop} {k : Nat} (hv : vy_S q G u) (hI : gv_I K G) (hk : k < 32) (hx : x = zi_n (k : Int)) (h : P (zi_n (gp_slen G k))) : wpY_length P u x := by
  obtain ⟨f_now, f_sent, a_seq, a_flags, a_acked, a_window, a_many, a_data, a_rows, a_state, a_error, a_iss, a_una, a_nxt, a_max, a_last, a_closed, a_written, a_irs, a_unread, a_bytes, a_held, a_rcv, a_finAt, a_marked, a_wnd, a_peak, a_half, a_rto, a_same, a_tries, a_smooth, a_spread, a_byNumber, a_byAck, a_sampled, a_told, a_retry, a_ackAt, a_waitAt, a_timedAt, a_timed⟩ := u
  obtain ⟨h_now, h_sent, h_seq, h_flags, h_acked, h_window, h_many, h_data, h_rows, h_state, h_error, h_iss, h_una, h_nxt, h_max, h_last, h_closed, h_written, h_irs, h_unread, h_bytes, h_held, h_rcv, h_finAt, h_marked, h_wnd, h_peak, h_half, h_rto, h_same, h_tries, h_smooth, h_spread, h_byNumber, h_byAck, h_sampled, h_told, h_retry, h_ackAt, h_waitAt, h_timedAt, h_timed⟩ := hv
  have l1 := hI.2.2.2.2.2.1.1 k hk
  have hin : vp_in x 32 := by rw [hx]; exact yk_in hk
  have hxk : x.toNatClampNeg = k := by rw [hx]; exact sl_c (by omega)
  unfold wpY_length
  refine ⟨hin, hin, hin, by decide, ?_⟩
  rw [hxk, h_many k hk, h_flags k hk, zf_1 (by omega) (by omega), zf_d (by omega) (by omega), zi_add, zi_add]
  exact h
theorem yl_toClosed {q K : Int} {G : gm_T} {u : SY} {p x : Int32} {P : SY → Prop} {k : Nat} (hv : vy_S q G u) (hI : gv_I K G) (hp : vp_in p 2) (hk : k < 32) (hx : x = zi_n (k : Int)) (hP : ∀ u', vy_S q (gp_toClosed G p.toNatClampNeg k) u' → P u') : wpY_toClosed P u p x := by
  obtain ⟨f_now, f_sent, a_seq, a_flags, a_acked, a_window, a_many, a_data, a_rows, a_state, a_error, a_iss, a_una, a_nxt, a_max, a_last, a_closed, a_written, a_irs, a_unread, a_bytes, a_held, a_rcv, a_finAt, a_marked, a_wnd, a_peak, a_half, a_rto, a_same, a_tries, a_smooth, a_spread, a_byNumber, a_byAck, a_sampled, a_told, a_retry, a_ackAt, a_waitAt, a_timedAt, a_timed⟩ := u
  have hv0 := hv
  obtain ⟨h_now, h_sent, h_seq, h_flags, h_acked, h_window, h_many, h_data, h_rows, h_state, h_error, h_iss, h_una, h_nxt, h_max, h_last, h_closed, h_written, h_irs, h_unread, h_bytes, h_held, h_rcv, h_finAt, h_marked, h_wnd, h_peak, h_half, h_rto, h_same, h_tries, h_smooth, h_spread, h_byNumber, h_byAck, h_sampled, h_told, h_retry, h_ackAt, h_waitAt, h_timedAt, h_timed⟩ := hv0
  have he := pe_lt hp
  obtain ⟨b1, b2, b3, b4, b5, b6⟩ := hI.2.2.2.2.1 _ he
  unfold gv_a at b1
  have l1 := hI.2.2.2.2.2.1.1 k hk
  have hin : vp_in x 32 := by rw [hx]; exact yk_in hk
  have hxk : x.toNatClampNeg = k := by rw [hx]; exact sl_c (by omega)
  unfold wpY_toClosed
  rw [hxk]
  refine ⟨hin, ?_⟩
  rw [h_flags k hk, zf_8 (by omega) (by omega), zf_2 (by omega) (by omega)]
  by_cases w : gm_L G 1 k / 8 % 2 = 1
  · have : gp_toClosed G p.toNatClampNeg k = G := if_pos w
    rw [this] at hP
    exact br_f (by rw [zk_0, zi_eq (by omega) (by omega) (by omega) (by omega)]; omega) (hP _ hv)
  · refine br_t (by rw [zk_0, zi_eq (by omega) (by omega) (by omega) (by omega)]; omega) ⟨hin, yl_length hv hI hk hx (nm_r (e' := zi_n ((gm_L G 0 k + gp_slen G k) % 65536)) (by rw [h_seq k hk, zi_add, zi_a16]) ⟨hin, ?_⟩)⟩
    by_cases w2 : gm_L G 1 k / 2 % 2 = 1
    · have : gp_toClosed G p.toNatClampNeg k = gp_rst G p.toNatClampNeg (gm_L G 2 k) 8 0 := by unfold gp_toClosed; rw [if_neg w, if_pos w2]
      rw [this] at hP
      refine br_f (by rw [zk_0, zi_eq (by omega) (by omega) (by omega) (by omega)]; omega) ⟨hin, yl_refuse hv hp (by omega) (by omega) (h_acked k hk) fun u1 hv1 => ?_⟩
      have := hP u1 hv1
      obtain ⟨f_now, f_sent, a_seq, a_flags, a_acked, a_window, a_many, a_data, a_rows, a_state, a_error, a_iss, a_una, a_nxt, a_max, a_last, a_closed, a_written, a_irs, a_unread, a_bytes, a_held, a_rcv, a_finAt, a_marked, a_wnd, a_peak, a_half, a_rto, a_same, a_tries, a_smooth, a_spread, a_byNumber, a_byAck, a_sampled, a_told, a_retry, a_ackAt, a_waitAt, a_timedAt, a_timed⟩ := u1
      exact this
    · have : gp_toClosed G p.toNatClampNeg k = gp_rst G p.toNatClampNeg 0 10 ((gm_L G 0 k + gp_slen G k) % 65536) := by unfold gp_toClosed; rw [if_neg w, if_neg w2]
      rw [this] at hP
      refine br_t (by rw [zk_0, zi_eq (by omega) (by omega) (by omega) (by omega)]; omega) (yl_rst hv hp (by omega) (by omega) zk_0 zk_10 rfl zk_0 fun r u1 hv1 => ?_)
      have := hP u1 hv1
      obtain ⟨f_now, f_sent, a_seq, a_flags, a_acked, a_window, a_many, a_data, a_rows, a_state, a_error, a_iss, a_una, a_nxt, a_max, a_last, a_closed, a_written, a_irs, a_unread, a_bytes, a_held, a_rcv, a_finAt, a_marked, a_wnd, a_peak, a_half, a_rto, a_same, a_tries, a_smooth, a_spread, a_byNumber, a_byAck, a_sampled, a_told, a_retry, a_ackAt, a_waitAt, a_timedAt, a_timed⟩ := u1
      exact this
theorem yl_hear {q : Int} {G : gm_T} {u : SY} {p x : Int32} {P : SY → Prop} {k : Nat} (hv : vy_S q G u) (hp : vp_in p 2) (hk : k < 32) (hx : x = zi_n (k : Int)) (hur : G.1 9 p.toNatClampNeg = 0) (hh : ∀ p', gm_H G p.toNatClampNeg p' = false) (hP : ∀ u', vy_S q (gp_hear G p.toNatClampNeg k) u' → P u') : wpY_hear P u p x := by
  obtain ⟨f_now, f_sent, a_seq, a_flags, a_acked, a_window, a_many, a_data, a_rows, a_state, a_error, a_iss, a_una, a_nxt, a_max, a_last, a_closed, a_written, a_irs, a_unread, a_bytes, a_held, a_rcv, a_finAt, a_marked, a_wnd, a_peak, a_half, a_rto, a_same, a_tries, a_smooth, a_spread, a_byNumber, a_byAck, a_sampled, a_told, a_retry, a_ackAt, a_waitAt, a_timedAt, a_timed⟩ := u
  obtain ⟨h_now, h_sent, h_seq, h_flags, h_acked, h_window, h_many, h_data, h_rows, h_state, h_error, h_iss, h_una, h_nxt, h_max, h_last, h_closed, h_written, h_irs, h_unread, h_bytes, h_held, h_rcv, h_finAt, h_marked, h_wnd, h_peak, h_half, h_rto, h_same, h_tries, h_smooth, h_spread, h_byNumber, h_byAck, h_sampled, h_told, h_retry, h_ackAt, h_waitAt, h_timedAt, h_timed⟩ := hv
  have he := pe_lt hp
  have hin : vp_in x 32 := by rw [hx]; exact yk_in hk
  have hxk : x.toNatClampNeg = k := by rw [hx]; exact sl_c (by omega)
  unfold wpY_hear
  rw [hxk]
  refine ⟨hin, hp, nm_e ⟨hp, nm_e ⟨hin, hp, nm_e (hP _ ?_)⟩⟩⟩
  generalize p.toNatClampNeg = e at *
  have o : ∀ e' f, e' ≠ e → (gp_hear G e k).1 f e' = G.1 f e' := fun e' f y => he_o y f
  have z0 : ∀ j, j < 64 → a_marked (64 * e + j) = 0 := by
    intro j hj
    have := h_marked e he (G.1 8 e + ((j : Int) - G.1 8 e) % 64) (by omega) (by omega)
    rw [show ((G.1 8 e + ((j : Int) - G.1 8 e) % 64) % 64).toNat = j from by omega, hh] at this
    exact this
  refine (vy_mk h_now h_sent h_seq h_flags h_acked h_window h_many h_data h_rows h_state h_error h_iss h_una h_nxt h_max h_last h_closed h_written (vu_e h_irs ?a1 (fun e' y => o _ _ y)) h_unread (fun e' he' i z => ?a4) h_held (vu_l h_rcv ?a2 (fun e' y => o _ _ y)) h_finAt (fun e' he' p' h1 h2 => ?a5) (vu_e h_wnd ?a3 (fun e' y => o _ _ y)) h_peak h_half h_rto h_same h_tries h_smooth h_spread h_byNumber h_byAck h_sampled h_told h_retry h_ackAt h_waitAt h_timedAt h_timed)
  case a1 => simp +decide only [gp_hear, gs_s, gs_f]; exact h_seq k hk
  case a2 => simp +decide only [gp_hear, gs_s, gs_f] <;> rfl
  case a3 => simp +decide only [gp_hear, gs_s, gs_f]; exact h_window k hk
  case a4 =>
    by_cases y : e' = e
    · subst y; simp +decide only [gp_hear, gs_s, gs_f] at z; omega
    · simp only [o _ _ y] at z ⊢; exact h_bytes e' he' i z
  case a5 =>
    by_cases y : e' = e
    · subst y
      show _ = if gm_H G e' p' = true then 1 else 0
      rw [hh, z0 _ (by omega)]; rfl
    · simp only [o _ _ y] at h1 h2; exact h_marked e' he' p' h1 h2
theorem yl_toListening {q K : Int} {G : gm_T} {u : SY} {p x : Int32} {P : SY → Prop} {k : Nat} (hv : vy_S q G u) (hI : gv_I K G) (hp : vp_in p 2) (hk : k < 32) (hx : x = zi_n (k : Int)) (hs : G.1 0 p.toNatClampNeg = 1) (hP : ∀ u', vy_S q (gp_toListen G p.toNatClampNeg k) u' → P u') : wpY_toListening P u p x := by
  obtain ⟨f_now, f_sent, a_seq, a_flags, a_acked, a_window, a_many, a_data, a_rows, a_state, a_error, a_iss, a_una, a_nxt, a_max, a_last, a_closed, a_written, a_irs, a_unread, a_bytes, a_held, a_rcv, a_finAt, a_marked, a_wnd, a_peak, a_half, a_rto, a_same, a_tries, a_smooth, a_spread, a_byNumber, a_byAck, a_sampled, a_told, a_retry, a_ackAt, a_waitAt, a_timedAt, a_timed⟩ := u
  have hv0 := hv
  obtain ⟨h_now, h_sent, h_seq, h_flags, h_acked, h_window, h_many, h_data, h_rows, h_state, h_error, h_iss, h_una, h_nxt, h_max, h_last, h_closed, h_written, h_irs, h_unread, h_bytes, h_held, h_rcv, h_finAt, h_marked, h_wnd, h_peak, h_half, h_rto, h_same, h_tries, h_smooth, h_spread, h_byNumber, h_byAck, h_sampled, h_told, h_retry, h_ackAt, h_waitAt, h_timedAt, h_timed⟩ := hv0
  have he := pe_lt hp
  have l1 := hI.2.2.2.2.2.1.1 k hk
  have hin : vp_in x 32 := by rw [hx]; exact yk_in hk
  have hxk : x.toNatClampNeg = k := by rw [hx]; exact sl_c (by omega)
  obtain ⟨y1, y2, y3, y4⟩ := gv_yy hI he (by omega)
  obtain ⟨b1, b2, b3, b4, b5, b6⟩ := hI.2.2.2.2.1 _ he
  unfold gv_a at b1
  unfold gv_p at b2
  have hpos := b2.2.2.1 hs
  unfold wpY_toListening
  rw [hxk]
  refine ⟨hin, nm_r (h_flags k hk) ?_⟩
  rw [zf_8 (by omega) (by omega), zf_2 (by omega) (by omega), zf_1 (by omega) (by omega)]
  by_cases w : gm_L G 1 k / 8 % 2 = 1
  · have : gp_toListen G p.toNatClampNeg k = G := if_pos w
    rw [this] at hP
    exact br_f (by rw [zk_0, zi_eq (by omega) (by omega) (by omega) (by omega)]; omega) (hP _ hv)
  · refine br_t (by rw [zk_0, zi_eq (by omega) (by omega) (by omega) (by omega)]; omega) ?_
    by_cases w2 : gm_L G 1 k / 2 % 2 = 1
    · have : gp_toListen G p.toNatClampNeg k = gp_rst G p.toNatClampNeg (gm_L G 2 k) 8 0 := by unfold gp_toListen; rw [if_neg w, if_pos w2]
      rw [this] at hP
      refine br_f (by rw [zk_0, zi_eq (by omega) (by omega) (by omega) (by omega)]; omega) ⟨hin, yl_refuse hv hp (by omega) (by omega) (h_acked k hk) fun u1 hv1 => ?_⟩
      have := hP u1 hv1
      obtain ⟨f_now, f_sent, a_seq, a_flags, a_acked, a_window, a_many, a_data, a_rows, a_state, a_error, a_iss, a_una, a_nxt, a_max, a_last, a_closed, a_written, a_irs, a_unread, a_bytes, a_held, a_rcv, a_finAt, a_marked, a_wnd, a_peak, a_half, a_rto, a_same, a_tries, a_smooth, a_spread, a_byNumber, a_byAck, a_sampled, a_told, a_retry, a_ackAt, a_waitAt, a_timedAt, a_timed⟩ := u1
      exact this
    · refine br_t (by rw [zk_0, zi_eq (by omega) (by omega) (by omega) (by omega)]; omega) ?_
      by_cases w3 : gm_L G 1 k % 2 = 1
      · have : gp_toListen G p.toNatClampNeg k = gp_put (gp_send (gp_put (gp_hear G p.toNatClampNeg k) 0 p.toNatClampNeg 3) p.toNatClampNeg 0 1 0) 4 p.toNatClampNeg 1 := by unfold gp_toListen; rw [if_neg w, if_neg w2, if_pos w3]
        rw [this] at hP
        refine br_f (by rw [zk_0, zi_eq (by omega) (by omega) (by omega) (by omega)]; omega) ?_
        obtain ⟨i1, i2, i3⟩ := gv_idle hI he (Or.inl hs)
        refine yl_hear hv hp hk hx i1 i3 fun u1 hv1 => ?_
        have hIh := iv_hear hI he hk (Or.inl hs)
        have hI1 : gv_I K (gp_put (gp_hear G p.toNatClampNeg k) 0 p.toNatClampNeg 1) := by
          have e1 : gs_c (gp_hear G p.toNatClampNeg k).1 0 p.toNatClampNeg 1 = (gp_hear G p.toNatClampNeg k).1 := gs_id (by simp +decide only [gp_hear, gs_f]; exact hs.symm)
          show gv_I K (gs_c (gp_hear G p.toNatClampNeg k).1 0 p.toNatClampNeg 1, (gp_hear G p.toNatClampNeg k).2)
          rw [e1]; exact hIh
        have ok := sk_syn hI1 he (Or.inr rfl)
        have hii := gv_ii hIh he
        have hYU : (gp_hear G p.toNatClampNeg k).1 32 p.toNatClampNeg = 0 := by simp +decide only [gp_hear, gs_f]; omega
        have hMM : (gp_hear G p.toNatClampNeg k).1 5 p.toNatClampNeg = 0 := by simp +decide only [gp_hear, gs_f]; omega
        generalize gp_hear G p.toNatClampNeg k = G1 at *
        obtain ⟨f_now, f_sent, a_seq, a_flags, a_acked, a_window, a_many, a_data, a_rows, a_state, a_error, a_iss, a_una, a_nxt, a_max, a_last, a_closed, a_written, a_irs, a_unread, a_bytes, a_held, a_rcv, a_finAt, a_marked, a_wnd, a_peak, a_half, a_rto, a_same, a_tries, a_smooth, a_spread, a_byNumber, a_byAck, a_sampled, a_told, a_retry, a_ackAt, a_waitAt, a_timedAt, a_timed⟩ := u1
        have hv2 : vy_S q (gp_put G1 0 p.toNatClampNeg 3) (f_now, f_sent, a_seq, a_flags, a_acked, a_window, a_many, a_data, a_rows, upd a_state p.toNatClampNeg 3, a_error, a_iss, vp_updL a_una p.toNatClampNeg 0, a_nxt, vp_updL a_max p.toNatClampNeg 0, a_last, a_closed, a_written, a_irs, a_unread, a_bytes, a_held, a_rcv, a_finAt, a_marked, a_wnd, a_peak, a_half, a_rto, a_same, a_tries, a_smooth, a_spread, a_byNumber, a_byAck, a_sampled, a_told, a_retry, a_ackAt, a_waitAt, a_timedAt, a_timed) := by
          clear h_una h_max h_state
          obtain ⟨h_now, h_sent, h_seq, h_flags, h_acked, h_window, h_many, h_data, h_rows, h_state, h_error, h_iss, h_una, h_nxt, h_max, h_last, h_closed, h_written, h_irs, h_unread, h_bytes, h_held, h_rcv, h_finAt, h_marked, h_wnd, h_peak, h_half, h_rto, h_same, h_tries, h_smooth, h_spread, h_byNumber, h_byAck, h_sampled, h_told, h_retry, h_ackAt, h_waitAt, h_timedAt, h_timed⟩ := hv1
          refine (vy_mk h_now h_sent h_seq h_flags h_acked h_window h_many h_data h_rows (vu_e h_state ?a3 (fun e' y => pu_o y _)) h_error h_iss (vu_l h_una ?a1 (fun e' y => pu_o y _)) h_nxt (vu_l h_max ?a2 (fun e' y => pu_o y _)) h_last h_closed h_written h_irs h_unread h_bytes h_held h_rcv h_finAt h_marked h_wnd h_peak h_half h_rto h_same h_tries h_smooth h_spread h_byNumber h_byAck h_sampled h_told h_retry h_ackAt h_waitAt h_timedAt h_timed)
          case a1 => rw [pu_f (by decide), hYU]; rfl
          case a2 => rw [pu_f (by decide), hMM]; rfl
          case a3 => rw [pu_s]; rfl
        refine ⟨hp, nm_e ⟨hp, nm_e ⟨hp, nm_e (yl_send (G := gp_put G1 0 p.toNatClampNeg 3) (fr := 0) hv2 hp zk_l0 zk_1 zk_0 (by rw [pu_f (by decide), pu_f (by decide)]; exact hii) ok fun u3 hv3 => ?_)⟩⟩⟩
        obtain ⟨f_now, f_sent, a_seq, a_flags, a_acked, a_window, a_many, a_data, a_rows, a_state, a_error, a_iss, a_una, a_nxt, a_max, a_last, a_closed, a_written, a_irs, a_unread, a_bytes, a_held, a_rcv, a_finAt, a_marked, a_wnd, a_peak, a_half, a_rto, a_same, a_tries, a_smooth, a_spread, a_byNumber, a_byAck, a_sampled, a_told, a_retry, a_ackAt, a_waitAt, a_timedAt, a_timed⟩ := u3
        exact ⟨hp, nm_e (hP _ (vy_N hv3 rfl))⟩
      · have : gp_toListen G p.toNatClampNeg k = G := by unfold gp_toListen; rw [if_neg w, if_neg w2, if_neg w3]
        rw [this] at hP
        exact br_t (by rw [zk_0, zi_eq (by omega) (by omega) (by omega) (by omega)]; omega) (hP _ hv)
theorem yl_toOpening {q K : Int} {G : gm_T} {u : SY} {p x : Int32} {P : SY → Prop} {k : Nat} (hv : vy_S q G u) (hI : gv_I K G) (hp : vp_in p 2) (hk : k < 32) (hx : x = zi_n (k : Int)) (hs : G.1 0 p.toNatClampNeg = 2) (hP : ∀ u', vy_S q (gp_toOpen G p.toNatClampNeg k) u' → P u') : wpY_toOpening P u p x := by
  obtain ⟨f_now, f_sent, a_seq, a_flags, a_acked, a_window, a_many, a_data, a_rows, a_state, a_error, a_iss, a_una, a_nxt, a_max, a_last, a_closed, a_written, a_irs, a_unread, a_bytes, a_held, a_rcv, a_finAt, a_marked, a_wnd, a_peak, a_half, a_rto, a_same, a_tries, a_smooth, a_spread, a_byNumber, a_byAck, a_sampled, a_told, a_retry, a_ackAt, a_waitAt, a_timedAt, a_timed⟩ := u
  have hv0 := hv
  obtain ⟨h_now, h_sent, h_seq, h_flags, h_acked, h_window, h_many, h_data, h_rows, h_state, h_error, h_iss, h_una, h_nxt, h_max, h_last, h_closed, h_written, h_irs, h_unread, h_bytes, h_held, h_rcv, h_finAt, h_marked, h_wnd, h_peak, h_half, h_rto, h_same, h_tries, h_smooth, h_spread, h_byNumber, h_byAck, h_sampled, h_told, h_retry, h_ackAt, h_waitAt, h_timedAt, h_timed⟩ := hv0
  have he := pe_lt hp
  have l1 := hI.2.2.2.2.2.1.1 k hk
  have hin : vp_in x 32 := by rw [hx]; exact yk_in hk
  have hxk : x.toNatClampNeg = k := by rw [hx]; exact sl_c (by omega)
  obtain ⟨i1, i2, i3⟩ := gv_idle hI he (Or.inr hs)
  have hIh := iv_hear hI he hk (Or.inr hs)
  have hsh : (gp_hear G p.toNatClampNeg k).1 0 p.toNatClampNeg = 2 := by simp +decide only [gp_hear, gs_f]; exact hs
  have huh : (gp_hear G p.toNatClampNeg k).1 10 p.toNatClampNeg + (gp_hear G p.toNatClampNeg k).1 9 p.toNatClampNeg = (gp_hear G p.toNatClampNeg k).1 8 p.toNatClampNeg := by simp +decide only [gp_hear, gs_s, gs_f]; omega
  obtain ⟨b1, b2, b3, b4, b5, b6⟩ := hI.2.2.2.2.1 _ he
  unfold gv_a at b1
  unfold gv_p at b2
  have k70 : ∀ x4 x5 : Int32, (x4 = 0 ↔ ¬ gm_L G 1 k / 2 % 2 = 1) → (x5 = 0 ↔ ¬ gm_L G 1 k / 8 % 2 = 1) → ¬ (gm_L G 1 k / 2 % 2 = 1 ∧ gm_L G 2 k ≠ (G.1 2 p.toNatClampNeg + 1) % 65536) → wY_toOpening_71 P p x (zi_n (gm_L G 1 k)) x4 x5 f_now f_sent a_seq a_flags a_acked a_window a_many a_data a_rows a_state a_error a_iss a_una a_nxt a_max a_last a_closed a_written a_irs a_unread a_bytes a_held a_rcv a_finAt a_marked a_wnd a_peak a_half a_rto a_same a_tries a_smooth a_spread a_byNumber a_byAck a_sampled a_told a_retry a_ackAt a_waitAt a_timedAt a_timed := by
    intro x4 x5 hx4 hx5 hna
    unfold wY_toOpening_71
    rw [zf_1 (by omega) (by omega)]
    by_cases w : gm_L G 1 k / 8 % 2 = 1
    · refine br_f (fun z => hx5.mp z w) ?_
      by_cases w2 : gm_L G 1 k / 2 % 2 = 1
      · have : gp_toOpen G p.toNatClampNeg k = gp_reset G p.toNatClampNeg := by unfold gp_toOpen; rw [if_neg hna, if_pos w, if_pos w2]
        rw [this] at hP
        refine br_f (fun z => hx4.mp z w2) (yl_reset hv hp (by omega) (by omega) fun u1 hv1 => ?_)
        have := hP u1 hv1
        obtain ⟨f_now, f_sent, a_seq, a_flags, a_acked, a_window, a_many, a_data, a_rows, a_state, a_error, a_iss, a_una, a_nxt, a_max, a_last, a_closed, a_written, a_irs, a_unread, a_bytes, a_held, a_rcv, a_finAt, a_marked, a_wnd, a_peak, a_half, a_rto, a_same, a_tries, a_smooth, a_spread, a_byNumber, a_byAck, a_sampled, a_told, a_retry, a_ackAt, a_waitAt, a_timedAt, a_timed⟩ := u1
        exact this
      · have : gp_toOpen G p.toNatClampNeg k = G := by unfold gp_toOpen; rw [if_neg hna, if_pos w, if_neg w2]
        rw [this] at hP
        exact br_t (hx4.mpr w2) (hP _ hv)
    · refine br_t (hx5.mpr w) ?_
      by_cases w3 : gm_L G 1 k % 2 = 1
      · refine br_f (by rw [zk_0, zi_eq (by omega) (by omega) (by omega) (by omega)]; omega) ?_
        refine yl_hear hv hp hk hx i1 i3 fun u1 hv1 => ?_
        obtain ⟨f_now, f_sent, a_seq, a_flags, a_acked, a_window, a_many, a_data, a_rows, a_state, a_error, a_iss, a_una, a_nxt, a_max, a_last, a_closed, a_written, a_irs, a_unread, a_bytes, a_held, a_rcv, a_finAt, a_marked, a_wnd, a_peak, a_half, a_rto, a_same, a_tries, a_smooth, a_spread, a_byNumber, a_byAck, a_sampled, a_told, a_retry, a_ackAt, a_waitAt, a_timedAt, a_timed⟩ := u1
        by_cases w2 : gm_L G 1 k / 2 % 2 = 1
        · have hgo : gp_toOpen G p.toNatClampNeg k = gp_flow (gp_ack (gp_put (gp_tmeas (gp_opened (gp_hear G p.toNatClampNeg k) p.toNatClampNeg) p.toNatClampNeg) 0 p.toNatClampNeg 4) p.toNatClampNeg) p.toNatClampNeg := by unfold gp_toOpen; rw [if_neg hna, if_neg w, if_pos w3, if_pos w2]
          rw [hgo] at hP
          have hI4 := iv_opened hIh he hsh huh
          refine br_f (fun z => hx4.mp z w2) ⟨hp, nm_e ⟨hp, nm_e ⟨hp, nm_e ⟨hp, ?_⟩⟩⟩⟩
          have mok : 0 ≤ (gp_hear G p.toNatClampNeg k).1 24 p.toNatClampNeg → mq_ok (gp_opened (gp_hear G p.toNatClampNeg k) p.toNatClampNeg) p.toNatClampNeg := fun z => by
            have := mq_of hIh he z
            unfold mq_ok at *
            rw [show gm_N (gp_opened (gp_hear G p.toNatClampNeg k) p.toNatClampNeg) = gm_N (gp_hear G p.toNatClampNeg k) from rfl]
            simp +decide only [gp_opened, gs_f]
            exact this
          have tme : ∀ G1 : gm_T, (gp_opened G1 p.toNatClampNeg).1 24 p.toNatClampNeg = G1.1 24 p.toNatClampNeg := fun G1 => by simp +decide only [gp_opened, gs_f]
          have tmb : -1 ≤ (gp_hear G p.toNatClampNeg k).1 24 p.toNatClampNeg ∧ (gp_hear G p.toNatClampNeg k).1 24 p.toNatClampNeg ≤ 1000000 := by
            have hok := sk_of (fr := 0) (fl := 1) (n := 0) hI he (by omega) (Or.inr (Or.inl rfl)) (by omega) (by omega) (by omega) (by omega) (by omega)
            obtain ⟨o1, o2, o3, o4, o5, o6, o7, o8, o9, oa, ob, oc, od, oe, og, oh, oi, oj, ok⟩ := hok
            simp +decide only [gp_hear, gs_f]; exact ⟨oj, ok⟩
          generalize gp_hear G p.toNatClampNeg k = G1 at *
          have hv2 := hv1
          clear h_timed
          obtain ⟨h_now, h_sent, h_seq, h_flags, h_acked, h_window, h_many, h_data, h_rows, h_state, h_error, h_iss, h_una, h_nxt, h_max, h_last, h_closed, h_written, h_irs, h_unread, h_bytes, h_held, h_rcv, h_finAt, h_marked, h_wnd, h_peak, h_half, h_rto, h_same, h_tries, h_smooth, h_spread, h_byNumber, h_byAck, h_sampled, h_told, h_retry, h_ackAt, h_waitAt, h_timedAt, h_timed⟩ := hv2
          have hvo : vy_S q (gp_opened G1 p.toNatClampNeg) (f_now, f_sent, a_seq, a_flags, a_acked, a_window, a_many, a_data, a_rows, a_state, a_error, a_iss, vp_updL a_una p.toNatClampNeg 1, a_nxt, a_max, a_last, a_closed, a_written, a_irs, a_unread, a_bytes, a_held, a_rcv, a_finAt, a_marked, a_wnd, a_peak, a_half, a_rto, a_same, upd a_tries p.toNatClampNeg 0, a_smooth, a_spread, a_byNumber, a_byAck, a_sampled, a_told, upd a_retry p.toNatClampNeg (-1), a_ackAt, a_waitAt, a_timedAt, a_timed) := by
            have o : ∀ e' f, e' ≠ p.toNatClampNeg → (gp_opened G1 p.toNatClampNeg).1 f e' = G1.1 f e' := fun e' f y => by simp only [gp_opened, gs_e y]
            refine (vy_mk h_now h_sent h_seq h_flags h_acked h_window h_many h_data h_rows h_state h_error h_iss (vu_l h_una ?a1 (fun e' y => o _ _ y)) h_nxt h_max h_last h_closed h_written h_irs h_unread h_bytes h_held h_rcv h_finAt h_marked h_wnd h_peak h_half h_rto h_same (vu_e h_tries ?a3 (fun e' y => o _ _ y)) h_smooth h_spread h_byNumber h_byAck h_sampled h_told (vu_e h_retry ?a2 (fun e' y => o _ _ y)) h_ackAt h_waitAt h_timedAt h_timed)
            case a1 => simp +decide only [gp_opened, gs_s, gs_f] <;> rfl
            case a2 => simp +decide only [gp_opened, gs_s, gs_f] <;> rfl
            case a3 => simp +decide only [gp_opened, gs_s, gs_f] <;> rfl
          have k142 : ∀ u3, vy_S q (gp_tmeas (gp_opened G1 p.toNatClampNeg) p.toNatClampNeg) u3 → (match u3 with | (f_now, f_sent, a_seq, a_flags, a_acked, a_window, a_many, a_data, a_rows, a_state, a_error, a_iss, a_una, a_nxt, a_max, a_last, a_closed, a_written, a_irs, a_unread, a_bytes, a_held, a_rcv, a_finAt, a_marked, a_wnd, a_peak, a_half, a_rto, a_same, a_tries, a_smooth, a_spread, a_byNumber, a_byAck, a_sampled, a_told, a_retry, a_ackAt, a_waitAt, a_timedAt, a_timed) => wY_toOpening_142 P p f_now f_sent a_seq a_flags a_acked a_window a_many a_data a_rows a_state a_error a_iss a_una a_nxt a_max a_last a_closed a_written a_irs a_unread a_bytes a_held a_rcv a_finAt a_marked a_wnd a_peak a_half a_rto a_same a_tries a_smooth a_spread a_byNumber a_byAck a_sampled a_told a_retry a_ackAt a_waitAt a_timedAt a_timed) := by
            intro u3 hv3
            obtain ⟨f_now, f_sent, a_seq, a_flags, a_acked, a_window, a_many, a_data, a_rows, a_state, a_error, a_iss, a_una, a_nxt, a_max, a_last, a_closed, a_written, a_irs, a_unread, a_bytes, a_held, a_rcv, a_finAt, a_marked, a_wnd, a_peak, a_half, a_rto, a_same, a_tries, a_smooth, a_spread, a_byNumber, a_byAck, a_sampled, a_told, a_retry, a_ackAt, a_waitAt, a_timedAt, a_timed⟩ := u3
            show wY_toOpening_142 P p f_now f_sent a_seq a_flags a_acked a_window a_many a_data a_rows a_state a_error a_iss a_una a_nxt a_max a_last a_closed a_written a_irs a_unread a_bytes a_held a_rcv a_finAt a_marked a_wnd a_peak a_half a_rto a_same a_tries a_smooth a_spread a_byNumber a_byAck a_sampled a_told a_retry a_ackAt a_waitAt a_timedAt a_timed
            unfold wY_toOpening_142
            have s4 : 2 ≤ (gp_put (gp_tmeas (gp_opened G1 p.toNatClampNeg) p.toNatClampNeg) 0 p.toNatClampNeg 4).1 0 p.toNatClampNeg := by rw [pu_s]; decide
            refine ⟨hp, nm_e (yl_ack (vy_put hv3 rfl) hI4 hp s4 fun u5 hv5 => ?_)⟩
            obtain ⟨f_now, f_sent, a_seq, a_flags, a_acked, a_window, a_many, a_data, a_rows, a_state, a_error, a_iss, a_una, a_nxt, a_max, a_last, a_closed, a_written, a_irs, a_unread, a_bytes, a_held, a_rcv, a_finAt, a_marked, a_wnd, a_peak, a_half, a_rto, a_same, a_tries, a_smooth, a_spread, a_byNumber, a_byAck, a_sampled, a_told, a_retry, a_ackAt, a_waitAt, a_timedAt, a_timed⟩ := u5
            show wY_toOpening_172 P p f_now f_sent a_seq a_flags a_acked a_window a_many a_data a_rows a_state a_error a_iss a_una a_nxt a_max a_last a_closed a_written a_irs a_unread a_bytes a_held a_rcv a_finAt a_marked a_wnd a_peak a_half a_rto a_same a_tries a_smooth a_spread a_byNumber a_byAck a_sampled a_told a_retry a_ackAt a_waitAt a_timedAt a_timed
            unfold wY_toOpening_172
            refine yl_flow hv5 (iv_ack hI4 he s4) hp fun u6 hv6 => ?_
            have := hP u6 hv6
            obtain ⟨f_now, f_sent, a_seq, a_flags, a_acked, a_window, a_many, a_data, a_rows, a_state, a_error, a_iss, a_una, a_nxt, a_max, a_last, a_closed, a_written, a_irs, a_unread, a_bytes, a_held, a_rcv, a_finAt, a_marked, a_wnd, a_peak, a_half, a_rto, a_same, a_tries, a_smooth, a_spread, a_byNumber, a_byAck, a_sampled, a_told, a_retry, a_ackAt, a_waitAt, a_timedAt, a_timed⟩ := u6
            exact this
          by_cases w5 : G1.1 24 p.toNatClampNeg < 0
          · have e5 : gp_tmeas (gp_opened G1 p.toNatClampNeg) p.toNatClampNeg = gp_opened G1 p.toNatClampNeg := if_neg (by rw [tme]; omega)
            refine br_t (by rw [h_timed _ he, zk_l0, zl_lt (by omega) (by omega) (by omega) (by omega)]; exact w5) ?_
            exact k142 _ (by rw [e5]; exact hvo)
          · have e5 : gp_tmeas (gp_opened G1 p.toNatClampNeg) p.toNatClampNeg = gp_meas (gp_opened G1 p.toNatClampNeg) p.toNatClampNeg := if_pos (by rw [tme]; omega)
            refine br_f (by rw [h_timed _ he, zk_l0, zl_lt (by omega) (by omega) (by omega) (by omega)]; exact w5) ?_
            refine yl_measure hvo hp (mok (by omega)) fun u3 hv3 => ?_
            exact k142 u3 (by rw [e5]; exact hv3)
        · have hgo : gp_toOpen G p.toNatClampNeg k = gp_flow (gp_send (gp_put (gp_hear G p.toNatClampNeg k) 0 p.toNatClampNeg 3) p.toNatClampNeg 0 1 0) p.toNatClampNeg := by unfold gp_toOpen; rw [if_neg hna, if_neg w, if_pos w3, if_neg w2]
          rw [hgo] at hP
          have hI3 := iv_half hIh he hsh huh
          generalize gp_hear G p.toNatClampNeg k = G1 at *
          obtain ⟨c1, c2, c3, c4, c5, c6⟩ := hI3.2.2.2.2.1 _ he
          have cp := c2
          rw [pu_s] at cp
          unfold gv_p at cp
          have c7 := cp.2.2.2.1 (by omega)
          have s3 : (gp_put G1 0 p.toNatClampNeg 3).1 0 p.toNatClampNeg = 3 := pu_s
          have hIs : gv_I K (gp_send (gp_put G1 0 p.toNatClampNeg 3) p.toNatClampNeg 0 1 0) := iv_send hI3 he (by omega) (Or.inr (Or.inl rfl)) (by omega) (by omega) (Or.inl (by rw [show gp_len 1 0 = 1 from by decide]; omega))
          refine br_t (hx4.mpr w2) ⟨hp, nm_e (yl_send (G := gp_put G1 0 p.toNatClampNeg 3) (fr := 0) (vy_put hv1 rfl) hp zk_l0 zk_1 zk_0 (gv_ii hI3 he) (sk_of hI3 he (by omega) (Or.inr (Or.inl rfl)) (by omega) (by omega) (by omega) (by omega) (by omega)) fun u3 hv3 => ?_)⟩
          obtain ⟨f_now, f_sent, a_seq, a_flags, a_acked, a_window, a_many, a_data, a_rows, a_state, a_error, a_iss, a_una, a_nxt, a_max, a_last, a_closed, a_written, a_irs, a_unread, a_bytes, a_held, a_rcv, a_finAt, a_marked, a_wnd, a_peak, a_half, a_rto, a_same, a_tries, a_smooth, a_spread, a_byNumber, a_byAck, a_sampled, a_told, a_retry, a_ackAt, a_waitAt, a_timedAt, a_timed⟩ := u3
          show wY_toOpening_172 P p f_now f_sent a_seq a_flags a_acked a_window a_many a_data a_rows a_state a_error a_iss a_una a_nxt a_max a_last a_closed a_written a_irs a_unread a_bytes a_held a_rcv a_finAt a_marked a_wnd a_peak a_half a_rto a_same a_tries a_smooth a_spread a_byNumber a_byAck a_sampled a_told a_retry a_ackAt a_waitAt a_timedAt a_timed
          unfold wY_toOpening_172
          refine yl_flow hv3 hIs hp fun u6 hv6 => ?_
          have := hP u6 hv6
          obtain ⟨f_now, f_sent, a_seq, a_flags, a_acked, a_window, a_many, a_data, a_rows, a_state, a_error, a_iss, a_una, a_nxt, a_max, a_last, a_closed, a_written, a_irs, a_unread, a_bytes, a_held, a_rcv, a_finAt, a_marked, a_wnd, a_peak, a_half, a_rto, a_same, a_tries, a_smooth, a_spread, a_byNumber, a_byAck, a_sampled, a_told, a_retry, a_ackAt, a_waitAt, a_timedAt, a_timed⟩ := u6
          exact this
      · have : gp_toOpen G p.toNatClampNeg k = G := by unfold gp_toOpen; rw [if_neg hna, if_neg w, if_neg w3]
        rw [this] at hP
        exact br_t (by rw [zk_0, zi_eq (by omega) (by omega) (by omega) (by omega)]; omega) (hP _ hv)
  have k32 : ∀ x4 z0 : Int32, (x4 = 0 ↔ ¬ gm_L G 1 k / 2 % 2 = 1) → (z0 = 0 ↔ ¬ gm_L G 1 k / 8 % 2 = 1) → wY_toOpening_32 P p x (zi_n (gm_L G 1 k)) x4 z0 f_now f_sent a_seq a_flags a_acked a_window a_many a_data a_rows a_state a_error a_iss a_una a_nxt a_max a_last a_closed a_written a_irs a_unread a_bytes a_held a_rcv a_finAt a_marked a_wnd a_peak a_half a_rto a_same a_tries a_smooth a_spread a_byNumber a_byAck a_sampled a_told a_retry a_ackAt a_waitAt a_timedAt a_timed := by
    intro x4 z0 hx4 hz0
    unfold wY_toOpening_32
    rw [hxk]
    by_cases w : gm_L G 1 k / 2 % 2 = 1
    · refine br_f (fun z => hx4.mp z w) ⟨hin, yl_number hp (h_iss _ he) (by omega) (by omega) zk_l1 ?_⟩
      by_cases w2 : gm_L G 2 k = (G.1 2 p.toNatClampNeg + 1) % 65536
      · exact br_t (by rw [h_acked k hk, w2]) (k70 x4 z0 hx4 hz0 (fun z => z.2 w2))
      · refine br_f (by rw [h_acked k hk, zi_eq (by omega) (by omega) (by omega) (by omega)]; exact w2) ?_
        by_cases w3 : gm_L G 1 k / 8 % 2 = 1
        · have : gp_toOpen G p.toNatClampNeg k = G := by unfold gp_toOpen; rw [if_pos ⟨w, w2⟩, if_pos w3]
          rw [this] at hP
          exact br_f (fun z => hz0.mp z w3) (hP _ hv)
        · have : gp_toOpen G p.toNatClampNeg k = gp_rst G p.toNatClampNeg (gm_L G 2 k) 8 0 := by unfold gp_toOpen; rw [if_pos ⟨w, w2⟩, if_neg w3]
          rw [this] at hP
          refine br_t (hz0.mpr w3) ⟨hin, yl_refuse hv hp (by omega) (by omega) (h_acked k hk) fun u1 hv1 => ?_⟩
          have := hP u1 hv1
          obtain ⟨f_now, f_sent, a_seq, a_flags, a_acked, a_window, a_many, a_data, a_rows, a_state, a_error, a_iss, a_una, a_nxt, a_max, a_last, a_closed, a_written, a_irs, a_unread, a_bytes, a_held, a_rcv, a_finAt, a_marked, a_wnd, a_peak, a_half, a_rto, a_same, a_tries, a_smooth, a_spread, a_byNumber, a_byAck, a_sampled, a_told, a_retry, a_ackAt, a_waitAt, a_timedAt, a_timed⟩ := u1
          exact this
    · exact br_t (hx4.mpr w) (k70 x4 z0 hx4 hz0 (fun z => w z.1))
  have k18 : ∀ x4 : Int32, (x4 = 0 ↔ ¬ gm_L G 1 k / 2 % 2 = 1) → wY_toOpening_18 P p x (zi_n (gm_L G 1 k)) x4 f_now f_sent a_seq a_flags a_acked a_window a_many a_data a_rows a_state a_error a_iss a_una a_nxt a_max a_last a_closed a_written a_irs a_unread a_bytes a_held a_rcv a_finAt a_marked a_wnd a_peak a_half a_rto a_same a_tries a_smooth a_spread a_byNumber a_byAck a_sampled a_told a_retry a_ackAt a_waitAt a_timedAt a_timed := by
    intro x4 hx4
    unfold wY_toOpening_18
    rw [zf_8 (by omega) (by omega)]
    by_cases w : gm_L G 1 k / 8 % 2 = 1
    · exact br_f (by rw [zk_0, zi_eq (by omega) (by omega) (by omega) (by omega)]; omega) (k32 x4 1 hx4 ⟨fun z => absurd z (by decide), fun z => absurd w z⟩)
    · exact br_t (by rw [zk_0, zi_eq (by omega) (by omega) (by omega) (by omega)]; omega) (k32 x4 0 hx4 ⟨fun _ => w, fun _ => rfl⟩)
  unfold wpY_toOpening
  rw [hxk]
  refine ⟨hin, nm_r (h_flags k hk) ?_⟩
  rw [zf_2 (by omega) (by omega)]
  by_cases w : gm_L G 1 k / 2 % 2 = 1
  · exact br_f (by rw [zk_0, zi_eq (by omega) (by omega) (by omega) (by omega)]; omega) (k18 1 ⟨fun z => absurd z (by decide), fun z => absurd w z⟩)
  · exact br_t (by rw [zk_0, zi_eq (by omega) (by omega) (by omega) (by omega)]; omega) (k18 0 ⟨fun _ => w, fun _ => rfl⟩)
