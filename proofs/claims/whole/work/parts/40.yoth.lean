/-! the reference: arrivals, and the rows of the link -/
theorem yl_out {q K : Int} {G : gm_T} {f_now : Int32} {f_sent : Int32} {a_seq : (Nat → Int32)} {a_flags : (Nat → Int32)} {a_acked : (Nat → Int32)} {a_window : (Nat → Int32)} {a_many : (Nat → Int32)} {a_data : (Nat → Int32)} {a_rows : (Nat → Int32)} {a_state : (Nat → Int32)} {a_error : (Nat → Int32)} {a_iss : (Nat → Int32)} {a_una : (Nat → Int64)} {a_nxt : (Nat → Int64)} {a_max : (Nat → Int64)} {a_last : (Nat → Int64)} {a_closed : (Nat → Int32)} {a_written : (Nat → Int32)} {a_irs : (Nat → Int32)} {a_unread : (Nat → Int32)} {a_bytes : (Nat → Int32)} {a_held : (Nat → Int32)} {a_rcv : (Nat → Int64)} {a_finAt : (Nat → Int64)} {a_marked : (Nat → Int32)} {a_wnd : (Nat → Int32)} {a_peak : (Nat → Int32)} {a_half : (Nat → Int32)} {a_rto : (Nat → Int32)} {a_same : (Nat → Int32)} {a_tries : (Nat → Int32)} {a_smooth : (Nat → Int32)} {a_spread : (Nat → Int32)} {a_byNumber : (Nat → Int32)} {a_byAck : (Nat → Int32)} {a_sampled : (Nat → Int32)} {a_told : (Nat → Int32)} {a_retry : (Nat → Int32)} {a_ackAt : (Nat → Int32)} {a_waitAt : (Nat → Int32)} {a_timedAt : (Nat → Int32)} {a_timed : (Nat → Int64)} {p x : Int32} {P : SY → Prop} {k : Nat} (hv : vy_S q G (f_now, f_sent, a_seq, a_flags, a_acked, a_window, a_many, a_data, a_rows, a_state, a_error, a_iss, a_una, a_nxt, a_max, a_last, a_closed, a_written, a_irs, a_unread, a_bytes, a_held, a_rcv, a_finAt, a_marked, a_wnd, a_peak, a_half, a_rto, a_same, a_tries, a_smooth, a_spread, a_byNumber, a_byAck, a_sampled, a_told, a_retry, a_ackAt, a_waitAt, a_timedAt, a_timed)) (hI : gv_I K G) (hp : vp_in p 2) (hk : k < 32) (hx : x = zi_n (gm_L G 1 k)) (h3 : 3 ≤ G.1 0 p.toNatClampNeg) (hP : ∀ u', vy_S q (gp_out G p.toNatClampNeg k) u' → P u') : vp_in p 2 ∧ ((((a_state p.toNatClampNeg) = 10 → ((((x &&& 4) = 0 → (wY_toOthers_80 P p x f_now f_sent a_seq a_flags a_acked a_window a_many a_data a_rows a_state a_error a_iss a_una a_nxt a_max a_last a_closed a_written a_irs a_unread a_bytes a_held a_rcv a_finAt a_marked a_wnd a_peak a_half a_rto a_same a_tries a_smooth a_spread a_byNumber a_byAck a_sampled a_told a_retry a_ackAt a_waitAt a_timedAt a_timed)) ∧ (¬ (x &&& 4) = 0 → (vp_in p 2 ∧ ∀ a_waitAt_403 : Nat → Int32, a_waitAt_403 = upd a_waitAt p.toNatClampNeg (f_now + 20) → (wY_toOthers_80 P p x f_now f_sent a_seq a_flags a_acked a_window a_many a_data a_rows a_state a_error a_iss a_una a_nxt a_max a_last a_closed a_written a_irs a_unread a_bytes a_held a_rcv a_finAt a_marked a_wnd a_peak a_half a_rto a_same a_tries a_smooth a_spread a_byNumber a_byAck a_sampled a_told a_retry a_ackAt (a_waitAt_403) a_timedAt a_timed)))))) ∧ (¬ (a_state p.toNatClampNeg) = 10 → (wY_toOthers_80 P p x f_now f_sent a_seq a_flags a_acked a_window a_many a_data a_rows a_state a_error a_iss a_una a_nxt a_max a_last a_closed a_written a_irs a_unread a_bytes a_held a_rcv a_finAt a_marked a_wnd a_peak a_half a_rto a_same a_tries a_smooth a_spread a_byNumber a_byAck a_sampled a_told a_retry a_ackAt a_waitAt a_timedAt a_timed)))) := by
  have hv0 := hv
  obtain ⟨h_now, h_sent, h_seq, h_flags, h_acked, h_window, h_many, h_data, h_rows, h_state, h_error, h_iss, h_una, h_nxt, h_max, h_last, h_closed, h_written, h_irs, h_unread, h_bytes, h_held, h_rcv, h_finAt, h_marked, h_wnd, h_peak, h_half, h_rto, h_same, h_tries, h_smooth, h_spread, h_byNumber, h_byAck, h_sampled, h_told, h_retry, h_ackAt, h_waitAt, h_timedAt, h_timed⟩ := hv0
  have he := pe_lt hp
  have l1 := hI.2.2.2.2.2.1.1 k hk
  obtain ⟨b1, b2, b3, b4, b5, b6⟩ := hI.2.2.2.2.1 _ he
  have n2 := hI.2.2.1
  unfold gv_a at b1
  subst hx
  have k80 : ∀ u1, vy_S q (gp_out1 G p.toNatClampNeg k) u1 → (match u1 with | (f_now, f_sent, a_seq, a_flags, a_acked, a_window, a_many, a_data, a_rows, a_state, a_error, a_iss, a_una, a_nxt, a_max, a_last, a_closed, a_written, a_irs, a_unread, a_bytes, a_held, a_rcv, a_finAt, a_marked, a_wnd, a_peak, a_half, a_rto, a_same, a_tries, a_smooth, a_spread, a_byNumber, a_byAck, a_sampled, a_told, a_retry, a_ackAt, a_waitAt, a_timedAt, a_timed) => wY_toOthers_80 P p (zi_n (gm_L G 1 k)) f_now f_sent a_seq a_flags a_acked a_window a_many a_data a_rows a_state a_error a_iss a_una a_nxt a_max a_last a_closed a_written a_irs a_unread a_bytes a_held a_rcv a_finAt a_marked a_wnd a_peak a_half a_rto a_same a_tries a_smooth a_spread a_byNumber a_byAck a_sampled a_told a_retry a_ackAt a_waitAt a_timedAt a_timed) := by
    intro u1 hv1
    obtain ⟨f_now, f_sent, a_seq, a_flags, a_acked, a_window, a_many, a_data, a_rows, a_state, a_error, a_iss, a_una, a_nxt, a_max, a_last, a_closed, a_written, a_irs, a_unread, a_bytes, a_held, a_rcv, a_finAt, a_marked, a_wnd, a_peak, a_half, a_rto, a_same, a_tries, a_smooth, a_spread, a_byNumber, a_byAck, a_sampled, a_told, a_retry, a_ackAt, a_waitAt, a_timedAt, a_timed⟩ := u1
    show wY_toOthers_80 P p _ f_now f_sent a_seq a_flags a_acked a_window a_many a_data a_rows a_state a_error a_iss a_una a_nxt a_max a_last a_closed a_written a_irs a_unread a_bytes a_held a_rcv a_finAt a_marked a_wnd a_peak a_half a_rto a_same a_tries a_smooth a_spread a_byNumber a_byAck a_sampled a_told a_retry a_ackAt a_waitAt a_timedAt a_timed
    have h1 : gv_I K (gp_out1 G p.toNatClampNeg k) ∧ (gp_out1 G p.toNatClampNeg k).1 0 p.toNatClampNeg = G.1 0 p.toNatClampNeg := by
      unfold gp_out1
      split
      · refine ⟨iv_put hI ?_, pu_f (by decide)⟩
        obtain ⟨b1, b2, b3, b4, b5, b6⟩ := hI.2.2.2.2.1 _ he
        refine ⟨b1, b2, b3, ?_, b5, b6⟩
        show gv_d (gm_N G) (G.1 0 p.toNatClampNeg) (G.1 21 p.toNatClampNeg) (G.1 22 p.toNatClampNeg) (gs_c _ _ _ _ _ _)
        rw [gs_s]
        unfold gv_d at *
        omega
      · exact ⟨hI, rfl⟩
    have hg : gp_out G p.toNatClampNeg k = if gm_L G 1 k / 8 % 2 = 1 then gp_out1 G p.toNatClampNeg k else gp_ack (gp_out1 G p.toNatClampNeg k) p.toNatClampNeg := rfl
    rw [hg] at hP
    generalize gp_out1 G p.toNatClampNeg k = G1 at *
    unfold wY_toOthers_80
    rw [zf_8 (by omega) (by omega)]
    by_cases w : gm_L G 1 k / 8 % 2 = 1
    · rw [if_pos w] at hP
      exact br_f (by rw [zk_0, zi_eq (by omega) (by omega) (by omega) (by omega)]; omega) (hP _ hv1)
    · rw [if_neg w] at hP
      refine br_t (by rw [zk_0, zi_eq (by omega) (by omega) (by omega) (by omega)]; omega) (yl_ack hv1 h1.1 hp (by omega) fun u2 hv2 => ?_)
      have := hP u2 hv2
      obtain ⟨f_now, f_sent, a_seq, a_flags, a_acked, a_window, a_many, a_data, a_rows, a_state, a_error, a_iss, a_una, a_nxt, a_max, a_last, a_closed, a_written, a_irs, a_unread, a_bytes, a_held, a_rcv, a_finAt, a_marked, a_wnd, a_peak, a_half, a_rto, a_same, a_tries, a_smooth, a_spread, a_byNumber, a_byAck, a_sampled, a_told, a_retry, a_ackAt, a_waitAt, a_timedAt, a_timed⟩ := u2
      exact this
  rw [zf_4 (by omega) (by omega)]
  refine ⟨hp, ?_⟩
  by_cases w : G.1 0 p.toNatClampNeg = 10
  · refine br_t (by rw [h_state _ he, w]; rfl) ?_
    by_cases w2 : gm_L G 1 k / 4 % 2 = 1
    · have e1 : gp_out1 G p.toNatClampNeg k = gp_put G 23 p.toNatClampNeg (gm_N G + 20) := if_pos ⟨w, w2⟩
      refine br_f (by rw [zk_0, zi_eq (by omega) (by omega) (by omega) (by omega)]; omega) ⟨hp, nm_e ?_⟩
      refine k80 (f_now, f_sent, a_seq, a_flags, a_acked, a_window, a_many, a_data, a_rows, a_state, a_error, a_iss, a_una, a_nxt, a_max, a_last, a_closed, a_written, a_irs, a_unread, a_bytes, a_held, a_rcv, a_finAt, a_marked, a_wnd, a_peak, a_half, a_rto, a_same, a_tries, a_smooth, a_spread, a_byNumber, a_byAck, a_sampled, a_told, a_retry, a_ackAt, upd a_waitAt p.toNatClampNeg (f_now + 20), a_timedAt, a_timed) ?_
      rw [e1]
      exact (vy_mk h_now h_sent h_seq h_flags h_acked h_window h_many h_data h_rows h_state h_error h_iss h_una h_nxt h_max h_last h_closed h_written h_irs h_unread h_bytes h_held h_rcv h_finAt h_marked h_wnd h_peak h_half h_rto h_same h_tries h_smooth h_spread h_byNumber h_byAck h_sampled h_told h_retry h_ackAt (vu_e h_waitAt (by rw [pu_s, h_now, zk_20, zi_add]) (fun e' y => pu_o y _)) h_timedAt h_timed)
    · have e1 : gp_out1 G p.toNatClampNeg k = G := if_neg (fun z => w2 z.2)
      refine br_t (by rw [zk_0, zi_eq (by omega) (by omega) (by omega) (by omega)]; omega) ?_
      exact k80 (f_now, f_sent, a_seq, a_flags, a_acked, a_window, a_many, a_data, a_rows, a_state, a_error, a_iss, a_una, a_nxt, a_max, a_last, a_closed, a_written, a_irs, a_unread, a_bytes, a_held, a_rcv, a_finAt, a_marked, a_wnd, a_peak, a_half, a_rto, a_same, a_tries, a_smooth, a_spread, a_byNumber, a_byAck, a_sampled, a_told, a_retry, a_ackAt, a_waitAt, a_timedAt, a_timed) (by rw [e1]; exact hv)
  · have e1 : gp_out1 G p.toNatClampNeg k = G := if_neg (fun z => w z.1)
    refine br_f (by rw [h_state _ he, zk_10, zi_eq (by omega) (by omega) (by omega) (by omega)]; exact w) ?_
    exact k80 (f_now, f_sent, a_seq, a_flags, a_acked, a_window, a_many, a_data, a_rows, a_state, a_error, a_iss, a_una, a_nxt, a_max, a_last, a_closed, a_written, a_irs, a_unread, a_bytes, a_held, a_rcv, a_finAt, a_marked, a_wnd, a_peak, a_half, a_rto, a_same, a_tries, a_smooth, a_spread, a_byNumber, a_byAck, a_sampled, a_told, a_retry, a_ackAt, a_waitAt, a_timedAt, a_timed) (by rw [e1]; exact hv)
theorem yl_toOthers {q K : Int} {G : gm_T} {u : SY} {p x : Int32} {P : SY → Prop} {k : Nat} (hv : vy_S q G u) (hI : gv_I K G) (hK : K + 8 ≤ 5000) (hp : vp_in p 2) (hk : k < 32) (hx : x = zi_n (k : Int)) (hrow : k < 16 * p.toNatClampNeg ∨ 16 * p.toNatClampNeg + 16 ≤ k) (h3 : 3 ≤ G.1 0 p.toNatClampNeg) (hP : ∀ u', vy_S q (gp_conn G p.toNatClampNeg k) u' → P u') : wpY_toOthers P u p x := by
  obtain ⟨f_now, f_sent, a_seq, a_flags, a_acked, a_window, a_many, a_data, a_rows, a_state, a_error, a_iss, a_una, a_nxt, a_max, a_last, a_closed, a_written, a_irs, a_unread, a_bytes, a_held, a_rcv, a_finAt, a_marked, a_wnd, a_peak, a_half, a_rto, a_same, a_tries, a_smooth, a_spread, a_byNumber, a_byAck, a_sampled, a_told, a_retry, a_ackAt, a_waitAt, a_timedAt, a_timed⟩ := u
  have hv0 := hv
  obtain ⟨h_now, h_sent, h_seq, h_flags, h_acked, h_window, h_many, h_data, h_rows, h_state, h_error, h_iss, h_una, h_nxt, h_max, h_last, h_closed, h_written, h_irs, h_unread, h_bytes, h_held, h_rcv, h_finAt, h_marked, h_wnd, h_peak, h_half, h_rto, h_same, h_tries, h_smooth, h_spread, h_byNumber, h_byAck, h_sampled, h_told, h_retry, h_ackAt, h_waitAt, h_timedAt, h_timed⟩ := hv0
  have he := pe_lt hp
  have l1 := hI.2.2.2.2.2.1.1 k hk
  have hin : vp_in x 32 := by rw [hx]; exact yk_in hk
  have hxk : x.toNatClampNeg = k := by rw [hx]; exact sl_c (by omega)
  have hlen : 0 ≤ gp_slen G k ∧ gp_slen G k ≤ 10 := by unfold gp_slen gp_len; omega
  obtain ⟨b1, b2, b3, b4, b5, b6⟩ := hI.2.2.2.2.1 _ he
  unfold gv_a at b1
  unfold gv_r at b6
  have ii := gv_ii hI he
  have ro : -32768 ≤ gp_o G p.toNatClampNeg k ∧ gp_o G p.toNatClampNeg k < 32768 := zs_r (gm_L G 0 k - (G.1 7 p.toNatClampNeg + G.1 8 p.toNatClampNeg) % 65536)
  unfold wpY_toOthers
  refine yl_due hp (h_irs _ he) ii.2.1 ii.2.2 (h_rcv _ he) ⟨hin, ?_⟩
  rw [hxk]
  refine yl_offset (h_seq k hk) rfl (yl_length hv hI hk hx ⟨hin, nm_r (h_flags k hk) ?_⟩)
  refine yl_acceptable (o := gp_o G p.toNatClampNeg k) (len := gp_slen G k) hp (h_unread _ he) (by omega) (by omega) rfl rfl ro.1 ro.2 hlen.1 (by omega) (fun hok => ?_) (fun hok => ?_)
  · have hcn : gp_conn G p.toNatClampNeg k = (if gm_L G 1 k / 8 % 2 = 1 then (if gp_o G p.toNatClampNeg k = 0 then gp_reset G p.toNatClampNeg else gp_ack G p.toNatClampNeg) else if gm_L G 1 k % 2 = 1 then gp_ack G p.toNatClampNeg else if gm_L G 1 k / 2 % 2 = 1 then gp_acked G p.toNatClampNeg k (gp_o G p.toNatClampNeg k) (gp_a G p.toNatClampNeg k) else G) := if_pos hok
    rw [hcn] at hP
    refine br_f (by decide) ?_
    rw [zf_8 (by omega) (by omega), zf_1 (by omega) (by omega), zf_2 (by omega) (by omega)]
    rw [show zi_s (gm_L G 0 k - (G.1 7 p.toNatClampNeg + G.1 8 p.toNatClampNeg) % 65536) = gp_o G p.toNatClampNeg k from rfl]
    by_cases w : gm_L G 1 k / 8 % 2 = 1
    · rw [if_pos w] at hP
      refine br_f (by rw [zk_0, zi_eq (by omega) (by omega) (by omega) (by omega)]; omega) ?_
      by_cases w2 : gp_o G p.toNatClampNeg k = 0
      · rw [if_pos w2] at hP
        refine br_t (by rw [w2]; rfl) (yl_reset hv hp (by omega) (by omega) fun u1 hv1 => ?_)
        have := hP u1 hv1
        obtain ⟨f_now, f_sent, a_seq, a_flags, a_acked, a_window, a_many, a_data, a_rows, a_state, a_error, a_iss, a_una, a_nxt, a_max, a_last, a_closed, a_written, a_irs, a_unread, a_bytes, a_held, a_rcv, a_finAt, a_marked, a_wnd, a_peak, a_half, a_rto, a_same, a_tries, a_smooth, a_spread, a_byNumber, a_byAck, a_sampled, a_told, a_retry, a_ackAt, a_waitAt, a_timedAt, a_timed⟩ := u1
        exact this
      · rw [if_neg w2] at hP
        refine br_f (by rw [zk_0, zi_eq (by omega) (by omega) (by omega) (by omega)]; exact w2) (yl_ack hv hI hp (by omega) fun u1 hv1 => ?_)
        have := hP u1 hv1
        obtain ⟨f_now, f_sent, a_seq, a_flags, a_acked, a_window, a_many, a_data, a_rows, a_state, a_error, a_iss, a_una, a_nxt, a_max, a_last, a_closed, a_written, a_irs, a_unread, a_bytes, a_held, a_rcv, a_finAt, a_marked, a_wnd, a_peak, a_half, a_rto, a_same, a_tries, a_smooth, a_spread, a_byNumber, a_byAck, a_sampled, a_told, a_retry, a_ackAt, a_waitAt, a_timedAt, a_timed⟩ := u1
        exact this
    · rw [if_neg w] at hP
      refine br_t (by rw [zk_0, zi_eq (by omega) (by omega) (by omega) (by omega)]; omega) ?_
      by_cases w3 : gm_L G 1 k % 2 = 1
      · rw [if_pos w3] at hP
        refine br_f (by rw [zk_0, zi_eq (by omega) (by omega) (by omega) (by omega)]; omega) (yl_ack hv hI hp (by omega) fun u1 hv1 => ?_)
        have := hP u1 hv1
        obtain ⟨f_now, f_sent, a_seq, a_flags, a_acked, a_window, a_many, a_data, a_rows, a_state, a_error, a_iss, a_una, a_nxt, a_max, a_last, a_closed, a_written, a_irs, a_unread, a_bytes, a_held, a_rcv, a_finAt, a_marked, a_wnd, a_peak, a_half, a_rto, a_same, a_tries, a_smooth, a_spread, a_byNumber, a_byAck, a_sampled, a_told, a_retry, a_ackAt, a_waitAt, a_timedAt, a_timed⟩ := u1
        exact this
      · rw [if_neg w3] at hP
        refine br_t (by rw [zk_0, zi_eq (by omega) (by omega) (by omega) (by omega)]; omega) ?_
        by_cases w4 : gm_L G 1 k / 2 % 2 = 1
        · rw [if_pos w4] at hP
          refine br_f (by rw [zk_0, zi_eq (by omega) (by omega) (by omega) (by omega)]; omega) ?_
          have hob : -100 ≤ gp_o G p.toNatClampNeg k ∧ gp_o G p.toNatClampNeg k ≤ 100 := by unfold gp_ok at hok; omega
          refine yl_answered hv hI (by omega) hp hk hx rfl hrow h3 (fun z u1 hv1 => ?_) (fun z z2 u1 hv1 => ?_) (fun z z2 z3 u1 hv1 => ?_) (fun z z2 z3 hIn u1 hv1 => ?_)
          · obtain ⟨f_now, f_sent, a_seq, a_flags, a_acked, a_window, a_many, a_data, a_rows, a_state, a_error, a_iss, a_una, a_nxt, a_max, a_last, a_closed, a_written, a_irs, a_unread, a_bytes, a_held, a_rcv, a_finAt, a_marked, a_wnd, a_peak, a_half, a_rto, a_same, a_tries, a_smooth, a_spread, a_byNumber, a_byAck, a_sampled, a_told, a_retry, a_ackAt, a_waitAt, a_timedAt, a_timed⟩ := u1
            refine br_t rfl (hP _ ?_)
            have : gp_acked G p.toNatClampNeg k (gp_o G p.toNatClampNeg k) (gp_a G p.toNatClampNeg k) = gp_rst G p.toNatClampNeg (gm_L G 2 k) 8 0 := if_pos z
            rw [this]; exact hv1
          · obtain ⟨f_now, f_sent, a_seq, a_flags, a_acked, a_window, a_many, a_data, a_rows, a_state, a_error, a_iss, a_una, a_nxt, a_max, a_last, a_closed, a_written, a_irs, a_unread, a_bytes, a_held, a_rcv, a_finAt, a_marked, a_wnd, a_peak, a_half, a_rto, a_same, a_tries, a_smooth, a_spread, a_byNumber, a_byAck, a_sampled, a_told, a_retry, a_ackAt, a_waitAt, a_timedAt, a_timed⟩ := u1
            refine br_t rfl (hP _ ?_)
            have : gp_acked G p.toNatClampNeg k (gp_o G p.toNatClampNeg k) (gp_a G p.toNatClampNeg k) = gp_ack (gp_est G p.toNatClampNeg) p.toNatClampNeg := by unfold gp_acked; rw [if_neg z, if_pos z2]
            rw [this]; exact hv1
          · obtain ⟨f_now, f_sent, a_seq, a_flags, a_acked, a_window, a_many, a_data, a_rows, a_state, a_error, a_iss, a_una, a_nxt, a_max, a_last, a_closed, a_written, a_irs, a_unread, a_bytes, a_held, a_rcv, a_finAt, a_marked, a_wnd, a_peak, a_half, a_rto, a_same, a_tries, a_smooth, a_spread, a_byNumber, a_byAck, a_sampled, a_told, a_retry, a_ackAt, a_waitAt, a_timedAt, a_timed⟩ := u1
            refine br_t rfl (hP _ ?_)
            have : gp_acked G p.toNatClampNeg k (gp_o G p.toNatClampNeg k) (gp_a G p.toNatClampNeg k) = gp_newack (gp_est G p.toNatClampNeg) p.toNatClampNeg k (gp_a G p.toNatClampNeg k) := by
              unfold gp_acked; rw [if_neg z, if_neg z2]; unfold gp_go; rw [if_pos z3]
            rw [this]; exact hv1
          · have hgo : gp_acked G p.toNatClampNeg k (gp_o G p.toNatClampNeg k) (gp_a G p.toNatClampNeg k) = gp_flow (gp_content (if 0 ≤ gp_a G p.toNatClampNeg k then gp_win (gp_newack (gp_est G p.toNatClampNeg) p.toNatClampNeg k (gp_a G p.toNatClampNeg k)) p.toNatClampNeg k else gp_newack (gp_est G p.toNatClampNeg) p.toNatClampNeg k (gp_a G p.toNatClampNeg k)) p.toNatClampNeg k (gp_o G p.toNatClampNeg k)) p.toNatClampNeg := by
              unfold gp_acked; rw [if_neg z, if_neg z2]; unfold gp_go; rw [if_neg z3]
            rw [hgo] at hP
            have hest : 4 ≤ (gp_est G p.toNatClampNeg).1 0 p.toNatClampNeg := by
              unfold gp_est
              split
              · rw [pu_s]; decide
              · omega
            have vest : ∀ f, f ≠ 0 → (gp_est G p.toNatClampNeg).1 f p.toNatClampNeg = G.1 f p.toNatClampNeg := fun f hf => by
              unfold gp_est
              split
              · exact pu_f hf
              · rfl
            have Lest : gm_L (gp_est G p.toNatClampNeg) = gm_L G := by unfold gp_est; split <;> rfl
            have hnst := nk_ST (k := k) (a := gp_a G p.toNatClampNeg k) hest
            have nL : ∀ f, gm_L (gp_newack (gp_est G p.toNatClampNeg) p.toNatClampNeg k (gp_a G p.toNatClampNeg k)) f k = gm_L G f k := fun f => by
              rw [nk_L (by rw [vest _ (by decide)]; omega) hrow, Lest]
            generalize gp_newack (gp_est G p.toNatClampNeg) p.toNatClampNeg k (gp_a G p.toNatClampNeg k) = G1 at *
            have hI2 : gv_I (K + 1) (if 0 ≤ gp_a G p.toNatClampNeg k then gp_win G1 p.toNatClampNeg k else G1) := by
              split
              · exact iv_win hIn he hk
              · exact hIn
            have hS2 : (if 0 ≤ gp_a G p.toNatClampNeg k then gp_win G1 p.toNatClampNeg k else G1).1 0 p.toNatClampNeg = G1.1 0 p.toNatClampNeg := by
              split
              · exact wi_f (by decide) (by decide) (by decide) (by decide)
              · rfl
            have hL2 : gp_slen (if 0 ≤ gp_a G p.toNatClampNeg k then gp_win G1 p.toNatClampNeg k else G1) k = gp_slen G k := by
              unfold gp_slen
              split
              · rw [wi_L, nL, nL]
              · rw [nL, nL]
            generalize (if 0 ≤ gp_a G p.toNatClampNeg k then gp_win G1 p.toNatClampNeg k else G1) = G2 at *
            obtain ⟨f_now, f_sent, a_seq, a_flags, a_acked, a_window, a_many, a_data, a_rows, a_state, a_error, a_iss, a_una, a_nxt, a_max, a_last, a_closed, a_written, a_irs, a_unread, a_bytes, a_held, a_rcv, a_finAt, a_marked, a_wnd, a_peak, a_half, a_rto, a_same, a_tries, a_smooth, a_spread, a_byNumber, a_byAck, a_sampled, a_told, a_retry, a_ackAt, a_waitAt, a_timedAt, a_timed⟩ := u1
            refine br_f (by decide) (yl_text hv1 hI2 hp hk (by omega) hx (by omega) rfl hob.1 hob.2 (by rw [hL2]) fun u2 hv2 => ?_)
            have := hP u2 hv2
            obtain ⟨f_now, f_sent, a_seq, a_flags, a_acked, a_window, a_many, a_data, a_rows, a_state, a_error, a_iss, a_una, a_nxt, a_max, a_last, a_closed, a_written, a_irs, a_unread, a_bytes, a_held, a_rcv, a_finAt, a_marked, a_wnd, a_peak, a_half, a_rto, a_same, a_tries, a_smooth, a_spread, a_byNumber, a_byAck, a_sampled, a_told, a_retry, a_ackAt, a_waitAt, a_timedAt, a_timed⟩ := u2
            exact this
        · rw [if_neg w4] at hP
          exact br_t (by rw [zk_0, zi_eq (by omega) (by omega) (by omega) (by omega)]; omega) (hP _ hv)
  · have hcn : gp_conn G p.toNatClampNeg k = gp_out G p.toNatClampNeg k := if_neg hok
    rw [hcn] at hP
    exact br_t rfl (yl_out hv hI hp hk rfl h3 hP)
theorem yl_arrive {q K : Int} {G : gm_T} {u : SY} {p x : Int32} {P : SY → Prop} {k : Nat} (hv : vy_S q G u) (hI : gv_I K G) (hK : K + 8 ≤ 5000) (hp : vp_in p 2) (hk : k < 32) (hx : x = zi_n (k : Int)) (hrow : k < 16 * p.toNatClampNeg ∨ 16 * p.toNatClampNeg + 16 ≤ k) (hP : ∀ u', vy_S q (gp_arrive G p.toNatClampNeg k) u' → P u') : wpY_arrive P u p x := by
  obtain ⟨f_now, f_sent, a_seq, a_flags, a_acked, a_window, a_many, a_data, a_rows, a_state, a_error, a_iss, a_una, a_nxt, a_max, a_last, a_closed, a_written, a_irs, a_unread, a_bytes, a_held, a_rcv, a_finAt, a_marked, a_wnd, a_peak, a_half, a_rto, a_same, a_tries, a_smooth, a_spread, a_byNumber, a_byAck, a_sampled, a_told, a_retry, a_ackAt, a_waitAt, a_timedAt, a_timed⟩ := u
  have hv0 := hv
  obtain ⟨h_now, h_sent, h_seq, h_flags, h_acked, h_window, h_many, h_data, h_rows, h_state, h_error, h_iss, h_una, h_nxt, h_max, h_last, h_closed, h_written, h_irs, h_unread, h_bytes, h_held, h_rcv, h_finAt, h_marked, h_wnd, h_peak, h_half, h_rto, h_same, h_tries, h_smooth, h_spread, h_byNumber, h_byAck, h_sampled, h_told, h_retry, h_ackAt, h_waitAt, h_timedAt, h_timed⟩ := hv0
  have he := pe_lt hp
  obtain ⟨b1, b2, b3, b4, b5, b6⟩ := hI.2.2.2.2.1 _ he
  unfold gv_a at b1
  have hs := h_state _ he
  have hP' : ∀ u', vy_S q (gp_arrive G p.toNatClampNeg k) u' → (match u' with | (f_now, f_sent, a_seq, a_flags, a_acked, a_window, a_many, a_data, a_rows, a_state, a_error, a_iss, a_una, a_nxt, a_max, a_last, a_closed, a_written, a_irs, a_unread, a_bytes, a_held, a_rcv, a_finAt, a_marked, a_wnd, a_peak, a_half, a_rto, a_same, a_tries, a_smooth, a_spread, a_byNumber, a_byAck, a_sampled, a_told, a_retry, a_ackAt, a_waitAt, a_timedAt, a_timed) => P (f_now, f_sent, a_seq, a_flags, a_acked, a_window, a_many, a_data, a_rows, a_state, a_error, a_iss, a_una, a_nxt, a_max, a_last, a_closed, a_written, a_irs, a_unread, a_bytes, a_held, a_rcv, a_finAt, a_marked, a_wnd, a_peak, a_half, a_rto, a_same, a_tries, a_smooth, a_spread, a_byNumber, a_byAck, a_sampled, a_told, a_retry, a_ackAt, a_waitAt, a_timedAt, a_timed)) := by
    intro u1 hv1
    have := hP u1 hv1
    obtain ⟨f_now, f_sent, a_seq, a_flags, a_acked, a_window, a_many, a_data, a_rows, a_state, a_error, a_iss, a_una, a_nxt, a_max, a_last, a_closed, a_written, a_irs, a_unread, a_bytes, a_held, a_rcv, a_finAt, a_marked, a_wnd, a_peak, a_half, a_rto, a_same, a_tries, a_smooth, a_spread, a_byNumber, a_byAck, a_sampled, a_told, a_retry, a_ackAt, a_waitAt, a_timedAt, a_timed⟩ := u1
    exact this
  unfold gp_arrive at hP'
  unfold wpY_arrive
  refine ⟨hp, ?_⟩
  by_cases w0 : G.1 0 p.toNatClampNeg = 0
  · rw [if_pos w0] at hP'
    exact br_t (by rw [hs, w0]; rfl) (yl_toClosed hv hI hp hk hx hP')
  · rw [if_neg w0] at hP'
    refine br_f (by rw [hs, zk_0, zi_eq (by omega) (by omega) (by omega) (by omega)]; exact w0) ⟨hp, ?_⟩
    by_cases w1 : G.1 0 p.toNatClampNeg = 1
    · rw [if_pos w1] at hP'
      exact br_t (by rw [hs, w1]; rfl) (yl_toListening hv hI hp hk hx w1 hP')
    · rw [if_neg w1] at hP'
      refine br_f (by rw [hs, zk_1, zi_eq (by omega) (by omega) (by omega) (by omega)]; exact w1) ⟨hp, ?_⟩
      by_cases w2 : G.1 0 p.toNatClampNeg = 2
      · rw [if_pos w2] at hP'
        exact br_t (by rw [hs, w2]; rfl) (yl_toOpening hv hI hp hk hx w2 hP')
      · rw [if_neg w2] at hP'
        exact br_f (by rw [hs, zk_2, zi_eq (by omega) (by omega) (by omega) (by omega)]; exact w2) (yl_toOthers hv hI hK hp hk hx hrow (by omega) hP')
theorem yk_62 {P : SY → Prop} {f_now : Int32} {f_sent : Int32} {a_seq : (Nat → Int32)} {a_flags : (Nat → Int32)} {a_acked : (Nat → Int32)} {a_window : (Nat → Int32)} {a_many : (Nat → Int32)} {a_data : (Nat → Int32)} {a_rows : (Nat → Int32)} {a_state : (Nat → Int32)} {a_error : (Nat → Int32)} {a_iss : (Nat → Int32)} {a_una : (Nat → Int64)} {a_nxt : (Nat → Int64)} {a_max : (Nat → Int64)} {a_last : (Nat → Int64)} {a_closed : (Nat → Int32)} {a_written : (Nat → Int32)} {a_irs : (Nat → Int32)} {a_unread : (Nat → Int32)} {a_bytes : (Nat → Int32)} {a_held : (Nat → Int32)} {a_rcv : (Nat → Int64)} {a_finAt : (Nat → Int64)} {a_marked : (Nat → Int32)} {a_wnd : (Nat → Int32)} {a_peak : (Nat → Int32)} {a_half : (Nat → Int32)} {a_rto : (Nat → Int32)} {a_same : (Nat → Int32)} {a_tries : (Nat → Int32)} {a_smooth : (Nat → Int32)} {a_spread : (Nat → Int32)} {a_byNumber : (Nat → Int32)} {a_byAck : (Nat → Int32)} {a_sampled : (Nat → Int32)} {a_told : (Nat → Int32)} {a_retry : (Nat → Int32)} {a_ackAt : (Nat → Int32)} {a_waitAt : (Nat → Int32)} {a_timedAt : (Nat → Int32)} {a_timed : (Nat → Int64)} {x1 x2 : Int32} {a b : Nat} (hx1 : x1 = zi_n (a : Int)) (hx2 : x2 = zi_n (b : Int)) (ha : a < 32) (hb : b < 32) (hab : a ≠ b) (hP : ∀ SB : Nat → Int32, (∀ j, SB j = if 8 * b ≤ j ∧ j < 8 * b + 8 then a_data (8 * a + (j - 8 * b)) else a_data j) → P (f_now, f_sent, a_seq, a_flags, a_acked, a_window, a_many, SB, a_rows, a_state, a_error, a_iss, a_una, a_nxt, a_max, a_last, a_closed, a_written, a_irs, a_unread, a_bytes, a_held, a_rcv, a_finAt, a_marked, a_wnd, a_peak, a_half, a_rto, a_same, a_tries, a_smooth, a_spread, a_byNumber, a_byAck, a_sampled, a_told, a_retry, a_ackAt, a_waitAt, a_timedAt, a_timed)) :
    ∀ (f i : Nat) (SB : Nat → Int32), i ≤ 8 → 8 - i < f → (∀ j, SB j = if 8 * b ≤ j ∧ j < 8 * b + i then a_data (8 * a + (j - 8 * b)) else a_data j) → wY_copy_62 P x1 x2 f_now f_sent f (nI i) a_seq a_flags a_acked a_window a_many (SB) a_rows a_state a_error a_iss a_una a_nxt a_max a_last a_closed a_written a_irs a_unread a_bytes a_held a_rcv a_finAt a_marked a_wnd a_peak a_half a_rto a_same a_tries a_smooth a_spread a_byNumber a_byAck a_sampled a_told a_retry a_ackAt a_waitAt a_timedAt a_timed := by
  intro f
  induction f with
  | zero => intro i SB h1 h2; omega
  | succ f ih =>
    intro i SB h1 h2 h3
    by_cases q : i = 8
    · subst q
      exact br_t (by decide) (hP SB h3)
    · have i1 : 8 * x1 + nI i = zi_n (8 * (a : Int) + i) := by rw [hx1, zi_nI, zk_8, zi_mul, zi_add]
      have i2 : 8 * x2 + nI i = zi_n (8 * (b : Int) + i) := by rw [hx2, zi_nI, zk_8, zi_mul, zi_add]
      have i3 : (8 * x1 + nI i).toNatClampNeg = 8 * a + i := by rw [i1, zi_cl (by omega) (by omega)]; omega
      have i4 : (8 * x2 + nI i).toNatClampNeg = 8 * b + i := by rw [i2, zi_cl (by omega) (by omega)]; omega
      refine br_f (by rw [zk_8, zi_nI, zi_le (by omega) (by omega) (by omega) (by omega)]; omega) ⟨by rw [i1]; exact zi_in (by omega) (by omega) (by omega), by rw [i2]; exact zi_in (by omega) (by omega) (by omega), nm_e (nm_r (nI_1 i) (ih (i + 1) _ (by omega) (by omega) ?_))⟩
      intro j
      rw [i3, i4]
      have e1 : SB (8 * a + i) = a_data (8 * a + i) := by rw [h3, if_neg (by omega)]
      rw [e1]
      by_cases w : j = 8 * b + i
      · rw [w, zu_s, if_pos (by omega)]; congr 1; omega
      · rw [zu_n w, h3 j]
        by_cases w2 : 8 * b ≤ j ∧ j < 8 * b + i
        · rw [if_pos w2, if_pos (by omega)]
        · rw [if_neg w2, if_neg (by omega)]
theorem yl_copy {P : SY → Prop} {f_now : Int32} {f_sent : Int32} {a_seq : (Nat → Int32)} {a_flags : (Nat → Int32)} {a_acked : (Nat → Int32)} {a_window : (Nat → Int32)} {a_many : (Nat → Int32)} {a_data : (Nat → Int32)} {a_rows : (Nat → Int32)} {a_state : (Nat → Int32)} {a_error : (Nat → Int32)} {a_iss : (Nat → Int32)} {a_una : (Nat → Int64)} {a_nxt : (Nat → Int64)} {a_max : (Nat → Int64)} {a_last : (Nat → Int64)} {a_closed : (Nat → Int32)} {a_written : (Nat → Int32)} {a_irs : (Nat → Int32)} {a_unread : (Nat → Int32)} {a_bytes : (Nat → Int32)} {a_held : (Nat → Int32)} {a_rcv : (Nat → Int64)} {a_finAt : (Nat → Int64)} {a_marked : (Nat → Int32)} {a_wnd : (Nat → Int32)} {a_peak : (Nat → Int32)} {a_half : (Nat → Int32)} {a_rto : (Nat → Int32)} {a_same : (Nat → Int32)} {a_tries : (Nat → Int32)} {a_smooth : (Nat → Int32)} {a_spread : (Nat → Int32)} {a_byNumber : (Nat → Int32)} {a_byAck : (Nat → Int32)} {a_sampled : (Nat → Int32)} {a_told : (Nat → Int32)} {a_retry : (Nat → Int32)} {a_ackAt : (Nat → Int32)} {a_waitAt : (Nat → Int32)} {a_timedAt : (Nat → Int32)} {a_timed : (Nat → Int64)} {x1 x2 : Int32} {a b : Nat} (hx1 : x1 = zi_n (a : Int)) (hx2 : x2 = zi_n (b : Int)) (ha : a < 32) (hb : b < 32) (hab : a ≠ b) (hP : ∀ SB : Nat → Int32, (∀ j, SB j = if 8 * b ≤ j ∧ j < 8 * b + 8 then a_data (8 * a + (j - 8 * b)) else a_data j) → P (f_now, f_sent, upd a_seq b (a_seq a), upd a_flags b (a_flags a), upd a_acked b (a_acked a), upd a_window b (a_window a), upd a_many b (a_many a), SB, a_rows, a_state, a_error, a_iss, a_una, a_nxt, a_max, a_last, a_closed, a_written, a_irs, a_unread, a_bytes, a_held, a_rcv, a_finAt, a_marked, a_wnd, a_peak, a_half, a_rto, a_same, a_tries, a_smooth, a_spread, a_byNumber, a_byAck, a_sampled, a_told, a_retry, a_ackAt, a_waitAt, a_timedAt, a_timed)) : wpY_copy P (f_now, f_sent, a_seq, a_flags, a_acked, a_window, a_many, a_data, a_rows, a_state, a_error, a_iss, a_una, a_nxt, a_max, a_last, a_closed, a_written, a_irs, a_unread, a_bytes, a_held, a_rcv, a_finAt, a_marked, a_wnd, a_peak, a_half, a_rto, a_same, a_tries, a_smooth, a_spread, a_byNumber, a_byAck, a_sampled, a_told, a_retry, a_ackAt, a_waitAt, a_timedAt, a_timed) x1 x2 := by
  have hi1 : vp_in x1 32 := by rw [hx1]; exact yk_in ha
  have hi2 : vp_in x2 32 := by rw [hx2]; exact yk_in hb
  have c1 : x1.toNatClampNeg = a := by rw [hx1]; exact sl_c (by omega)
  have c2 : x2.toNatClampNeg = b := by rw [hx2]; exact sl_c (by omega)
  unfold wpY_copy
  rw [c1, c2]
  refine ⟨hi1, hi2, nm_e ⟨hi1, hi2, nm_e ⟨hi1, hi2, nm_e ⟨hi1, hi2, nm_e ⟨hi1, hi2, nm_e ⟨9, ?_⟩⟩⟩⟩⟩⟩
  exact yk_62 hx1 hx2 ha hb hab hP 9 0 a_data (by omega) (by omega) (fun j => by rw [if_neg (by omega)])
theorem vy_sh {q : Int} {G : gm_T} {f_now : Int32} {f_sent : Int32} {a_seq : (Nat → Int32)} {a_flags : (Nat → Int32)} {a_acked : (Nat → Int32)} {a_window : (Nat → Int32)} {a_many : (Nat → Int32)} {a_data : (Nat → Int32)} {a_rows : (Nat → Int32)} {a_state : (Nat → Int32)} {a_error : (Nat → Int32)} {a_iss : (Nat → Int32)} {a_una : (Nat → Int64)} {a_nxt : (Nat → Int64)} {a_max : (Nat → Int64)} {a_last : (Nat → Int64)} {a_closed : (Nat → Int32)} {a_written : (Nat → Int32)} {a_irs : (Nat → Int32)} {a_unread : (Nat → Int32)} {a_bytes : (Nat → Int32)} {a_held : (Nat → Int32)} {a_rcv : (Nat → Int64)} {a_finAt : (Nat → Int64)} {a_marked : (Nat → Int32)} {a_wnd : (Nat → Int32)} {a_peak : (Nat → Int32)} {a_half : (Nat → Int32)} {a_rto : (Nat → Int32)} {a_same : (Nat → Int32)} {a_tries : (Nat → Int32)} {a_smooth : (Nat → Int32)} {a_spread : (Nat → Int32)} {a_byNumber : (Nat → Int32)} {a_byAck : (Nat → Int32)} {a_sampled : (Nat → Int32)} {a_told : (Nat → Int32)} {a_retry : (Nat → Int32)} {a_ackAt : (Nat → Int32)} {a_waitAt : (Nat → Int32)} {a_timedAt : (Nat → Int32)} {a_timed : (Nat → Int64)} {e k m : Nat} {SB : Nat → Int32} (hv : vy_S q (gq_sh G e k m) (f_now, f_sent, a_seq, a_flags, a_acked, a_window, a_many, a_data, a_rows, a_state, a_error, a_iss, a_una, a_nxt, a_max, a_last, a_closed, a_written, a_irs, a_unread, a_bytes, a_held, a_rcv, a_finAt, a_marked, a_wnd, a_peak, a_half, a_rto, a_same, a_tries, a_smooth, a_spread, a_byNumber, a_byAck, a_sampled, a_told, a_retry, a_ackAt, a_waitAt, a_timedAt, a_timed)) (hk : k ≤ m) (hm : 16 * e + m + 1 < 32) (hSB : ∀ j, SB j = if 8 * (16 * e + m) ≤ j ∧ j < 8 * (16 * e + m) + 8 then a_data (8 * (16 * e + m + 1) + (j - 8 * (16 * e + m))) else a_data j) : vy_S q (gq_sh G e k (m + 1)) (f_now, f_sent, upd a_seq (16 * e + m) (a_seq (16 * e + m + 1)), upd a_flags (16 * e + m) (a_flags (16 * e + m + 1)), upd a_acked (16 * e + m) (a_acked (16 * e + m + 1)), upd a_window (16 * e + m) (a_window (16 * e + m + 1)), upd a_many (16 * e + m) (a_many (16 * e + m + 1)), SB, a_rows, a_state, a_error, a_iss, a_una, a_nxt, a_max, a_last, a_closed, a_written, a_irs, a_unread, a_bytes, a_held, a_rcv, a_finAt, a_marked, a_wnd, a_peak, a_half, a_rto, a_same, a_tries, a_smooth, a_spread, a_byNumber, a_byAck, a_sampled, a_told, a_retry, a_ackAt, a_waitAt, a_timedAt, a_timed) := by
  obtain ⟨h_now, h_sent, h_seq, h_flags, h_acked, h_window, h_many, h_data, h_rows, h_state, h_error, h_iss, h_una, h_nxt, h_max, h_last, h_closed, h_written, h_irs, h_unread, h_bytes, h_held, h_rcv, h_finAt, h_marked, h_wnd, h_peak, h_half, h_rto, h_same, h_tries, h_smooth, h_spread, h_byNumber, h_byAck, h_sampled, h_told, h_retry, h_ackAt, h_waitAt, h_timedAt, h_timed⟩ := hv
  have key : ∀ (f : Nat) (A : Nat → Int32), (∀ i, i < 32 → A i = zi_n (gm_L (gq_sh G e k m) f i)) → ∀ i, i < 32 → upd A (16 * e + m) (A (16 * e + m + 1)) i = zi_n (gm_L (gq_sh G e k (m + 1)) f i) := by
    intro f A hA i hi
    have t1 : ∀ i, gm_L (gq_sh G e k m) f i = if 16 * e + k ≤ i ∧ i < 16 * e + m then gm_L G f (i + 1) else gm_L G f i := fun i => rfl
    have t2 : gm_L (gq_sh G e k (m + 1)) f i = if 16 * e + k ≤ i ∧ i < 16 * e + (m + 1) then gm_L G f (i + 1) else gm_L G f i := rfl
    rw [t2]
    by_cases w : i = 16 * e + m
    · rw [w, zu_s, hA _ hm, t1, if_neg (by omega), if_pos (by omega)]
    · rw [zu_n w, hA i hi, t1]
      by_cases w2 : 16 * e + k ≤ i ∧ i < 16 * e + m
      · rw [if_pos w2, if_pos (by omega)]
      · rw [if_neg w2, if_neg (by omega)]
  refine (vy_mk h_now h_sent (key 0 _ h_seq) (key 1 _ h_flags) (key 2 _ h_acked) (key 3 _ h_window) (key 4 _ h_many) (fun j hj => ?_) h_rows h_state h_error h_iss h_una h_nxt h_max h_last h_closed h_written h_irs h_unread h_bytes h_held h_rcv h_finAt h_marked h_wnd h_peak h_half h_rto h_same h_tries h_smooth h_spread h_byNumber h_byAck h_sampled h_told h_retry h_ackAt h_waitAt h_timedAt h_timed)
  have t1 : ∀ j, gm_D (gq_sh G e k m) j = if 8 * (16 * e + k) ≤ j ∧ j < 8 * (16 * e + m) then gm_D G (j + 8) else gm_D G j := fun j => rfl
  have t2 : gm_D (gq_sh G e k (m + 1)) j = if 8 * (16 * e + k) ≤ j ∧ j < 8 * (16 * e + (m + 1)) then gm_D G (j + 8) else gm_D G j := rfl
  rw [t2, hSB]
  by_cases w : 8 * (16 * e + m) ≤ j ∧ j < 8 * (16 * e + m) + 8
  · rw [if_pos w, h_data _ (by omega), t1, if_neg (by omega), if_pos (by omega)]
    congr 2; omega
  · rw [if_neg w, h_data j hj, t1]
    by_cases w2 : 8 * (16 * e + k) ≤ j ∧ j < 8 * (16 * e + m)
    · rw [if_pos w2, if_pos (by omega)]
    · rw [if_neg w2, if_neg (by omega)]
theorem yk_17 {q : Int} {G : gm_T} {p : Int32} {P : SY → Prop} {k r : Nat} (hp : vp_in p 2) (hr : G.1 30 p.toNatClampNeg = (r : Int)) (hr16 : r < 16) (hP : ∀ u', vy_S q (gq_sh G p.toNatClampNeg k r) u' → P u') : ∀ (d m f : Nat) (f_now : Int32) (f_sent : Int32) (a_seq : (Nat → Int32)) (a_flags : (Nat → Int32)) (a_acked : (Nat → Int32)) (a_window : (Nat → Int32)) (a_many : (Nat → Int32)) (a_data : (Nat → Int32)) (a_rows : (Nat → Int32)) (a_state : (Nat → Int32)) (a_error : (Nat → Int32)) (a_iss : (Nat → Int32)) (a_una : (Nat → Int64)) (a_nxt : (Nat → Int64)) (a_max : (Nat → Int64)) (a_last : (Nat → Int64)) (a_closed : (Nat → Int32)) (a_written : (Nat → Int32)) (a_irs : (Nat → Int32)) (a_unread : (Nat → Int32)) (a_bytes : (Nat → Int32)) (a_held : (Nat → Int32)) (a_rcv : (Nat → Int64)) (a_finAt : (Nat → Int64)) (a_marked : (Nat → Int32)) (a_wnd : (Nat → Int32)) (a_peak : (Nat → Int32)) (a_half : (Nat → Int32)) (a_rto : (Nat → Int32)) (a_same : (Nat → Int32)) (a_tries : (Nat → Int32)) (a_smooth : (Nat → Int32)) (a_spread : (Nat → Int32)) (a_byNumber : (Nat → Int32)) (a_byAck : (Nat → Int32)) (a_sampled : (Nat → Int32)) (a_told : (Nat → Int32)) (a_retry : (Nat → Int32)) (a_ackAt : (Nat → Int32)) (a_waitAt : (Nat → Int32)) (a_timedAt : (Nat → Int32)) (a_timed : (Nat → Int64)), m + d = r → k ≤ m → d < f → vy_S q (gq_sh G p.toNatClampNeg k m) (f_now, f_sent, a_seq, a_flags, a_acked, a_window, a_many, a_data, a_rows, a_state, a_error, a_iss, a_una, a_nxt, a_max, a_last, a_closed, a_written, a_irs, a_unread, a_bytes, a_held, a_rcv, a_finAt, a_marked, a_wnd, a_peak, a_half, a_rto, a_same, a_tries, a_smooth, a_spread, a_byNumber, a_byAck, a_sampled, a_told, a_retry, a_ackAt, a_waitAt, a_timedAt, a_timed) → wY_take_17 P p f (zi_n (16 * (p.toNatClampNeg : Int) + m)) f_now f_sent a_seq a_flags a_acked a_window a_many a_data a_rows a_state a_error a_iss a_una a_nxt a_max a_last a_closed a_written a_irs a_unread a_bytes a_held a_rcv a_finAt a_marked a_wnd a_peak a_half a_rto a_same a_tries a_smooth a_spread a_byNumber a_byAck a_sampled a_told a_retry a_ackAt a_waitAt a_timedAt a_timed := by
  have he := pe_lt hp
  have hz := pe_z hp
  intro d
  induction d with
  | zero =>
    intro m f f_now f_sent a_seq a_flags a_acked a_window a_many a_data a_rows a_state a_error a_iss a_una a_nxt a_max a_last a_closed a_written a_irs a_unread a_bytes a_held a_rcv a_finAt a_marked a_wnd a_peak a_half a_rto a_same a_tries a_smooth a_spread a_byNumber a_byAck a_sampled a_told a_retry a_ackAt a_waitAt a_timedAt a_timed hm hk hf hv
    obtain ⟨f, rfl⟩ : ∃ g, f = g + 1 := ⟨f - 1, by omega⟩
    obtain rfl : m = r := by omega
    have hrw : a_rows p.toNatClampNeg = zi_n (m : Int) := by rw [← hr]; obtain ⟨h_now, h_sent, h_seq, h_flags, h_acked, h_window, h_many, h_data, h_rows, h_state, h_error, h_iss, h_una, h_nxt, h_max, h_last, h_closed, h_written, h_irs, h_unread, h_bytes, h_held, h_rcv, h_finAt, h_marked, h_wnd, h_peak, h_half, h_rto, h_same, h_tries, h_smooth, h_spread, h_byNumber, h_byAck, h_sampled, h_told, h_retry, h_ackAt, h_waitAt, h_timedAt, h_timed⟩ := hv; exact h_rows _ he
    have e1 : 16 * p + a_rows p.toNatClampNeg = zi_n (16 * (p.toNatClampNeg : Int) + m) := by
      rw [hrw]
      generalize p.toNatClampNeg = e at *
      rw [hz, zk_16, zi_mul, zi_add]
    exact ⟨hp, br_t (by rw [e1]; exact Int32.le_refl _) (hP _ hv)⟩
  | succ d ih =>
    intro m f f_now f_sent a_seq a_flags a_acked a_window a_many a_data a_rows a_state a_error a_iss a_una a_nxt a_max a_last a_closed a_written a_irs a_unread a_bytes a_held a_rcv a_finAt a_marked a_wnd a_peak a_half a_rto a_same a_tries a_smooth a_spread a_byNumber a_byAck a_sampled a_told a_retry a_ackAt a_waitAt a_timedAt a_timed hm hk hf hv
    obtain ⟨f, rfl⟩ : ∃ g, f = g + 1 := ⟨f - 1, by omega⟩
    have hrw : a_rows p.toNatClampNeg = zi_n (r : Int) := by rw [← hr]; obtain ⟨h_now, h_sent, h_seq, h_flags, h_acked, h_window, h_many, h_data, h_rows, h_state, h_error, h_iss, h_una, h_nxt, h_max, h_last, h_closed, h_written, h_irs, h_unread, h_bytes, h_held, h_rcv, h_finAt, h_marked, h_wnd, h_peak, h_half, h_rto, h_same, h_tries, h_smooth, h_spread, h_byNumber, h_byAck, h_sampled, h_told, h_retry, h_ackAt, h_waitAt, h_timedAt, h_timed⟩ := hv; exact h_rows _ he
    have e1 : 16 * p + a_rows p.toNatClampNeg = zi_n (16 * (p.toNatClampNeg : Int) + r) := by
      rw [hrw]
      generalize p.toNatClampNeg = e at *
      rw [hz, zk_16, zi_mul, zi_add]
    refine ⟨hp, br_f (by rw [e1, zi_le (by omega) (by omega) (by omega) (by omega)]; omega) ?_⟩
    refine yl_copy (a := 16 * p.toNatClampNeg + m + 1) (b := 16 * p.toNatClampNeg + m) (by rw [zk_1, zi_add]; congr 1 <;> omega) (by congr 1 <;> omega) (by omega) (by omega) (by omega) fun SB hSB => ?_
    refine nm_r (e' := zi_n (16 * (p.toNatClampNeg : Int) + ((m + 1 : Nat) : Int))) (by rw [zk_1, zi_add]; congr 1 <;> omega) ?_
    exact ih (m + 1) f f_now f_sent (upd a_seq (16 * p.toNatClampNeg + m) (a_seq (16 * p.toNatClampNeg + m + 1))) (upd a_flags (16 * p.toNatClampNeg + m) (a_flags (16 * p.toNatClampNeg + m + 1))) (upd a_acked (16 * p.toNatClampNeg + m) (a_acked (16 * p.toNatClampNeg + m + 1))) (upd a_window (16 * p.toNatClampNeg + m) (a_window (16 * p.toNatClampNeg + m + 1))) (upd a_many (16 * p.toNatClampNeg + m) (a_many (16 * p.toNatClampNeg + m + 1))) (SB) a_rows a_state a_error a_iss a_una a_nxt a_max a_last a_closed a_written a_irs a_unread a_bytes a_held a_rcv a_finAt a_marked a_wnd a_peak a_half a_rto a_same a_tries a_smooth a_spread a_byNumber a_byAck a_sampled a_told a_retry a_ackAt a_waitAt a_timedAt a_timed (by omega) (by omega) (by omega) (vy_sh hv hk (by omega) hSB)
theorem yl_take {q : Int} {G : gm_T} {u : SY} {p x : Int32} {P : SY → Prop} {k : Nat} (hv : vy_S q G u) (hp : vp_in p 2) (hx : x = zi_n (k : Int)) (hk : (k : Int) < G.1 30 p.toNatClampNeg) (h16 : G.1 30 p.toNatClampNeg ≤ 16) (hP : ∀ u', vy_S q (gp_rm G p.toNatClampNeg k) u' → P u') : wpY_take P u p x := by
  obtain ⟨f_now, f_sent, a_seq, a_flags, a_acked, a_window, a_many, a_data, a_rows, a_state, a_error, a_iss, a_una, a_nxt, a_max, a_last, a_closed, a_written, a_irs, a_unread, a_bytes, a_held, a_rcv, a_finAt, a_marked, a_wnd, a_peak, a_half, a_rto, a_same, a_tries, a_smooth, a_spread, a_byNumber, a_byAck, a_sampled, a_told, a_retry, a_ackAt, a_waitAt, a_timedAt, a_timed⟩ := u
  have hv0 := hv
  obtain ⟨h_now, h_sent, h_seq, h_flags, h_acked, h_window, h_many, h_data, h_rows, h_state, h_error, h_iss, h_una, h_nxt, h_max, h_last, h_closed, h_written, h_irs, h_unread, h_bytes, h_held, h_rcv, h_finAt, h_marked, h_wnd, h_peak, h_half, h_rto, h_same, h_tries, h_smooth, h_spread, h_byNumber, h_byAck, h_sampled, h_told, h_retry, h_ackAt, h_waitAt, h_timedAt, h_timed⟩ := hv0
  have he := pe_lt hp
  have hz := pe_z hp
  obtain ⟨r, hr⟩ : ∃ r : Nat, G.1 30 p.toNatClampNeg = (r : Int) + 1 := ⟨(G.1 30 p.toNatClampNeg - 1).toNat, by omega⟩
  have hr1 : (gp_put G 30 p.toNatClampNeg (r : Int)).1 30 p.toNatClampNeg = (r : Int) := pu_s
  have e1 : gq_sh (gp_put G 30 p.toNatClampNeg (r : Int)) p.toNatClampNeg k r = gp_rm G p.toNatClampNeg k := by
    have tL : (fun f i => if 16 * p.toNatClampNeg + k ≤ i ∧ (i : Int) < 16 * p.toNatClampNeg + G.1 30 p.toNatClampNeg - 1 then gm_L G f (i + 1) else gm_L G f i) = (fun f i => if 16 * p.toNatClampNeg + k ≤ i ∧ i < 16 * p.toNatClampNeg + r then gm_L G f (i + 1) else gm_L G f i) := by
      funext f i
      by_cases w : 16 * p.toNatClampNeg + k ≤ i ∧ i < 16 * p.toNatClampNeg + r
      · rw [if_pos w, if_pos (by omega)]
      · rw [if_neg w, if_neg (by omega)]
    have tD : (fun j => if 8 * (16 * p.toNatClampNeg + k) ≤ j ∧ (j : Int) < 8 * (16 * p.toNatClampNeg + G.1 30 p.toNatClampNeg - 1) then gm_D G (j + 8) else gm_D G j) = (fun j => if 8 * (16 * p.toNatClampNeg + k) ≤ j ∧ j < 8 * (16 * p.toNatClampNeg + r) then gm_D G (j + 8) else gm_D G j) := by
      funext j
      by_cases w : 8 * (16 * p.toNatClampNeg + k) ≤ j ∧ j < 8 * (16 * p.toNatClampNeg + r)
      · rw [if_pos w, if_pos (by omega)]
      · rw [if_neg w, if_neg (by omega)]
    unfold gp_rm
    rw [tL, tD, hr, show (r : Int) + 1 - 1 = r from by omega]
    rfl
  rw [← e1] at hP
  unfold wpY_take
  refine ⟨hp, hp, nm_r (e' := upd a_rows p.toNatClampNeg (zi_n (r : Int))) ?_ (nm_r (e' := zi_n (16 * (p.toNatClampNeg : Int) + k)) ?_ ⟨17, ?_⟩)⟩
  · rw [h_rows _ he, hr, zk_1, zi_sub]; congr 2; omega
  · rw [hx]
    generalize p.toNatClampNeg = e at *
    rw [hz, zk_16, zi_mul, zi_add]
  · refine yk_17 hp hr1 (by omega) hP (r - k) k 17 f_now f_sent a_seq a_flags a_acked a_window a_many a_data (upd a_rows p.toNatClampNeg (zi_n (r : Int))) a_state a_error a_iss a_una a_nxt a_max a_last a_closed a_written a_irs a_unread a_bytes a_held a_rcv a_finAt a_marked a_wnd a_peak a_half a_rto a_same a_tries a_smooth a_spread a_byNumber a_byAck a_sampled a_told a_retry a_ackAt a_waitAt a_timedAt a_timed (by omega) (by omega) (by omega) ?_
    rw [sh_0]
    exact (vy_mk h_now h_sent h_seq h_flags h_acked h_window h_many h_data (vu_e h_rows (by rw [pu_s]) (fun e' y => pu_o y _)) h_state h_error h_iss h_una h_nxt h_max h_last h_closed h_written h_irs h_unread h_bytes h_held h_rcv h_finAt h_marked h_wnd h_peak h_half h_rto h_same h_tries h_smooth h_spread h_byNumber h_byAck h_sampled h_told h_retry h_ackAt h_waitAt h_timedAt h_timed)
